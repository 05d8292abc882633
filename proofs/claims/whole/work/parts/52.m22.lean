/-! the reference: buyers from the text -/
def tOne (σ : xS) : xS := tkS (gbS σ) 0 0 99
theorem tOne_83 (σ : xS) : (tOne σ).1 83 = σ.1 83 := by rw [tOne, tkS_o _ _ _ _ (by decide) (by decide), gbS_o _ (by decide)]
def oneS (σ : xS) (g : Nat → Int32) : xS := if tkB (gbS σ) 0 99 then xrow (tOne σ) 83 g else tOne σ
theorem c_X6_takesBuyer_full (d : Nat) {E : xE} {σ : xS} (hP : σ.1 83 2 = 3) : Ct E (d + 5) yX6_takesBuyer cX6_takesBuyer 1 (some .boolean) [.ref (E.1 73)] σ (some (.int 0)) σ := by
  refine Ct.of (by decide +kernel) (Nat.le_of_ble_eq_true rfl) ⟨_, rfl, rfl⟩ ?_
  show Ev E _ RX6 cX6_takesBuyer 1 _ 0 [some (.ref (E.1 73))] [] _
  refine ev_aload_0 dX6_takesBuyer_0 ?_
  refine ev_get dX6_takesBuyer_1 fk_X6_42 (by first | assumption | decide) (by decide) rfl ?_
  refine ev_iconst_2 dX6_takesBuyer_4 ?_
  refine ev_aldL (n := 2) dX6_takesBuyer_5 (by first | assumption | decide) (by have := xls; omega) ?_
  refine ev_iconst_3 dX6_takesBuyer_6 ?_
  refine Ev.pc 7 rfl ?_
  refine ev_icmp_ne 12 dX6_takesBuyer_7 rfl (fun h7 => ?_) (fun h7 => ?_)
  · exact absurd hP h7
  · refine ev_iconst_0 dX6_takesBuyer_10 ?_
    exact ev_ireturn dX6_takesBuyer_11 ⟨by rfl, by rfl⟩
theorem c_X6_takesBuyer (d : Nat) {E : xE} {σ : xS} {B : Nat} (h : MrOK σ) (hP : σ.1 83 2 = nI B) (hP7 : B < 3) : Ct E (d + 5) yX6_takesBuyer cX6_takesBuyer 1 (some .boolean) [.ref (E.1 73)] σ (some (.int (b2i (tkB (gbS σ) 0 99)))) (oneS σ (upd (upd (σ.1 83) (21 + B) ((gbS σ).1 73 15)) 2 (nI (B + 1)))) := by
  by_cases q1 : tkB (gbS σ) 0 99
  · have ev0 : (tOne σ).1 84 0 = (gbS σ).1 73 15 := tkS_84 q1
    have e83 := tOne_83 σ
    rw [← b2i_t q1, oneS, if_pos q1]
    refine Ct.of (by decide +kernel) (Nat.le_of_ble_eq_true rfl) ⟨_, rfl, rfl⟩ ?_
    show Ev E _ RX6 cX6_takesBuyer 1 _ 0 [some (.ref (E.1 73))] [] _
    refine ev_aload_0 dX6_takesBuyer_0 ?_
    refine ev_get dX6_takesBuyer_1 fk_X6_42 (by first | assumption | decide) (by decide) rfl ?_
    refine ev_iconst_2 dX6_takesBuyer_4 ?_
    refine ev_aldL (n := 2) dX6_takesBuyer_5 (by first | assumption | decide) (by have := xls; omega) ?_
    refine ev_iconst_3 dX6_takesBuyer_6 ?_
    refine Ev.pc 7 rfl ?_
    refine ev_icmp_ne 12 dX6_takesBuyer_7 rfl (fun h7 => ?_) (fun h7 => ?_)
    · refine ev_aload_0 dX6_takesBuyer_12 ?_
      refine ev_invV (ci := 6) dX6_takesBuyer_13 ml_X6_260 mt_X6_goBehind (c_X6_goBehindQ (d + 1) h) (by first | assumption | decide) (by decide) rfl rfl rfl (rm_ok (by omega)) (Nat.le_of_ble_eq_true rfl) ?_
      refine Ev.pc 16 rfl ?_
      refine ev_aload_0 dX6_takesBuyer_16 ?_
      refine ev_iconst_0 dX6_takesBuyer_17 ?_
      refine ev_iconst_0 dX6_takesBuyer_18 ?_
      refine Ev.pc 19 rfl ?_
      refine ev_bipush (99) dX6_takesBuyer_19 rfl ?_
      refine ev_invV (ci := 6) dX6_takesBuyer_21 ml_X6_263 mt_X6_takes (c_X6_takesQ d (i := 0) (MrOK_gb h) rfl (by decide)) (by first | assumption | decide) (by decide) rfl rfl rfl (rm_ok (by omega)) (Nat.le_of_ble_eq_true rfl) ?_
      rw [← tOne]
      refine Ev.pc 24 rfl ?_
      refine ev_if_ne 29 dX6_takesBuyer_24 rfl (fun h24 => ?_) (fun h24 => ?_)
      · refine ev_aload_0 dX6_takesBuyer_29 ?_
        refine ev_get dX6_takesBuyer_30 fk_X6_42 (by first | assumption | decide) (by decide) rfl ?_
        refine ev_bipush (21) dX6_takesBuyer_33 rfl ?_
        refine ev_aload_0 dX6_takesBuyer_35 ?_
        refine ev_get dX6_takesBuyer_36 fk_X6_42 (by first | assumption | decide) (by decide) rfl ?_
        refine Ev.pc 39 rfl ?_
        refine ev_iconst_2 dX6_takesBuyer_39 ?_
        refine ev_aldL (n := 2) dX6_takesBuyer_40 (by first | assumption | decide) (by have := xls; omega) ?_
        rw [e83, hP]
        refine ev_iadd dX6_takesBuyer_41 ?_
        refine ev_aload_0 dX6_takesBuyer_42 ?_
        refine ev_get dX6_takesBuyer_43 fk_X6_45 (by first | assumption | decide) (by decide) rfl ?_
        refine Ev.pc 46 rfl ?_
        refine ev_iconst_0 dX6_takesBuyer_46 ?_
        refine ev_aldL (n := 0) dX6_takesBuyer_47 (by first | assumption | decide) (by have := xls; omega) ?_
        rw [ev0]
        refine ev_astA (n := 21) dX6_takesBuyer_48 (by first | assumption | decide) (by have := xls; omega) ?_
        refine ev_aload_0 dX6_takesBuyer_49 ?_
        refine ev_get dX6_takesBuyer_50 fk_X6_42 (by first | assumption | decide) (by decide) rfl ?_
        refine Ev.pc 53 rfl ?_
        refine ev_iconst_2 dX6_takesBuyer_53 ?_
        refine ev_dup2 dX6_takesBuyer_54 rfl rfl ?_
        refine ev_aldL (n := 2) dX6_takesBuyer_55 (by first | assumption | decide) (by have := xls; omega) ?_
        simp only [xrow_row, xrow_at, e83]
        rw [upd_ne _ _ (by omega), hP]
        refine ev_iconst_1 dX6_takesBuyer_56 ?_
        refine ev_iadd dX6_takesBuyer_57 ?_
        refine Ev.pc 58 rfl ?_
        rw [nI_1]
        refine ev_astL (n := 2) dX6_takesBuyer_58 (by first | assumption | decide) (by have := xls; omega) ?_
        simp only [xrow_row, xrow_at]
        refine ev_iconst_1 dX6_takesBuyer_59 ?_
        exact ev_ireturn dX6_takesBuyer_60 ⟨by rfl, by rfl⟩
      · exact absurd q1 (b2i_0.mp h24)
    · exact absurd ((nI_eq (a := B) (b := 3) (by omega) (by omega)).mp (by rw [← hP]; exact h7)) (by omega)
  · rw [← b2i_f q1, oneS, if_neg q1]
    refine Ct.of (by decide +kernel) (Nat.le_of_ble_eq_true rfl) ⟨_, rfl, rfl⟩ ?_
    show Ev E _ RX6 cX6_takesBuyer 1 _ 0 [some (.ref (E.1 73))] [] _
    refine ev_aload_0 dX6_takesBuyer_0 ?_
    refine ev_get dX6_takesBuyer_1 fk_X6_42 (by first | assumption | decide) (by decide) rfl ?_
    refine ev_iconst_2 dX6_takesBuyer_4 ?_
    refine ev_aldL (n := 2) dX6_takesBuyer_5 (by first | assumption | decide) (by have := xls; omega) ?_
    refine ev_iconst_3 dX6_takesBuyer_6 ?_
    refine Ev.pc 7 rfl ?_
    refine ev_icmp_ne 12 dX6_takesBuyer_7 rfl (fun h7 => ?_) (fun h7 => ?_)
    · refine ev_aload_0 dX6_takesBuyer_12 ?_
      refine ev_invV (ci := 6) dX6_takesBuyer_13 ml_X6_260 mt_X6_goBehind (c_X6_goBehindQ (d + 1) h) (by first | assumption | decide) (by decide) rfl rfl rfl (rm_ok (by omega)) (Nat.le_of_ble_eq_true rfl) ?_
      refine Ev.pc 16 rfl ?_
      refine ev_aload_0 dX6_takesBuyer_16 ?_
      refine ev_iconst_0 dX6_takesBuyer_17 ?_
      refine ev_iconst_0 dX6_takesBuyer_18 ?_
      refine Ev.pc 19 rfl ?_
      refine ev_bipush (99) dX6_takesBuyer_19 rfl ?_
      refine ev_invV (ci := 6) dX6_takesBuyer_21 ml_X6_263 mt_X6_takes (c_X6_takesQ d (i := 0) (MrOK_gb h) rfl (by decide)) (by first | assumption | decide) (by decide) rfl rfl rfl (rm_ok (by omega)) (Nat.le_of_ble_eq_true rfl) ?_
      rw [← tOne]
      refine Ev.pc 24 rfl ?_
      refine ev_if_ne 29 dX6_takesBuyer_24 rfl (fun h24 => ?_) (fun h24 => ?_)
      · exact absurd (b2i_n0.mp h24) q1
      · refine ev_iconst_0 dX6_takesBuyer_27 ?_
        exact ev_ireturn dX6_takesBuyer_28 ⟨by rfl, by rfl⟩
    · exact absurd ((nI_eq (a := B) (b := 3) (by omega) (by omega)).mp (by rw [← hP]; exact h7)) (by omega)
