/-! the reference: promises, hearers, buyers from the text -/
theorem tkS_84n (σ : xS) {i k : Nat} (lo hi : Int32) (hk : k ≠ i) : (tkS σ i lo hi).1 84 k = σ.1 84 k := by
  rw [tkS]
  split
  · rw [gbS_o _ (by decide), xrow_at, upd_ne _ _ hk]
  · rfl
def tTwo (σ : xS) : xS := tkS (tkS (gbS σ) 0 0 5) 1 1 9
theorem tTwo_83 (σ : xS) : (tTwo σ).1 83 = σ.1 83 := by rw [tTwo, tkS_o _ _ _ _ (by decide) (by decide), tkS_o _ _ _ _ (by decide) (by decide), gbS_o _ (by decide)]
theorem tTwo_v0 {σ : xS} (q : tkB (gbS σ) 0 5) : (tTwo σ).1 84 0 = (gbS σ).1 73 15 := by rw [tTwo, tkS_84n _ _ _ (by decide), tkS_84 q]
theorem tTwo_v1 {σ : xS} (q : tkB (tkS (gbS σ) 0 0 5) 1 9) : (tTwo σ).1 84 1 = (tkS (gbS σ) 0 0 5).1 73 15 := by rw [tTwo, tkS_84 q]
abbrev twoB (σ : xS) : Prop := tkB (gbS σ) 0 5 ∧ tkB (tkS (gbS σ) 0 0 5) 1 9
def twoS (σ : xS) (g : Nat → Int32) : xS := if tkB (gbS σ) 0 5 then (if tkB (tkS (gbS σ) 0 0 5) 1 9 then xrow (tTwo σ) 83 g else tTwo σ) else tkS (gbS σ) 0 0 5
theorem c_X6_takesPromise_full (d : Nat) {E : xE} {σ : xS} (hP : σ.1 83 0 = 7) : Ct E (d + 5) yX6_takesPromise cX6_takesPromise 1 (some .boolean) [.ref (E.1 73)] σ (some (.int 0)) σ := by
  refine Ct.of (by decide +kernel) (Nat.le_of_ble_eq_true rfl) ⟨_, rfl, rfl⟩ ?_
  show Ev E _ RX6 cX6_takesPromise 1 _ 0 [some (.ref (E.1 73))] [] _
  refine ev_aload_0 dX6_takesPromise_0 ?_
  refine ev_get dX6_takesPromise_1 fk_X6_42 (by first | assumption | decide) (by decide) rfl ?_
  refine ev_iconst_0 dX6_takesPromise_4 ?_
  refine ev_aldL (n := 0) dX6_takesPromise_5 (by first | assumption | decide) (by have := xls; omega) ?_
  refine ev_bipush (7) dX6_takesPromise_6 rfl ?_
  refine Ev.pc 8 rfl ?_
  refine ev_icmp_ne 13 dX6_takesPromise_8 rfl (fun h8 => ?_) (fun h8 => ?_)
  · exact absurd hP h8
  · refine ev_iconst_0 dX6_takesPromise_11 ?_
    exact ev_ireturn dX6_takesPromise_12 ⟨by rfl, by rfl⟩
theorem c_X6_takesPromise (d : Nat) {E : xE} {σ : xS} {P : Nat} (h : MrOK σ) (hP : σ.1 83 0 = nI P) (hP7 : P < 7) : Ct E (d + 5) yX6_takesPromise cX6_takesPromise 1 (some .boolean) [.ref (E.1 73)] σ (some (.int (b2i (twoB σ)))) (twoS σ (mLay (σ.1 83) P ((gbS σ).1 73 15) ((tkS (gbS σ) 0 0 5).1 73 15))) := by
  by_cases q1 : tkB (gbS σ) 0 5
  · by_cases q2 : tkB (tkS (gbS σ) 0 0 5) 1 9
    · have ev0 := tTwo_v0 q1
      have ev1 := tTwo_v1 q2
      have e83 := tTwo_83 σ
      have hl := c_X6_layPromise (d + 4) (E := E) (σ := tTwo σ) (r := 83) (P := P) (k := ((gbS σ).1 73 15)) (w := ((tkS (gbS σ) 0 0 5).1 73 15)) (by decide) (by decide) (by rw [tTwo_83]; exact hP) (by omega)
      rw [tTwo_83] at hl
      rw [← b2i_t ⟨q1, q2⟩, twoS, if_pos q1, if_pos q2]
      refine Ct.of (by decide +kernel) (Nat.le_of_ble_eq_true rfl) ⟨_, rfl, rfl⟩ ?_
      show Ev E _ RX6 cX6_takesPromise 1 _ 0 [some (.ref (E.1 73))] [] _
      refine ev_aload_0 dX6_takesPromise_0 ?_
      refine ev_get dX6_takesPromise_1 fk_X6_42 (by first | assumption | decide) (by decide) rfl ?_
      refine ev_iconst_0 dX6_takesPromise_4 ?_
      refine ev_aldL (n := 0) dX6_takesPromise_5 (by first | assumption | decide) (by have := xls; omega) ?_
      refine ev_bipush (7) dX6_takesPromise_6 rfl ?_
      refine Ev.pc 8 rfl ?_
      refine ev_icmp_ne 13 dX6_takesPromise_8 rfl (fun h8 => ?_) (fun h8 => ?_)
      · refine ev_aload_0 dX6_takesPromise_13 ?_
        refine ev_invV (ci := 6) dX6_takesPromise_14 ml_X6_260 mt_X6_goBehind (c_X6_goBehindQ (d + 1) h) (by first | assumption | decide) (by decide) rfl rfl rfl (rm_ok (by omega)) (Nat.le_of_ble_eq_true rfl) ?_
        refine Ev.pc 17 rfl ?_
        refine ev_aload_0 dX6_takesPromise_17 ?_
        refine ev_iconst_0 dX6_takesPromise_18 ?_
        refine ev_iconst_0 dX6_takesPromise_19 ?_
        refine Ev.pc 20 rfl ?_
        refine ev_iconst_5 dX6_takesPromise_20 ?_
        refine ev_invV (ci := 6) dX6_takesPromise_21 ml_X6_263 mt_X6_takes (c_X6_takesQ d (i := 0) (MrOK_gb h) rfl (by decide)) (by first | assumption | decide) (by decide) rfl rfl rfl (rm_ok (by omega)) (Nat.le_of_ble_eq_true rfl) ?_
        refine Ev.pc 24 rfl ?_
        refine ev_if_eq 38 dX6_takesPromise_24 rfl (fun h24 => ?_) (fun h24 => ?_)
        · exact absurd q1 (b2i_0.mp h24)
        · refine ev_aload_0 dX6_takesPromise_27 ?_
          refine ev_iconst_1 dX6_takesPromise_28 ?_
          refine ev_iconst_1 dX6_takesPromise_29 ?_
          refine ev_bipush (9) dX6_takesPromise_30 rfl ?_
          refine ev_invV (ci := 6) dX6_takesPromise_32 ml_X6_263 mt_X6_takes (c_X6_takesQ d (i := 1) (MrOK_tk (MrOK_gb h) _ _ _) rfl (by decide)) (by first | assumption | decide) (by decide) rfl rfl rfl (rm_ok (by omega)) (Nat.le_of_ble_eq_true rfl) ?_
          rw [← tTwo]
          refine Ev.pc 35 rfl ?_
          refine ev_if_ne 40 dX6_takesPromise_35 rfl (fun h35 => ?_) (fun h35 => ?_)
          · refine ev_aload_0 dX6_takesPromise_40 ?_
            refine ev_get dX6_takesPromise_41 fk_X6_42 (by first | assumption | decide) (by decide) rfl ?_
            refine ev_aload_0 dX6_takesPromise_44 ?_
            refine ev_get dX6_takesPromise_45 fk_X6_45 (by first | assumption | decide) (by decide) rfl ?_
            refine ev_iconst_0 dX6_takesPromise_48 ?_
            refine Ev.pc 49 rfl ?_
            skip
            refine ev_aldL (n := 0) dX6_takesPromise_49 (by first | assumption | decide) (by have := xls; omega) ?_
            rw [ev0]
            refine ev_aload_0 dX6_takesPromise_50 ?_
            refine ev_get dX6_takesPromise_51 fk_X6_45 (by first | assumption | decide) (by decide) rfl ?_
            refine ev_iconst_1 dX6_takesPromise_54 ?_
            refine ev_aldL (n := 1) dX6_takesPromise_55 (by first | assumption | decide) (by have := xls; omega) ?_
            refine Ev.pc 56 rfl ?_
            rw [ev1]
            refine ev_invS dX6_takesPromise_56 ml_X6_78 mt_X6_layPromise hl rfl rfl (rm_ok (by omega)) (Nat.le_of_ble_eq_true rfl) ?_
            refine Ev.pc 59 rfl ?_
            refine ev_iconst_1 dX6_takesPromise_59 ?_
            exact ev_ireturn dX6_takesPromise_60 ⟨by rfl, by rfl⟩
          · exact absurd q2 (b2i_0.mp h35)
      · exact absurd ((nI_eq (a := P) (b := 7) (by omega) (by omega)).mp (by rw [← hP]; exact h8)) (by omega)
    · rw [← b2i_f (fun hh : twoB σ => q2 hh.2), twoS, if_pos q1, if_neg q2]
      refine Ct.of (by decide +kernel) (Nat.le_of_ble_eq_true rfl) ⟨_, rfl, rfl⟩ ?_
      show Ev E _ RX6 cX6_takesPromise 1 _ 0 [some (.ref (E.1 73))] [] _
      refine ev_aload_0 dX6_takesPromise_0 ?_
      refine ev_get dX6_takesPromise_1 fk_X6_42 (by first | assumption | decide) (by decide) rfl ?_
      refine ev_iconst_0 dX6_takesPromise_4 ?_
      refine ev_aldL (n := 0) dX6_takesPromise_5 (by first | assumption | decide) (by have := xls; omega) ?_
      refine ev_bipush (7) dX6_takesPromise_6 rfl ?_
      refine Ev.pc 8 rfl ?_
      refine ev_icmp_ne 13 dX6_takesPromise_8 rfl (fun h8 => ?_) (fun h8 => ?_)
      · refine ev_aload_0 dX6_takesPromise_13 ?_
        refine ev_invV (ci := 6) dX6_takesPromise_14 ml_X6_260 mt_X6_goBehind (c_X6_goBehindQ (d + 1) h) (by first | assumption | decide) (by decide) rfl rfl rfl (rm_ok (by omega)) (Nat.le_of_ble_eq_true rfl) ?_
        refine Ev.pc 17 rfl ?_
        refine ev_aload_0 dX6_takesPromise_17 ?_
        refine ev_iconst_0 dX6_takesPromise_18 ?_
        refine ev_iconst_0 dX6_takesPromise_19 ?_
        refine Ev.pc 20 rfl ?_
        refine ev_iconst_5 dX6_takesPromise_20 ?_
        refine ev_invV (ci := 6) dX6_takesPromise_21 ml_X6_263 mt_X6_takes (c_X6_takesQ d (i := 0) (MrOK_gb h) rfl (by decide)) (by first | assumption | decide) (by decide) rfl rfl rfl (rm_ok (by omega)) (Nat.le_of_ble_eq_true rfl) ?_
        refine Ev.pc 24 rfl ?_
        refine ev_if_eq 38 dX6_takesPromise_24 rfl (fun h24 => ?_) (fun h24 => ?_)
        · exact absurd q1 (b2i_0.mp h24)
        · refine ev_aload_0 dX6_takesPromise_27 ?_
          refine ev_iconst_1 dX6_takesPromise_28 ?_
          refine ev_iconst_1 dX6_takesPromise_29 ?_
          refine ev_bipush (9) dX6_takesPromise_30 rfl ?_
          refine ev_invV (ci := 6) dX6_takesPromise_32 ml_X6_263 mt_X6_takes (c_X6_takesQ d (i := 1) (MrOK_tk (MrOK_gb h) _ _ _) rfl (by decide)) (by first | assumption | decide) (by decide) rfl rfl rfl (rm_ok (by omega)) (Nat.le_of_ble_eq_true rfl) ?_
          refine Ev.pc 35 rfl ?_
          refine ev_if_ne 40 dX6_takesPromise_35 rfl (fun h35 => ?_) (fun h35 => ?_)
          · exact absurd (b2i_n0.mp h35) q2
          · refine ev_iconst_0 dX6_takesPromise_38 ?_
            exact ev_ireturn dX6_takesPromise_39 ⟨by rfl, by rfl⟩
      · exact absurd ((nI_eq (a := P) (b := 7) (by omega) (by omega)).mp (by rw [← hP]; exact h8)) (by omega)
  · rw [← b2i_f (fun hh : twoB σ => q1 hh.1), twoS, if_neg q1]
    refine Ct.of (by decide +kernel) (Nat.le_of_ble_eq_true rfl) ⟨_, rfl, rfl⟩ ?_
    show Ev E _ RX6 cX6_takesPromise 1 _ 0 [some (.ref (E.1 73))] [] _
    refine ev_aload_0 dX6_takesPromise_0 ?_
    refine ev_get dX6_takesPromise_1 fk_X6_42 (by first | assumption | decide) (by decide) rfl ?_
    refine ev_iconst_0 dX6_takesPromise_4 ?_
    refine ev_aldL (n := 0) dX6_takesPromise_5 (by first | assumption | decide) (by have := xls; omega) ?_
    refine ev_bipush (7) dX6_takesPromise_6 rfl ?_
    refine Ev.pc 8 rfl ?_
    refine ev_icmp_ne 13 dX6_takesPromise_8 rfl (fun h8 => ?_) (fun h8 => ?_)
    · refine ev_aload_0 dX6_takesPromise_13 ?_
      refine ev_invV (ci := 6) dX6_takesPromise_14 ml_X6_260 mt_X6_goBehind (c_X6_goBehindQ (d + 1) h) (by first | assumption | decide) (by decide) rfl rfl rfl (rm_ok (by omega)) (Nat.le_of_ble_eq_true rfl) ?_
      refine Ev.pc 17 rfl ?_
      refine ev_aload_0 dX6_takesPromise_17 ?_
      refine ev_iconst_0 dX6_takesPromise_18 ?_
      refine ev_iconst_0 dX6_takesPromise_19 ?_
      refine Ev.pc 20 rfl ?_
      refine ev_iconst_5 dX6_takesPromise_20 ?_
      refine ev_invV (ci := 6) dX6_takesPromise_21 ml_X6_263 mt_X6_takes (c_X6_takesQ d (i := 0) (MrOK_gb h) rfl (by decide)) (by first | assumption | decide) (by decide) rfl rfl rfl (rm_ok (by omega)) (Nat.le_of_ble_eq_true rfl) ?_
      refine Ev.pc 24 rfl ?_
      refine ev_if_eq 38 dX6_takesPromise_24 rfl (fun h24 => ?_) (fun h24 => ?_)
      · refine ev_iconst_0 dX6_takesPromise_38 ?_
        exact ev_ireturn dX6_takesPromise_39 ⟨by rfl, by rfl⟩
      · exact absurd (b2i_n0.mp h24) q1
    · exact absurd ((nI_eq (a := P) (b := 7) (by omega) (by omega)).mp (by rw [← hP]; exact h8)) (by omega)
theorem c_X6_takesHearer_full (d : Nat) {E : xE} {σ : xS} (hP : σ.1 83 1 = 4) : Ct E (d + 5) yX6_takesHearer cX6_takesHearer 1 (some .boolean) [.ref (E.1 73)] σ (some (.int 0)) σ := by
  refine Ct.of (by decide +kernel) (Nat.le_of_ble_eq_true rfl) ⟨_, rfl, rfl⟩ ?_
  show Ev E _ RX6 cX6_takesHearer 1 _ 0 [some (.ref (E.1 73))] [] _
  refine ev_aload_0 dX6_takesHearer_0 ?_
  refine ev_get dX6_takesHearer_1 fk_X6_42 (by first | assumption | decide) (by decide) rfl ?_
  refine ev_iconst_1 dX6_takesHearer_4 ?_
  refine ev_aldL (n := 1) dX6_takesHearer_5 (by first | assumption | decide) (by have := xls; omega) ?_
  refine ev_iconst_4 dX6_takesHearer_6 ?_
  refine Ev.pc 7 rfl ?_
  refine ev_icmp_ne 12 dX6_takesHearer_7 rfl (fun h7 => ?_) (fun h7 => ?_)
  · exact absurd hP h7
  · refine ev_iconst_0 dX6_takesHearer_10 ?_
    exact ev_ireturn dX6_takesHearer_11 ⟨by rfl, by rfl⟩
theorem c_X6_takesHearer (d : Nat) {E : xE} {σ : xS} {H : Nat} (h : MrOK σ) (hP : σ.1 83 1 = nI H) (hP7 : H < 4) : Ct E (d + 5) yX6_takesHearer cX6_takesHearer 1 (some .boolean) [.ref (E.1 73)] σ (some (.int (b2i (twoB σ)))) (twoS σ (upd (upd (upd (σ.1 83) (40 + H) ((gbS σ).1 73 15)) (44 + H) ((tkS (gbS σ) 0 0 5).1 73 15)) 1 (nI (H + 1)))) := by
  by_cases q1 : tkB (gbS σ) 0 5
  · by_cases q2 : tkB (tkS (gbS σ) 0 0 5) 1 9
    · have ev0 := tTwo_v0 q1
      have ev1 := tTwo_v1 q2
      have e83 := tTwo_83 σ
      skip
      rw [← b2i_t ⟨q1, q2⟩, twoS, if_pos q1, if_pos q2]
      refine Ct.of (by decide +kernel) (Nat.le_of_ble_eq_true rfl) ⟨_, rfl, rfl⟩ ?_
      show Ev E _ RX6 cX6_takesHearer 1 _ 0 [some (.ref (E.1 73))] [] _
      refine ev_aload_0 dX6_takesHearer_0 ?_
      refine ev_get dX6_takesHearer_1 fk_X6_42 (by first | assumption | decide) (by decide) rfl ?_
      refine ev_iconst_1 dX6_takesHearer_4 ?_
      refine ev_aldL (n := 1) dX6_takesHearer_5 (by first | assumption | decide) (by have := xls; omega) ?_
      refine ev_iconst_4 dX6_takesHearer_6 ?_
      refine Ev.pc 7 rfl ?_
      refine ev_icmp_ne 12 dX6_takesHearer_7 rfl (fun h7 => ?_) (fun h7 => ?_)
      · refine ev_aload_0 dX6_takesHearer_12 ?_
        refine ev_invV (ci := 6) dX6_takesHearer_13 ml_X6_260 mt_X6_goBehind (c_X6_goBehindQ (d + 1) h) (by first | assumption | decide) (by decide) rfl rfl rfl (rm_ok (by omega)) (Nat.le_of_ble_eq_true rfl) ?_
        refine Ev.pc 16 rfl ?_
        refine ev_aload_0 dX6_takesHearer_16 ?_
        refine ev_iconst_0 dX6_takesHearer_17 ?_
        refine ev_iconst_0 dX6_takesHearer_18 ?_
        refine Ev.pc 19 rfl ?_
        refine ev_iconst_5 dX6_takesHearer_19 ?_
        refine ev_invV (ci := 6) dX6_takesHearer_20 ml_X6_263 mt_X6_takes (c_X6_takesQ d (i := 0) (MrOK_gb h) rfl (by decide)) (by first | assumption | decide) (by decide) rfl rfl rfl (rm_ok (by omega)) (Nat.le_of_ble_eq_true rfl) ?_
        refine Ev.pc 23 rfl ?_
        refine ev_if_eq 37 dX6_takesHearer_23 rfl (fun h23 => ?_) (fun h23 => ?_)
        · exact absurd q1 (b2i_0.mp h23)
        · refine ev_aload_0 dX6_takesHearer_26 ?_
          refine ev_iconst_1 dX6_takesHearer_27 ?_
          refine ev_iconst_1 dX6_takesHearer_28 ?_
          refine ev_bipush (9) dX6_takesHearer_29 rfl ?_
          refine ev_invV (ci := 6) dX6_takesHearer_31 ml_X6_263 mt_X6_takes (c_X6_takesQ d (i := 1) (MrOK_tk (MrOK_gb h) _ _ _) rfl (by decide)) (by first | assumption | decide) (by decide) rfl rfl rfl (rm_ok (by omega)) (Nat.le_of_ble_eq_true rfl) ?_
          rw [← tTwo]
          refine Ev.pc 34 rfl ?_
          refine ev_if_ne 39 dX6_takesHearer_34 rfl (fun h34 => ?_) (fun h34 => ?_)
          · refine ev_aload_0 dX6_takesHearer_39 ?_
            refine ev_get dX6_takesHearer_40 fk_X6_42 (by first | assumption | decide) (by decide) rfl ?_
            refine ev_bipush (40) dX6_takesHearer_43 rfl ?_
            refine ev_aload_0 dX6_takesHearer_45 ?_
            refine ev_get dX6_takesHearer_46 fk_X6_42 (by first | assumption | decide) (by decide) rfl ?_
            refine Ev.pc 49 rfl ?_
            refine ev_iconst_1 dX6_takesHearer_49 ?_
            refine ev_aldL (n := 1) dX6_takesHearer_50 (by first | assumption | decide) (by have := xls; omega) ?_
            rw [e83, hP]
            refine ev_iadd dX6_takesHearer_51 ?_
            refine ev_aload_0 dX6_takesHearer_52 ?_
            refine ev_get dX6_takesHearer_53 fk_X6_45 (by first | assumption | decide) (by decide) rfl ?_
            refine Ev.pc 56 rfl ?_
            refine ev_iconst_0 dX6_takesHearer_56 ?_
            refine ev_aldL (n := 0) dX6_takesHearer_57 (by first | assumption | decide) (by have := xls; omega) ?_
            rw [ev0]
            refine ev_astA (n := 40) dX6_takesHearer_58 (by first | assumption | decide) (by have := xls; omega) ?_
            refine ev_aload_0 dX6_takesHearer_59 ?_
            refine ev_get dX6_takesHearer_60 fk_X6_42 (by first | assumption | decide) (by decide) rfl ?_
            refine Ev.pc 63 rfl ?_
            refine ev_bipush (44) dX6_takesHearer_63 rfl ?_
            refine ev_aload_0 dX6_takesHearer_65 ?_
            refine ev_get dX6_takesHearer_66 fk_X6_42 (by first | assumption | decide) (by decide) rfl ?_
            refine ev_iconst_1 dX6_takesHearer_69 ?_
            refine ev_aldL (n := 1) dX6_takesHearer_70 (by first | assumption | decide) (by have := xls; omega) ?_
            refine Ev.pc 71 rfl ?_
            simp only [xrow_row, xrow_at, e83]
            rw [upd_ne _ _ (by omega), hP]
            refine ev_iadd dX6_takesHearer_71 ?_
            refine ev_aload_0 dX6_takesHearer_72 ?_
            refine ev_get dX6_takesHearer_73 fk_X6_45 (by first | assumption | decide) (by decide) rfl ?_
            refine ev_iconst_1 dX6_takesHearer_76 ?_
            refine ev_aldL (n := 1) dX6_takesHearer_77 (by first | assumption | decide) (by have := xls; omega) ?_
            refine Ev.pc 78 rfl ?_
            rw [xrow_ne _ _ (show (84 : Nat) ≠ 83 by decide), ev1]
            refine ev_astA (n := 44) dX6_takesHearer_78 (by first | assumption | decide) (by have := xls; omega) ?_
            refine ev_aload_0 dX6_takesHearer_79 ?_
            refine ev_get dX6_takesHearer_80 fk_X6_42 (by first | assumption | decide) (by decide) rfl ?_
            refine ev_iconst_1 dX6_takesHearer_83 ?_
            refine ev_dup2 dX6_takesHearer_84 rfl rfl ?_
            refine Ev.pc 85 rfl ?_
            refine ev_aldL (n := 1) dX6_takesHearer_85 (by first | assumption | decide) (by have := xls; omega) ?_
            simp only [xrow_row, xrow_at]
            rw [upd_ne _ _ (by omega), upd_ne _ _ (by omega), hP]
            refine ev_iconst_1 dX6_takesHearer_86 ?_
            refine ev_iadd dX6_takesHearer_87 ?_
            rw [nI_1]
            refine ev_astL (n := 1) dX6_takesHearer_88 (by first | assumption | decide) (by have := xls; omega) ?_
            simp only [xrow_row, xrow_at]
            refine ev_iconst_1 dX6_takesHearer_89 ?_
            refine Ev.pc 90 rfl ?_
            exact ev_ireturn dX6_takesHearer_90 ⟨by rfl, by rfl⟩
          · exact absurd q2 (b2i_0.mp h34)
      · exact absurd ((nI_eq (a := H) (b := 4) (by omega) (by omega)).mp (by rw [← hP]; exact h7)) (by omega)
    · rw [← b2i_f (fun hh : twoB σ => q2 hh.2), twoS, if_pos q1, if_neg q2]
      refine Ct.of (by decide +kernel) (Nat.le_of_ble_eq_true rfl) ⟨_, rfl, rfl⟩ ?_
      show Ev E _ RX6 cX6_takesHearer 1 _ 0 [some (.ref (E.1 73))] [] _
      refine ev_aload_0 dX6_takesHearer_0 ?_
      refine ev_get dX6_takesHearer_1 fk_X6_42 (by first | assumption | decide) (by decide) rfl ?_
      refine ev_iconst_1 dX6_takesHearer_4 ?_
      refine ev_aldL (n := 1) dX6_takesHearer_5 (by first | assumption | decide) (by have := xls; omega) ?_
      refine ev_iconst_4 dX6_takesHearer_6 ?_
      refine Ev.pc 7 rfl ?_
      refine ev_icmp_ne 12 dX6_takesHearer_7 rfl (fun h7 => ?_) (fun h7 => ?_)
      · refine ev_aload_0 dX6_takesHearer_12 ?_
        refine ev_invV (ci := 6) dX6_takesHearer_13 ml_X6_260 mt_X6_goBehind (c_X6_goBehindQ (d + 1) h) (by first | assumption | decide) (by decide) rfl rfl rfl (rm_ok (by omega)) (Nat.le_of_ble_eq_true rfl) ?_
        refine Ev.pc 16 rfl ?_
        refine ev_aload_0 dX6_takesHearer_16 ?_
        refine ev_iconst_0 dX6_takesHearer_17 ?_
        refine ev_iconst_0 dX6_takesHearer_18 ?_
        refine Ev.pc 19 rfl ?_
        refine ev_iconst_5 dX6_takesHearer_19 ?_
        refine ev_invV (ci := 6) dX6_takesHearer_20 ml_X6_263 mt_X6_takes (c_X6_takesQ d (i := 0) (MrOK_gb h) rfl (by decide)) (by first | assumption | decide) (by decide) rfl rfl rfl (rm_ok (by omega)) (Nat.le_of_ble_eq_true rfl) ?_
        refine Ev.pc 23 rfl ?_
        refine ev_if_eq 37 dX6_takesHearer_23 rfl (fun h23 => ?_) (fun h23 => ?_)
        · exact absurd q1 (b2i_0.mp h23)
        · refine ev_aload_0 dX6_takesHearer_26 ?_
          refine ev_iconst_1 dX6_takesHearer_27 ?_
          refine ev_iconst_1 dX6_takesHearer_28 ?_
          refine ev_bipush (9) dX6_takesHearer_29 rfl ?_
          refine ev_invV (ci := 6) dX6_takesHearer_31 ml_X6_263 mt_X6_takes (c_X6_takesQ d (i := 1) (MrOK_tk (MrOK_gb h) _ _ _) rfl (by decide)) (by first | assumption | decide) (by decide) rfl rfl rfl (rm_ok (by omega)) (Nat.le_of_ble_eq_true rfl) ?_
          refine Ev.pc 34 rfl ?_
          refine ev_if_ne 39 dX6_takesHearer_34 rfl (fun h34 => ?_) (fun h34 => ?_)
          · exact absurd (b2i_n0.mp h34) q2
          · refine ev_iconst_0 dX6_takesHearer_37 ?_
            exact ev_ireturn dX6_takesHearer_38 ⟨by rfl, by rfl⟩
      · exact absurd ((nI_eq (a := H) (b := 4) (by omega) (by omega)).mp (by rw [← hP]; exact h7)) (by omega)
  · rw [← b2i_f (fun hh : twoB σ => q1 hh.1), twoS, if_neg q1]
    refine Ct.of (by decide +kernel) (Nat.le_of_ble_eq_true rfl) ⟨_, rfl, rfl⟩ ?_
    show Ev E _ RX6 cX6_takesHearer 1 _ 0 [some (.ref (E.1 73))] [] _
    refine ev_aload_0 dX6_takesHearer_0 ?_
    refine ev_get dX6_takesHearer_1 fk_X6_42 (by first | assumption | decide) (by decide) rfl ?_
    refine ev_iconst_1 dX6_takesHearer_4 ?_
    refine ev_aldL (n := 1) dX6_takesHearer_5 (by first | assumption | decide) (by have := xls; omega) ?_
    refine ev_iconst_4 dX6_takesHearer_6 ?_
    refine Ev.pc 7 rfl ?_
    refine ev_icmp_ne 12 dX6_takesHearer_7 rfl (fun h7 => ?_) (fun h7 => ?_)
    · refine ev_aload_0 dX6_takesHearer_12 ?_
      refine ev_invV (ci := 6) dX6_takesHearer_13 ml_X6_260 mt_X6_goBehind (c_X6_goBehindQ (d + 1) h) (by first | assumption | decide) (by decide) rfl rfl rfl (rm_ok (by omega)) (Nat.le_of_ble_eq_true rfl) ?_
      refine Ev.pc 16 rfl ?_
      refine ev_aload_0 dX6_takesHearer_16 ?_
      refine ev_iconst_0 dX6_takesHearer_17 ?_
      refine ev_iconst_0 dX6_takesHearer_18 ?_
      refine Ev.pc 19 rfl ?_
      refine ev_iconst_5 dX6_takesHearer_19 ?_
      refine ev_invV (ci := 6) dX6_takesHearer_20 ml_X6_263 mt_X6_takes (c_X6_takesQ d (i := 0) (MrOK_gb h) rfl (by decide)) (by first | assumption | decide) (by decide) rfl rfl rfl (rm_ok (by omega)) (Nat.le_of_ble_eq_true rfl) ?_
      refine Ev.pc 23 rfl ?_
      refine ev_if_eq 37 dX6_takesHearer_23 rfl (fun h23 => ?_) (fun h23 => ?_)
      · refine ev_iconst_0 dX6_takesHearer_37 ?_
        exact ev_ireturn dX6_takesHearer_38 ⟨by rfl, by rfl⟩
      · exact absurd (b2i_n0.mp h23) q1
    · exact absurd ((nI_eq (a := H) (b := 4) (by omega) (by omega)).mp (by rw [← hP]; exact h7)) (by omega)
