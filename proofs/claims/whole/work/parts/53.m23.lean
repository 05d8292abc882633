/-! the reference: what is bought in the text -/
def tBuyT (σ : xS) : xS := tkS (gbS σ) 0 0 (σ.1 83 2 - 1)
theorem tBuyT_83 (σ : xS) : (tBuyT σ).1 83 = σ.1 83 := by rw [tBuyT, tkS_o _ _ _ _ (by decide) (by decide), gbS_o _ (by decide)]
abbrev tBuyB (σ : xS) : Prop := (tkB (gbS σ) 0 (σ.1 83 2 - 1) ∧ tkB (tBuyT σ) 0 (σ.1 83 0 - 1)) ∧ mayF (σ.1 83) ((gbS σ).1 73 15).toNatClampNeg ((tBuyT σ).1 73 15).toNatClampNeg
def tBuyS (σ : xS) : xS := if tBuyB σ then gbS (xrow (tBuyT σ) 83 (mGoBuy (σ.1 83) ((gbS σ).1 73 15).toNatClampNeg ((tBuyT σ).1 73 15).toNatClampNeg)) else tBuyT σ
theorem c_X6_takesBuy (d : Nat) {E : xE} {σ : xS} {P B : Nat} (h : MrOK σ) (hP : σ.1 83 0 = nI P) (hP7 : P ≤ 7) (hB : σ.1 83 2 = nI B) (hB3 : B ≤ 3) : Ct E (d + 5) yX6_takesBuy cX6_takesBuy 1 (some .boolean) [.ref (E.1 73)] σ (some (.int (b2i (tBuyB σ)))) (tBuyS σ) := by
  have e83 := tBuyT_83 σ
  by_cases q1 : tkB (gbS σ) 0 (σ.1 83 2 - 1)
  · by_cases q2 : tkB (tBuyT σ) 0 (σ.1 83 0 - 1)
    · obtain ⟨b, hb, eb⟩ : ∃ b, b < B ∧ (gbS σ).1 73 15 = nI b := hasIn_nI (by omega) (by rw [← hB]; exact q1.2)
      obtain ⟨p, hp, ep⟩ : ∃ p, p < P ∧ (tBuyT σ).1 73 15 = nI p := hasIn_nI (by omega) (by rw [← hP]; exact q2.2)
      have ev0 : (tBuyT σ).1 84 0 = nI b := (tkS_84 q1).trans eb
      have hm := c_X6_mayBuy d (E := E) (σ := tBuyT σ) (r := 83) (b := b) (p := p) (by decide) (by decide) (by omega) (by omega)
      have hg := c_X6_goBuy d (E := E) (σ := tBuyT σ) (r := 83) (b := b) (p := p) (by decide) (by decide) (by omega) (by omega)
      rw [e83] at hm hg
      have hk : MrOK (xrow (tBuyT σ) 83 (mGoBuy (σ.1 83) b p)) := MrOK_of (MrOK_tk (MrOK_gb h) _ _ _) (xrow_ne _ _ (by decide))
      by_cases q3 : mayF (σ.1 83) b p
      · have qq : tBuyB σ := ⟨⟨q1, q2⟩, by rw [eb, ep, nI_clamp (by omega), nI_clamp (by omega)]; exact q3⟩
        rw [← b2i_t qq, tBuyS, if_pos qq, eb, ep, nI_clamp (by omega), nI_clamp (by omega)]
        refine Ct.of (by decide +kernel) (Nat.le_of_ble_eq_true rfl) ⟨_, rfl, rfl⟩ ?_
        show Ev E _ RX6 cX6_takesBuy 1 _ 0 [some (.ref (E.1 73))] [] _
        refine ev_aload_0 dX6_takesBuy_0 ?_
        refine ev_invV (ci := 6) dX6_takesBuy_1 ml_X6_260 mt_X6_goBehind (c_X6_goBehindQ (d + 1) h) (by first | assumption | decide) (by decide) rfl rfl rfl (rm_ok (by omega)) (Nat.le_of_ble_eq_true rfl) ?_
        refine Ev.pc 4 rfl ?_
        refine ev_aload_0 dX6_takesBuy_4 ?_
        refine ev_iconst_0 dX6_takesBuy_5 ?_
        refine ev_iconst_0 dX6_takesBuy_6 ?_
        refine Ev.pc 7 rfl ?_
        refine ev_aload_0 dX6_takesBuy_7 ?_
        refine ev_get dX6_takesBuy_8 fk_X6_42 (by first | assumption | decide) (by decide) rfl ?_
        refine ev_iconst_2 dX6_takesBuy_11 ?_
        refine ev_aldL (n := 2) dX6_takesBuy_12 (by first | assumption | decide) (by have := xls; omega) ?_
        refine ev_iconst_1 dX6_takesBuy_13 ?_
        refine Ev.pc 14 rfl ?_
        refine ev_isub dX6_takesBuy_14 ?_
        rw [gbS_o _ (show (83 : Nat) ≠ 73 by decide)]
        refine ev_invV (ci := 6) dX6_takesBuy_15 ml_X6_263 mt_X6_takes (c_X6_takesQ d (i := 0) (MrOK_gb h) rfl (by decide)) (by first | assumption | decide) (by decide) rfl rfl rfl (rm_ok (by omega)) (Nat.le_of_ble_eq_true rfl) ?_
        rw [← tBuyT]
        refine Ev.pc 18 rfl ?_
        refine ev_if_eq 70 dX6_takesBuy_18 rfl (fun h18 => ?_) (fun h18 => ?_)
        · exact absurd q1 (b2i_0.mp h18)
        · refine ev_aload_0 dX6_takesBuy_21 ?_
          refine ev_get dX6_takesBuy_22 fk_X6_244 (by first | assumption | decide) (by decide) rfl ?_
          refine ev_iconst_2 dX6_takesBuy_25 ?_
          refine ev_icmp_ne 70 dX6_takesBuy_26 rfl (fun h26 => ?_) (fun h26 => ?_)
          · exact absurd q2.1 h26
          · refine ev_aload_0 dX6_takesBuy_29 ?_
            refine ev_get dX6_takesBuy_30 fk_X6_247 (by first | assumption | decide) (by decide) rfl ?_
            refine ev_i2l dX6_takesBuy_33 ?_
            refine ev_lconst_0 dX6_takesBuy_34 ?_
            refine ev_aload_0 dX6_takesBuy_35 ?_
            refine Ev.pc 36 rfl ?_
            refine ev_get dX6_takesBuy_36 fk_X6_42 (by first | assumption | decide) (by decide) rfl ?_
            refine ev_iconst_0 dX6_takesBuy_39 ?_
            refine ev_aldL (n := 0) dX6_takesBuy_40 (by first | assumption | decide) (by have := xls; omega) ?_
            refine ev_iconst_1 dX6_takesBuy_41 ?_
            refine ev_isub dX6_takesBuy_42 ?_
            refine Ev.pc 43 rfl ?_
            refine ev_i2l dX6_takesBuy_43 ?_
            rw [e83]
            refine ev_invS dX6_takesBuy_44 ml_X6_56 mt_X6_in (c_X6_in d (v := (tBuyT σ).1 73 15) (lo := 0) (hi := σ.1 83 0 - 1) (by first | rfl | decide) (by first | rfl | decide) (by first | rfl | decide)) rfl rfl (rm_ok (by omega)) (Nat.le_of_ble_eq_true rfl) ?_
            refine Ev.pc 47 rfl ?_
            refine ev_if_eq 70 dX6_takesBuy_47 rfl (fun h47 => ?_) (fun h47 => ?_)
            · exact absurd q2.2 (b2i_0.mp h47)
            · refine ev_aload_0 dX6_takesBuy_50 ?_
              refine ev_get dX6_takesBuy_51 fk_X6_42 (by first | assumption | decide) (by decide) rfl ?_
              refine ev_aload_0 dX6_takesBuy_54 ?_
              refine ev_get dX6_takesBuy_55 fk_X6_45 (by first | assumption | decide) (by decide) rfl ?_
              refine ev_iconst_0 dX6_takesBuy_58 ?_
              refine Ev.pc 59 rfl ?_
              refine ev_aldL (n := 0) dX6_takesBuy_59 (by first | assumption | decide) (by have := xls; omega) ?_
              refine ev_aload_0 dX6_takesBuy_60 ?_
              refine ev_get dX6_takesBuy_61 fk_X6_247 (by first | assumption | decide) (by decide) rfl ?_
              rw [ev0, ep]
              refine ev_invS dX6_takesBuy_64 ml_X6_124 mt_X6_mayBuy hm rfl rfl (rm_ok (by omega)) (Nat.le_of_ble_eq_true rfl) ?_
              refine Ev.pc 67 rfl ?_
              refine ev_if_ne 72 dX6_takesBuy_67 rfl (fun h67 => ?_) (fun h67 => ?_)
              · refine ev_aload_0 dX6_takesBuy_72 ?_
                refine ev_get dX6_takesBuy_73 fk_X6_42 (by first | assumption | decide) (by decide) rfl ?_
                refine ev_aload_0 dX6_takesBuy_76 ?_
                refine ev_get dX6_takesBuy_77 fk_X6_45 (by first | assumption | decide) (by decide) rfl ?_
                refine ev_iconst_0 dX6_takesBuy_80 ?_
                refine Ev.pc 81 rfl ?_
                refine ev_aldL (n := 0) dX6_takesBuy_81 (by first | assumption | decide) (by have := xls; omega) ?_
                refine ev_aload_0 dX6_takesBuy_82 ?_
                refine ev_get dX6_takesBuy_83 fk_X6_247 (by first | assumption | decide) (by decide) rfl ?_
                rw [ev0, ep]
                refine ev_invS dX6_takesBuy_86 ml_X6_131 mt_X6_goBuy hg rfl rfl (rm_ok (by omega)) (Nat.le_of_ble_eq_true rfl) ?_
                refine Ev.pc 89 rfl ?_
                refine ev_aload_0 dX6_takesBuy_89 ?_
                refine Ev.pc 90 rfl ?_
                refine ev_invV (ci := 6) dX6_takesBuy_90 ml_X6_260 mt_X6_goBehind (c_X6_goBehindQ (d + 1) hk) (by first | assumption | decide) (by decide) rfl rfl rfl (rm_ok (by omega)) (Nat.le_of_ble_eq_true rfl) ?_
                refine Ev.pc 93 rfl ?_
                refine ev_iconst_1 dX6_takesBuy_93 ?_
                exact ev_ireturn dX6_takesBuy_94 ⟨by rfl, by rfl⟩
              · exact absurd q3 (b2i_0.mp h67)
      · have qq : ¬ tBuyB σ := fun hh => q3 (by have := hh.2; rw [eb, ep, nI_clamp (by omega), nI_clamp (by omega)] at this; exact this)
        rw [← b2i_f qq, tBuyS, if_neg qq]
        refine Ct.of (by decide +kernel) (Nat.le_of_ble_eq_true rfl) ⟨_, rfl, rfl⟩ ?_
        show Ev E _ RX6 cX6_takesBuy 1 _ 0 [some (.ref (E.1 73))] [] _
        refine ev_aload_0 dX6_takesBuy_0 ?_
        refine ev_invV (ci := 6) dX6_takesBuy_1 ml_X6_260 mt_X6_goBehind (c_X6_goBehindQ (d + 1) h) (by first | assumption | decide) (by decide) rfl rfl rfl (rm_ok (by omega)) (Nat.le_of_ble_eq_true rfl) ?_
        refine Ev.pc 4 rfl ?_
        refine ev_aload_0 dX6_takesBuy_4 ?_
        refine ev_iconst_0 dX6_takesBuy_5 ?_
        refine ev_iconst_0 dX6_takesBuy_6 ?_
        refine Ev.pc 7 rfl ?_
        refine ev_aload_0 dX6_takesBuy_7 ?_
        refine ev_get dX6_takesBuy_8 fk_X6_42 (by first | assumption | decide) (by decide) rfl ?_
        refine ev_iconst_2 dX6_takesBuy_11 ?_
        refine ev_aldL (n := 2) dX6_takesBuy_12 (by first | assumption | decide) (by have := xls; omega) ?_
        refine ev_iconst_1 dX6_takesBuy_13 ?_
        refine Ev.pc 14 rfl ?_
        refine ev_isub dX6_takesBuy_14 ?_
        rw [gbS_o _ (show (83 : Nat) ≠ 73 by decide)]
        refine ev_invV (ci := 6) dX6_takesBuy_15 ml_X6_263 mt_X6_takes (c_X6_takesQ d (i := 0) (MrOK_gb h) rfl (by decide)) (by first | assumption | decide) (by decide) rfl rfl rfl (rm_ok (by omega)) (Nat.le_of_ble_eq_true rfl) ?_
        rw [← tBuyT]
        refine Ev.pc 18 rfl ?_
        refine ev_if_eq 70 dX6_takesBuy_18 rfl (fun h18 => ?_) (fun h18 => ?_)
        · exact absurd q1 (b2i_0.mp h18)
        · refine ev_aload_0 dX6_takesBuy_21 ?_
          refine ev_get dX6_takesBuy_22 fk_X6_244 (by first | assumption | decide) (by decide) rfl ?_
          refine ev_iconst_2 dX6_takesBuy_25 ?_
          refine ev_icmp_ne 70 dX6_takesBuy_26 rfl (fun h26 => ?_) (fun h26 => ?_)
          · exact absurd q2.1 h26
          · refine ev_aload_0 dX6_takesBuy_29 ?_
            refine ev_get dX6_takesBuy_30 fk_X6_247 (by first | assumption | decide) (by decide) rfl ?_
            refine ev_i2l dX6_takesBuy_33 ?_
            refine ev_lconst_0 dX6_takesBuy_34 ?_
            refine ev_aload_0 dX6_takesBuy_35 ?_
            refine Ev.pc 36 rfl ?_
            refine ev_get dX6_takesBuy_36 fk_X6_42 (by first | assumption | decide) (by decide) rfl ?_
            refine ev_iconst_0 dX6_takesBuy_39 ?_
            refine ev_aldL (n := 0) dX6_takesBuy_40 (by first | assumption | decide) (by have := xls; omega) ?_
            refine ev_iconst_1 dX6_takesBuy_41 ?_
            refine ev_isub dX6_takesBuy_42 ?_
            refine Ev.pc 43 rfl ?_
            refine ev_i2l dX6_takesBuy_43 ?_
            rw [e83]
            refine ev_invS dX6_takesBuy_44 ml_X6_56 mt_X6_in (c_X6_in d (v := (tBuyT σ).1 73 15) (lo := 0) (hi := σ.1 83 0 - 1) (by first | rfl | decide) (by first | rfl | decide) (by first | rfl | decide)) rfl rfl (rm_ok (by omega)) (Nat.le_of_ble_eq_true rfl) ?_
            refine Ev.pc 47 rfl ?_
            refine ev_if_eq 70 dX6_takesBuy_47 rfl (fun h47 => ?_) (fun h47 => ?_)
            · exact absurd q2.2 (b2i_0.mp h47)
            · refine ev_aload_0 dX6_takesBuy_50 ?_
              refine ev_get dX6_takesBuy_51 fk_X6_42 (by first | assumption | decide) (by decide) rfl ?_
              refine ev_aload_0 dX6_takesBuy_54 ?_
              refine ev_get dX6_takesBuy_55 fk_X6_45 (by first | assumption | decide) (by decide) rfl ?_
              refine ev_iconst_0 dX6_takesBuy_58 ?_
              refine Ev.pc 59 rfl ?_
              refine ev_aldL (n := 0) dX6_takesBuy_59 (by first | assumption | decide) (by have := xls; omega) ?_
              refine ev_aload_0 dX6_takesBuy_60 ?_
              refine ev_get dX6_takesBuy_61 fk_X6_247 (by first | assumption | decide) (by decide) rfl ?_
              rw [ev0, ep]
              refine ev_invS dX6_takesBuy_64 ml_X6_124 mt_X6_mayBuy hm rfl rfl (rm_ok (by omega)) (Nat.le_of_ble_eq_true rfl) ?_
              refine Ev.pc 67 rfl ?_
              refine ev_if_ne 72 dX6_takesBuy_67 rfl (fun h67 => ?_) (fun h67 => ?_)
              · exact absurd (b2i_n0.mp h67) q3
              · refine ev_iconst_0 dX6_takesBuy_70 ?_
                exact ev_ireturn dX6_takesBuy_71 ⟨by rfl, by rfl⟩
    · have qq : ¬ tBuyB σ := fun hh => q2 hh.1.2
      rw [← b2i_f qq, tBuyS, if_neg qq]
      refine Ct.of (by decide +kernel) (Nat.le_of_ble_eq_true rfl) ⟨_, rfl, rfl⟩ ?_
      show Ev E _ RX6 cX6_takesBuy 1 _ 0 [some (.ref (E.1 73))] [] _
      refine ev_aload_0 dX6_takesBuy_0 ?_
      refine ev_invV (ci := 6) dX6_takesBuy_1 ml_X6_260 mt_X6_goBehind (c_X6_goBehindQ (d + 1) h) (by first | assumption | decide) (by decide) rfl rfl rfl (rm_ok (by omega)) (Nat.le_of_ble_eq_true rfl) ?_
      refine Ev.pc 4 rfl ?_
      refine ev_aload_0 dX6_takesBuy_4 ?_
      refine ev_iconst_0 dX6_takesBuy_5 ?_
      refine ev_iconst_0 dX6_takesBuy_6 ?_
      refine Ev.pc 7 rfl ?_
      refine ev_aload_0 dX6_takesBuy_7 ?_
      refine ev_get dX6_takesBuy_8 fk_X6_42 (by first | assumption | decide) (by decide) rfl ?_
      refine ev_iconst_2 dX6_takesBuy_11 ?_
      refine ev_aldL (n := 2) dX6_takesBuy_12 (by first | assumption | decide) (by have := xls; omega) ?_
      refine ev_iconst_1 dX6_takesBuy_13 ?_
      refine Ev.pc 14 rfl ?_
      refine ev_isub dX6_takesBuy_14 ?_
      rw [gbS_o _ (show (83 : Nat) ≠ 73 by decide)]
      refine ev_invV (ci := 6) dX6_takesBuy_15 ml_X6_263 mt_X6_takes (c_X6_takesQ d (i := 0) (MrOK_gb h) rfl (by decide)) (by first | assumption | decide) (by decide) rfl rfl rfl (rm_ok (by omega)) (Nat.le_of_ble_eq_true rfl) ?_
      rw [← tBuyT]
      refine Ev.pc 18 rfl ?_
      refine ev_if_eq 70 dX6_takesBuy_18 rfl (fun h18 => ?_) (fun h18 => ?_)
      · exact absurd q1 (b2i_0.mp h18)
      · refine ev_aload_0 dX6_takesBuy_21 ?_
        refine ev_get dX6_takesBuy_22 fk_X6_244 (by first | assumption | decide) (by decide) rfl ?_
        refine ev_iconst_2 dX6_takesBuy_25 ?_
        refine ev_icmp_ne 70 dX6_takesBuy_26 rfl (fun h26 => ?_) (fun h26 => ?_)
        · refine ev_iconst_0 dX6_takesBuy_70 ?_
          exact ev_ireturn dX6_takesBuy_71 ⟨by rfl, by rfl⟩
        · refine ev_aload_0 dX6_takesBuy_29 ?_
          refine ev_get dX6_takesBuy_30 fk_X6_247 (by first | assumption | decide) (by decide) rfl ?_
          refine ev_i2l dX6_takesBuy_33 ?_
          refine ev_lconst_0 dX6_takesBuy_34 ?_
          refine ev_aload_0 dX6_takesBuy_35 ?_
          refine Ev.pc 36 rfl ?_
          refine ev_get dX6_takesBuy_36 fk_X6_42 (by first | assumption | decide) (by decide) rfl ?_
          refine ev_iconst_0 dX6_takesBuy_39 ?_
          refine ev_aldL (n := 0) dX6_takesBuy_40 (by first | assumption | decide) (by have := xls; omega) ?_
          refine ev_iconst_1 dX6_takesBuy_41 ?_
          refine ev_isub dX6_takesBuy_42 ?_
          refine Ev.pc 43 rfl ?_
          refine ev_i2l dX6_takesBuy_43 ?_
          rw [e83]
          refine ev_invS dX6_takesBuy_44 ml_X6_56 mt_X6_in (c_X6_in d (v := (tBuyT σ).1 73 15) (lo := 0) (hi := σ.1 83 0 - 1) (by first | rfl | decide) (by first | rfl | decide) (by first | rfl | decide)) rfl rfl (rm_ok (by omega)) (Nat.le_of_ble_eq_true rfl) ?_
          refine Ev.pc 47 rfl ?_
          refine ev_if_eq 70 dX6_takesBuy_47 rfl (fun h47 => ?_) (fun h47 => ?_)
          · refine ev_iconst_0 dX6_takesBuy_70 ?_
            exact ev_ireturn dX6_takesBuy_71 ⟨by rfl, by rfl⟩
          · exact absurd ⟨h26, b2i_n0.mp h47⟩ q2
  · have qq : ¬ tBuyB σ := fun hh => q1 hh.1.1
    rw [← b2i_f qq, tBuyS, if_neg qq]
    refine Ct.of (by decide +kernel) (Nat.le_of_ble_eq_true rfl) ⟨_, rfl, rfl⟩ ?_
    show Ev E _ RX6 cX6_takesBuy 1 _ 0 [some (.ref (E.1 73))] [] _
    refine ev_aload_0 dX6_takesBuy_0 ?_
    refine ev_invV (ci := 6) dX6_takesBuy_1 ml_X6_260 mt_X6_goBehind (c_X6_goBehindQ (d + 1) h) (by first | assumption | decide) (by decide) rfl rfl rfl (rm_ok (by omega)) (Nat.le_of_ble_eq_true rfl) ?_
    refine Ev.pc 4 rfl ?_
    refine ev_aload_0 dX6_takesBuy_4 ?_
    refine ev_iconst_0 dX6_takesBuy_5 ?_
    refine ev_iconst_0 dX6_takesBuy_6 ?_
    refine Ev.pc 7 rfl ?_
    refine ev_aload_0 dX6_takesBuy_7 ?_
    refine ev_get dX6_takesBuy_8 fk_X6_42 (by first | assumption | decide) (by decide) rfl ?_
    refine ev_iconst_2 dX6_takesBuy_11 ?_
    refine ev_aldL (n := 2) dX6_takesBuy_12 (by first | assumption | decide) (by have := xls; omega) ?_
    refine ev_iconst_1 dX6_takesBuy_13 ?_
    refine Ev.pc 14 rfl ?_
    refine ev_isub dX6_takesBuy_14 ?_
    rw [gbS_o _ (show (83 : Nat) ≠ 73 by decide)]
    refine ev_invV (ci := 6) dX6_takesBuy_15 ml_X6_263 mt_X6_takes (c_X6_takesQ d (i := 0) (MrOK_gb h) rfl (by decide)) (by first | assumption | decide) (by decide) rfl rfl rfl (rm_ok (by omega)) (Nat.le_of_ble_eq_true rfl) ?_
    rw [← tBuyT]
    refine Ev.pc 18 rfl ?_
    refine ev_if_eq 70 dX6_takesBuy_18 rfl (fun h18 => ?_) (fun h18 => ?_)
    · refine ev_iconst_0 dX6_takesBuy_70 ?_
      exact ev_ireturn dX6_takesBuy_71 ⟨by rfl, by rfl⟩
    · exact absurd (b2i_n0.mp h18) q1
