/-! the reference: what is kept in the text -/
def tKa (σ : xS) : xS := tkS (gbS σ) 0 0 6
def tKb (σ : xS) : xS := tkS (tKa σ) 1 0 (σ.1 83 1 - 1)
abbrev tKeB1 (σ : xS) : Prop := tkB (gbS σ) 0 (σ.1 83 0 - 1) ∧ heldF (σ.1 83) ((gbS σ).1 73 15).toNatClampNeg
abbrev tKeB (σ : xS) : Prop := tKeB1 σ ∧ tkB (tKa σ) 0 (σ.1 83 1 - 1)
def tKeS (σ : xS) : xS := if tKeB1 σ then (if tkB (tKa σ) 0 (σ.1 83 1 - 1) then xrow (tKb σ) 83 (mGoKeep (σ.1 83) ((gbS σ).1 73 15).toNatClampNeg ((tKa σ).1 73 15).toNatClampNeg) else tKb σ) else gbS σ
theorem c_X6_takesKeep (d : Nat) {E : xE} {σ : xS} {P H : Nat} (h : MrOK σ) (hP : σ.1 83 0 = nI P) (hP7 : P ≤ 7) (hH : σ.1 83 1 = nI H) (hH4 : H ≤ 4) : Ct E (d + 5) yX6_takesKeep cX6_takesKeep 1 (some .boolean) [.ref (E.1 73)] σ (some (.int (b2i (tKeB σ)))) (tKeS σ) := by
  have e83 : (gbS σ).1 83 = σ.1 83 := gbS_o _ (by decide)
  have e83a : (tKa σ).1 83 = σ.1 83 := by rw [tKa, tkS_o _ _ _ _ (by decide) (by decide), e83]
  have e83b : (tKb σ).1 83 = σ.1 83 := by rw [tKb, tkS_o _ _ _ _ (by decide) (by decide), e83a]
  have hka : MrOK (tKa σ) := MrOK_tk (MrOK_gb h) _ _ _
  by_cases q1 : tkB (gbS σ) 0 (σ.1 83 0 - 1)
  · obtain ⟨p, hp, ep⟩ : ∃ p, p < P ∧ (gbS σ).1 73 15 = nI p := hasIn_nI (by omega) (by rw [← hP]; exact q1.2)
    have q6 : tkB (gbS σ) 0 6 := ⟨q1.1, by rw [ep]; exact ⟨nI_pos' (by omega), show nI p ≤ nI 6 from nI_le (by omega) (by omega)⟩⟩
    have hm := c_X6_isHeld (d + 4) (E := E) (σ := gbS σ) (r := 83) (p := p) (by decide) (by decide) (by omega)
    rw [e83] at hm
    have ev0 : (tKb σ).1 84 0 = nI p := by rw [tKb, tkS_84n _ _ _ (by decide), tKa, tkS_84 q6, ep]
    by_cases q2 : heldF (σ.1 83) p
    · have qq1 : tKeB1 σ := ⟨q1, by rw [ep, nI_clamp (by omega)]; exact q2⟩
      by_cases q3 : tkB (tKa σ) 0 (σ.1 83 1 - 1)
      · obtain ⟨k, hk, ek⟩ : ∃ k, k < H ∧ (tKa σ).1 73 15 = nI k := hasIn_nI (by omega) (by rw [← hH]; exact q3.2)
        have ev1 : (tKb σ).1 84 1 = nI k := (tkS_84 q3).trans ek
        have hg := c_X6_goKeep d (E := E) (σ := tKb σ) (r := 83) (p := p) (h := k) (by decide) (by decide) (by omega) (by omega)
        rw [e83b] at hg
        have qq : tKeB σ := ⟨qq1, q3⟩
        rw [← b2i_t qq, tKeS, if_pos qq1, if_pos q3, ep, ek, nI_clamp (by omega), nI_clamp (by omega)]
        refine Ct.of (by decide +kernel) (Nat.le_of_ble_eq_true rfl) ⟨_, rfl, rfl⟩ ?_
        show Ev E _ RX6 cX6_takesKeep 1 _ 0 [some (.ref (E.1 73))] [] _
        refine ev_aload_0 dX6_takesKeep_0 ?_
        refine ev_invV (ci := 6) dX6_takesKeep_1 ml_X6_260 mt_X6_goBehind (c_X6_goBehindQ (d + 1) h) (by first | assumption | decide) (by decide) rfl rfl rfl (rm_ok (by omega)) (Nat.le_of_ble_eq_true rfl) ?_
        refine Ev.pc 4 rfl ?_
        refine ev_aload_0 dX6_takesKeep_4 ?_
        refine ev_get dX6_takesKeep_5 fk_X6_244 (by first | assumption | decide) (by decide) rfl ?_
        refine ev_iconst_2 dX6_takesKeep_8 ?_
        refine Ev.pc 9 rfl ?_
        refine ev_icmp_ne 75 dX6_takesKeep_9 rfl (fun h9 => ?_) (fun h9 => ?_)
        · exact absurd q1.1 h9
        · refine ev_aload_0 dX6_takesKeep_12 ?_
          refine ev_get dX6_takesKeep_13 fk_X6_247 (by first | assumption | decide) (by decide) rfl ?_
          refine ev_i2l dX6_takesKeep_16 ?_
          refine ev_lconst_0 dX6_takesKeep_17 ?_
          refine ev_aload_0 dX6_takesKeep_18 ?_
          refine Ev.pc 19 rfl ?_
          refine ev_get dX6_takesKeep_19 fk_X6_42 (by first | assumption | decide) (by decide) rfl ?_
          refine ev_iconst_0 dX6_takesKeep_22 ?_
          refine ev_aldL (n := 0) dX6_takesKeep_23 (by first | assumption | decide) (by have := xls; omega) ?_
          refine ev_iconst_1 dX6_takesKeep_24 ?_
          refine ev_isub dX6_takesKeep_25 ?_
          refine Ev.pc 26 rfl ?_
          refine ev_i2l dX6_takesKeep_26 ?_
          rw [e83]
          refine ev_invS dX6_takesKeep_27 ml_X6_56 mt_X6_in (c_X6_in d (v := (gbS σ).1 73 15) (lo := 0) (hi := σ.1 83 0 - 1) (by first | rfl | decide) (by first | rfl | decide) (by first | rfl | decide)) rfl rfl (rm_ok (by omega)) (Nat.le_of_ble_eq_true rfl) ?_
          refine Ev.pc 30 rfl ?_
          refine ev_if_eq 75 dX6_takesKeep_30 rfl (fun h30 => ?_) (fun h30 => ?_)
          · exact absurd q1.2 (b2i_0.mp h30)
          · refine ev_aload_0 dX6_takesKeep_33 ?_
            refine ev_get dX6_takesKeep_34 fk_X6_42 (by first | assumption | decide) (by decide) rfl ?_
            refine ev_aload_0 dX6_takesKeep_37 ?_
            refine ev_get dX6_takesKeep_38 fk_X6_247 (by first | assumption | decide) (by decide) rfl ?_
            rw [ep]
            refine ev_invS dX6_takesKeep_41 ml_X6_137 mt_X6_isHeld hm rfl rfl (rm_ok (by omega)) (Nat.le_of_ble_eq_true rfl) ?_
            refine Ev.pc 44 rfl ?_
            refine ev_if_eq 75 dX6_takesKeep_44 rfl (fun h44 => ?_) (fun h44 => ?_)
            · exact absurd q2 (b2i_0.mp h44)
            · refine ev_aload_0 dX6_takesKeep_47 ?_
              refine ev_iconst_0 dX6_takesKeep_48 ?_
              refine ev_iconst_0 dX6_takesKeep_49 ?_
              refine ev_bipush (6) dX6_takesKeep_50 rfl ?_
              refine ev_invV (ci := 6) dX6_takesKeep_52 ml_X6_263 mt_X6_takes (c_X6_takesQ d (i := 0) (MrOK_gb h) rfl (by decide)) (by first | assumption | decide) (by decide) rfl rfl rfl (rm_ok (by omega)) (Nat.le_of_ble_eq_true rfl) ?_
              rw [← tKa]
              refine Ev.pc 55 rfl ?_
              refine ev_if_eq 75 dX6_takesKeep_55 rfl (fun h55 => ?_) (fun h55 => ?_)
              · exact absurd q6 (b2i_0.mp h55)
              · refine ev_aload_0 dX6_takesKeep_58 ?_
                refine ev_iconst_1 dX6_takesKeep_59 ?_
                refine ev_iconst_0 dX6_takesKeep_60 ?_
                refine ev_aload_0 dX6_takesKeep_61 ?_
                refine ev_get dX6_takesKeep_62 fk_X6_42 (by first | assumption | decide) (by decide) rfl ?_
                refine Ev.pc 65 rfl ?_
                refine ev_iconst_1 dX6_takesKeep_65 ?_
                refine ev_aldL (n := 1) dX6_takesKeep_66 (by first | assumption | decide) (by have := xls; omega) ?_
                refine ev_iconst_1 dX6_takesKeep_67 ?_
                refine ev_isub dX6_takesKeep_68 ?_
                rw [e83a]
                refine ev_invV (ci := 6) dX6_takesKeep_69 ml_X6_263 mt_X6_takes (c_X6_takesQ d (i := 1) hka rfl (by decide)) (by first | assumption | decide) (by decide) rfl rfl rfl (rm_ok (by omega)) (Nat.le_of_ble_eq_true rfl) ?_
                rw [← tKb]
                refine Ev.pc 72 rfl ?_
                refine ev_if_ne 77 dX6_takesKeep_72 rfl (fun h72 => ?_) (fun h72 => ?_)
                · refine ev_aload_0 dX6_takesKeep_77 ?_
                  refine ev_get dX6_takesKeep_78 fk_X6_42 (by first | assumption | decide) (by decide) rfl ?_
                  refine ev_aload_0 dX6_takesKeep_81 ?_
                  refine ev_get dX6_takesKeep_82 fk_X6_45 (by first | assumption | decide) (by decide) rfl ?_
                  refine ev_iconst_0 dX6_takesKeep_85 ?_
                  refine Ev.pc 86 rfl ?_
                  refine ev_aldL (n := 0) dX6_takesKeep_86 (by first | assumption | decide) (by have := xls; omega) ?_
                  refine ev_aload_0 dX6_takesKeep_87 ?_
                  refine ev_get dX6_takesKeep_88 fk_X6_45 (by first | assumption | decide) (by decide) rfl ?_
                  refine ev_iconst_1 dX6_takesKeep_91 ?_
                  refine ev_aldL (n := 1) dX6_takesKeep_92 (by first | assumption | decide) (by have := xls; omega) ?_
                  refine Ev.pc 93 rfl ?_
                  rw [ev0, ev1]
                  refine ev_invS dX6_takesKeep_93 ml_X6_140 mt_X6_goKeep hg rfl rfl (rm_ok (by omega)) (Nat.le_of_ble_eq_true rfl) ?_
                  refine Ev.pc 96 rfl ?_
                  refine ev_iconst_1 dX6_takesKeep_96 ?_
                  exact ev_ireturn dX6_takesKeep_97 ⟨by rfl, by rfl⟩
                · exact absurd q3 (b2i_0.mp h72)
      · have qq : ¬ tKeB σ := fun hh => q3 hh.2
        rw [← b2i_f qq, tKeS, if_pos qq1, if_neg q3]
        refine Ct.of (by decide +kernel) (Nat.le_of_ble_eq_true rfl) ⟨_, rfl, rfl⟩ ?_
        show Ev E _ RX6 cX6_takesKeep 1 _ 0 [some (.ref (E.1 73))] [] _
        refine ev_aload_0 dX6_takesKeep_0 ?_
        refine ev_invV (ci := 6) dX6_takesKeep_1 ml_X6_260 mt_X6_goBehind (c_X6_goBehindQ (d + 1) h) (by first | assumption | decide) (by decide) rfl rfl rfl (rm_ok (by omega)) (Nat.le_of_ble_eq_true rfl) ?_
        refine Ev.pc 4 rfl ?_
        refine ev_aload_0 dX6_takesKeep_4 ?_
        refine ev_get dX6_takesKeep_5 fk_X6_244 (by first | assumption | decide) (by decide) rfl ?_
        refine ev_iconst_2 dX6_takesKeep_8 ?_
        refine Ev.pc 9 rfl ?_
        refine ev_icmp_ne 75 dX6_takesKeep_9 rfl (fun h9 => ?_) (fun h9 => ?_)
        · exact absurd q1.1 h9
        · refine ev_aload_0 dX6_takesKeep_12 ?_
          refine ev_get dX6_takesKeep_13 fk_X6_247 (by first | assumption | decide) (by decide) rfl ?_
          refine ev_i2l dX6_takesKeep_16 ?_
          refine ev_lconst_0 dX6_takesKeep_17 ?_
          refine ev_aload_0 dX6_takesKeep_18 ?_
          refine Ev.pc 19 rfl ?_
          refine ev_get dX6_takesKeep_19 fk_X6_42 (by first | assumption | decide) (by decide) rfl ?_
          refine ev_iconst_0 dX6_takesKeep_22 ?_
          refine ev_aldL (n := 0) dX6_takesKeep_23 (by first | assumption | decide) (by have := xls; omega) ?_
          refine ev_iconst_1 dX6_takesKeep_24 ?_
          refine ev_isub dX6_takesKeep_25 ?_
          refine Ev.pc 26 rfl ?_
          refine ev_i2l dX6_takesKeep_26 ?_
          rw [e83]
          refine ev_invS dX6_takesKeep_27 ml_X6_56 mt_X6_in (c_X6_in d (v := (gbS σ).1 73 15) (lo := 0) (hi := σ.1 83 0 - 1) (by first | rfl | decide) (by first | rfl | decide) (by first | rfl | decide)) rfl rfl (rm_ok (by omega)) (Nat.le_of_ble_eq_true rfl) ?_
          refine Ev.pc 30 rfl ?_
          refine ev_if_eq 75 dX6_takesKeep_30 rfl (fun h30 => ?_) (fun h30 => ?_)
          · exact absurd q1.2 (b2i_0.mp h30)
          · refine ev_aload_0 dX6_takesKeep_33 ?_
            refine ev_get dX6_takesKeep_34 fk_X6_42 (by first | assumption | decide) (by decide) rfl ?_
            refine ev_aload_0 dX6_takesKeep_37 ?_
            refine ev_get dX6_takesKeep_38 fk_X6_247 (by first | assumption | decide) (by decide) rfl ?_
            rw [ep]
            refine ev_invS dX6_takesKeep_41 ml_X6_137 mt_X6_isHeld hm rfl rfl (rm_ok (by omega)) (Nat.le_of_ble_eq_true rfl) ?_
            refine Ev.pc 44 rfl ?_
            refine ev_if_eq 75 dX6_takesKeep_44 rfl (fun h44 => ?_) (fun h44 => ?_)
            · exact absurd q2 (b2i_0.mp h44)
            · refine ev_aload_0 dX6_takesKeep_47 ?_
              refine ev_iconst_0 dX6_takesKeep_48 ?_
              refine ev_iconst_0 dX6_takesKeep_49 ?_
              refine ev_bipush (6) dX6_takesKeep_50 rfl ?_
              refine ev_invV (ci := 6) dX6_takesKeep_52 ml_X6_263 mt_X6_takes (c_X6_takesQ d (i := 0) (MrOK_gb h) rfl (by decide)) (by first | assumption | decide) (by decide) rfl rfl rfl (rm_ok (by omega)) (Nat.le_of_ble_eq_true rfl) ?_
              rw [← tKa]
              refine Ev.pc 55 rfl ?_
              refine ev_if_eq 75 dX6_takesKeep_55 rfl (fun h55 => ?_) (fun h55 => ?_)
              · exact absurd q6 (b2i_0.mp h55)
              · refine ev_aload_0 dX6_takesKeep_58 ?_
                refine ev_iconst_1 dX6_takesKeep_59 ?_
                refine ev_iconst_0 dX6_takesKeep_60 ?_
                refine ev_aload_0 dX6_takesKeep_61 ?_
                refine ev_get dX6_takesKeep_62 fk_X6_42 (by first | assumption | decide) (by decide) rfl ?_
                refine Ev.pc 65 rfl ?_
                refine ev_iconst_1 dX6_takesKeep_65 ?_
                refine ev_aldL (n := 1) dX6_takesKeep_66 (by first | assumption | decide) (by have := xls; omega) ?_
                refine ev_iconst_1 dX6_takesKeep_67 ?_
                refine ev_isub dX6_takesKeep_68 ?_
                rw [e83a]
                refine ev_invV (ci := 6) dX6_takesKeep_69 ml_X6_263 mt_X6_takes (c_X6_takesQ d (i := 1) hka rfl (by decide)) (by first | assumption | decide) (by decide) rfl rfl rfl (rm_ok (by omega)) (Nat.le_of_ble_eq_true rfl) ?_
                rw [← tKb]
                refine Ev.pc 72 rfl ?_
                refine ev_if_ne 77 dX6_takesKeep_72 rfl (fun h72 => ?_) (fun h72 => ?_)
                · exact absurd (b2i_n0.mp h72) q3
                · refine ev_iconst_0 dX6_takesKeep_75 ?_
                  exact ev_ireturn dX6_takesKeep_76 ⟨by rfl, by rfl⟩
    · have qq1 : ¬ tKeB1 σ := fun hh => q2 (by have := hh.2; rw [ep, nI_clamp (by omega)] at this; exact this)
      rw [← b2i_f (fun hh : tKeB σ => qq1 hh.1), tKeS, if_neg qq1]
      refine Ct.of (by decide +kernel) (Nat.le_of_ble_eq_true rfl) ⟨_, rfl, rfl⟩ ?_
      show Ev E _ RX6 cX6_takesKeep 1 _ 0 [some (.ref (E.1 73))] [] _
      refine ev_aload_0 dX6_takesKeep_0 ?_
      refine ev_invV (ci := 6) dX6_takesKeep_1 ml_X6_260 mt_X6_goBehind (c_X6_goBehindQ (d + 1) h) (by first | assumption | decide) (by decide) rfl rfl rfl (rm_ok (by omega)) (Nat.le_of_ble_eq_true rfl) ?_
      refine Ev.pc 4 rfl ?_
      refine ev_aload_0 dX6_takesKeep_4 ?_
      refine ev_get dX6_takesKeep_5 fk_X6_244 (by first | assumption | decide) (by decide) rfl ?_
      refine ev_iconst_2 dX6_takesKeep_8 ?_
      refine Ev.pc 9 rfl ?_
      refine ev_icmp_ne 75 dX6_takesKeep_9 rfl (fun h9 => ?_) (fun h9 => ?_)
      · exact absurd q1.1 h9
      · refine ev_aload_0 dX6_takesKeep_12 ?_
        refine ev_get dX6_takesKeep_13 fk_X6_247 (by first | assumption | decide) (by decide) rfl ?_
        refine ev_i2l dX6_takesKeep_16 ?_
        refine ev_lconst_0 dX6_takesKeep_17 ?_
        refine ev_aload_0 dX6_takesKeep_18 ?_
        refine Ev.pc 19 rfl ?_
        refine ev_get dX6_takesKeep_19 fk_X6_42 (by first | assumption | decide) (by decide) rfl ?_
        refine ev_iconst_0 dX6_takesKeep_22 ?_
        refine ev_aldL (n := 0) dX6_takesKeep_23 (by first | assumption | decide) (by have := xls; omega) ?_
        refine ev_iconst_1 dX6_takesKeep_24 ?_
        refine ev_isub dX6_takesKeep_25 ?_
        refine Ev.pc 26 rfl ?_
        refine ev_i2l dX6_takesKeep_26 ?_
        rw [e83]
        refine ev_invS dX6_takesKeep_27 ml_X6_56 mt_X6_in (c_X6_in d (v := (gbS σ).1 73 15) (lo := 0) (hi := σ.1 83 0 - 1) (by first | rfl | decide) (by first | rfl | decide) (by first | rfl | decide)) rfl rfl (rm_ok (by omega)) (Nat.le_of_ble_eq_true rfl) ?_
        refine Ev.pc 30 rfl ?_
        refine ev_if_eq 75 dX6_takesKeep_30 rfl (fun h30 => ?_) (fun h30 => ?_)
        · exact absurd q1.2 (b2i_0.mp h30)
        · refine ev_aload_0 dX6_takesKeep_33 ?_
          refine ev_get dX6_takesKeep_34 fk_X6_42 (by first | assumption | decide) (by decide) rfl ?_
          refine ev_aload_0 dX6_takesKeep_37 ?_
          refine ev_get dX6_takesKeep_38 fk_X6_247 (by first | assumption | decide) (by decide) rfl ?_
          rw [ep]
          refine ev_invS dX6_takesKeep_41 ml_X6_137 mt_X6_isHeld hm rfl rfl (rm_ok (by omega)) (Nat.le_of_ble_eq_true rfl) ?_
          refine Ev.pc 44 rfl ?_
          refine ev_if_eq 75 dX6_takesKeep_44 rfl (fun h44 => ?_) (fun h44 => ?_)
          · refine ev_iconst_0 dX6_takesKeep_75 ?_
            exact ev_ireturn dX6_takesKeep_76 ⟨by rfl, by rfl⟩
          · exact absurd (b2i_n0.mp h44) q2
  · have qq1 : ¬ tKeB1 σ := fun hh => q1 hh.1
    rw [← b2i_f (fun hh : tKeB σ => qq1 hh.1), tKeS, if_neg qq1]
    refine Ct.of (by decide +kernel) (Nat.le_of_ble_eq_true rfl) ⟨_, rfl, rfl⟩ ?_
    show Ev E _ RX6 cX6_takesKeep 1 _ 0 [some (.ref (E.1 73))] [] _
    refine ev_aload_0 dX6_takesKeep_0 ?_
    refine ev_invV (ci := 6) dX6_takesKeep_1 ml_X6_260 mt_X6_goBehind (c_X6_goBehindQ (d + 1) h) (by first | assumption | decide) (by decide) rfl rfl rfl (rm_ok (by omega)) (Nat.le_of_ble_eq_true rfl) ?_
    refine Ev.pc 4 rfl ?_
    refine ev_aload_0 dX6_takesKeep_4 ?_
    refine ev_get dX6_takesKeep_5 fk_X6_244 (by first | assumption | decide) (by decide) rfl ?_
    refine ev_iconst_2 dX6_takesKeep_8 ?_
    refine Ev.pc 9 rfl ?_
    refine ev_icmp_ne 75 dX6_takesKeep_9 rfl (fun h9 => ?_) (fun h9 => ?_)
    · refine ev_iconst_0 dX6_takesKeep_75 ?_
      exact ev_ireturn dX6_takesKeep_76 ⟨by rfl, by rfl⟩
    · refine ev_aload_0 dX6_takesKeep_12 ?_
      refine ev_get dX6_takesKeep_13 fk_X6_247 (by first | assumption | decide) (by decide) rfl ?_
      refine ev_i2l dX6_takesKeep_16 ?_
      refine ev_lconst_0 dX6_takesKeep_17 ?_
      refine ev_aload_0 dX6_takesKeep_18 ?_
      refine Ev.pc 19 rfl ?_
      refine ev_get dX6_takesKeep_19 fk_X6_42 (by first | assumption | decide) (by decide) rfl ?_
      refine ev_iconst_0 dX6_takesKeep_22 ?_
      refine ev_aldL (n := 0) dX6_takesKeep_23 (by first | assumption | decide) (by have := xls; omega) ?_
      refine ev_iconst_1 dX6_takesKeep_24 ?_
      refine ev_isub dX6_takesKeep_25 ?_
      refine Ev.pc 26 rfl ?_
      refine ev_i2l dX6_takesKeep_26 ?_
      rw [e83]
      refine ev_invS dX6_takesKeep_27 ml_X6_56 mt_X6_in (c_X6_in d (v := (gbS σ).1 73 15) (lo := 0) (hi := σ.1 83 0 - 1) (by first | rfl | decide) (by first | rfl | decide) (by first | rfl | decide)) rfl rfl (rm_ok (by omega)) (Nat.le_of_ble_eq_true rfl) ?_
      refine Ev.pc 30 rfl ?_
      refine ev_if_eq 75 dX6_takesKeep_30 rfl (fun h30 => ?_) (fun h30 => ?_)
      · refine ev_iconst_0 dX6_takesKeep_75 ?_
        exact ev_ireturn dX6_takesKeep_76 ⟨by rfl, by rfl⟩
      · exact absurd ⟨h9, b2i_n0.mp h30⟩ q1
