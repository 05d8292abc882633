/-! the reference: one item -/
def tItem (σ : xS) (s P H B : Nat) : Int32 × xS :=
  if prM σ s then tAddP σ P else if spM σ s 6 (ltM 104 101 97 114 101 114) then tAddH σ H else if spM σ s 5 (ltM 98 117 121 101 114 0) then tAddB σ B
  else if spM σ s 3 (ltM 98 117 121 0 0 0) then (b2i (tBuyB σ), tBuyS σ) else if spM σ s 4 (ltM 107 101 101 112 0 0) then (b2i (tKeB σ), tKeS σ)
  else if spM σ s 4 (ltM 100 97 121 115 0 0) then (b2i (tkB (gbS σ) 1 99), tDays σ P) else (0, σ)
theorem nb_0 : narrow .boolean (.int 0) = .int 0 := nb_b2i False
theorem tItem_nb (σ : xS) (s P H B : Nat) : narrow .boolean (.int (tItem σ s P H B).1) = .int (tItem σ s P H B).1 := by
  simp only [tItem, tAddP, tAddH, tAddB]
  repeat' split
  all_goals first | exact nb_b2i _ | exact nb_0
theorem c_X6_takesItem (d : Nat) {E : xE} {σ : xS} {L s g P H B : Nat} (hL : σ.1 73 11 = nI L) (hL5 : L ≤ 150) (hs : σ.1 73 12 = nI s) (hg : σ.1 73 13 = nI g) (ha : s + g ≤ L) (hP : σ.1 83 0 = nI P) (hP7 : P ≤ 7) (hH : σ.1 83 1 = nI H) (hH4 : H ≤ 4) (hB : σ.1 83 2 = nI B) (hB3 : B ≤ 3) : Ct E (d + 6) yX6_takesItem cX6_takesItem 1 (some .boolean) [.ref (E.1 73)] σ (some (.int (tItem σ s P H B).1)) (tItem σ s P H B).2 := by
  have h : MrOK σ := ⟨L, s, g, hL, hL5, hs, hg, ha⟩
  refine Ct.of (by decide +kernel) (Nat.le_of_ble_eq_true rfl) ⟨_, rfl, tItem_nb _ _ _ _ _⟩ ?_
  show Ev E _ RX6 cX6_takesItem 1 _ 0 [some (.ref (E.1 73))] [] _
  refine ev_aload_0 dX6_takesItem_0 ?_
  refine ev_invV (ci := 6) dX6_takesItem_1 ml_X6_266 mt_X6_spellsPromise (c_X6_spellsPromise d hL5 hs hg ha) (by first | assumption | decide) (by decide) rfl rfl rfl (rm_ok (by omega)) (Nat.le_of_ble_eq_true rfl) ?_
  refine Ev.pc 4 rfl ?_
  refine ev_if_eq 12 dX6_takesItem_4 rfl (fun h4 => ?_) (fun h4 => ?_)
  · have k4 := b2i_0.mp h4
    refine ev_aload_0 dX6_takesItem_12 ?_
    refine ev_bipush (6) dX6_takesItem_13 rfl ?_
    refine ev_bipush (104) dX6_takesItem_15 rfl ?_
    refine ev_bipush (101) dX6_takesItem_17 rfl ?_
    refine ev_bipush (97) dX6_takesItem_19 rfl ?_
    refine Ev.pc 21 rfl ?_
    refine ev_bipush (114) dX6_takesItem_21 rfl ?_
    refine ev_bipush (101) dX6_takesItem_23 rfl ?_
    refine ev_bipush (114) dX6_takesItem_25 rfl ?_
    refine ev_invV (ci := 6) dX6_takesItem_27 ml_X6_273 mt_X6_spells (c_X6_spells d (n := 6) rfl (by decide) hL5 hs hg ha) (by first | assumption | decide) (by decide) rfl rfl rfl (rm_ok (by omega)) (Nat.le_of_ble_eq_true rfl) ?_
    refine Ev.pc 30 rfl ?_
    refine ev_if_eq 38 dX6_takesItem_30 rfl (fun h30 => ?_) (fun h30 => ?_)
    · have k30 := b2i_0.mp h30
      refine ev_aload_0 dX6_takesItem_38 ?_
      refine ev_iconst_5 dX6_takesItem_39 ?_
      refine ev_bipush (98) dX6_takesItem_40 rfl ?_
      refine ev_bipush (117) dX6_takesItem_42 rfl ?_
      refine ev_bipush (121) dX6_takesItem_44 rfl ?_
      refine Ev.pc 46 rfl ?_
      refine ev_bipush (101) dX6_takesItem_46 rfl ?_
      refine ev_bipush (114) dX6_takesItem_48 rfl ?_
      refine ev_iconst_0 dX6_takesItem_50 ?_
      refine ev_invV (ci := 6) dX6_takesItem_51 ml_X6_273 mt_X6_spells (c_X6_spells d (n := 5) rfl (by decide) hL5 hs hg ha) (by first | assumption | decide) (by decide) rfl rfl rfl (rm_ok (by omega)) (Nat.le_of_ble_eq_true rfl) ?_
      refine Ev.pc 54 rfl ?_
      refine ev_if_eq 62 dX6_takesItem_54 rfl (fun h54 => ?_) (fun h54 => ?_)
      · have k54 := b2i_0.mp h54
        refine ev_aload_0 dX6_takesItem_62 ?_
        refine ev_iconst_3 dX6_takesItem_63 ?_
        refine ev_bipush (98) dX6_takesItem_64 rfl ?_
        refine ev_bipush (117) dX6_takesItem_66 rfl ?_
        refine ev_bipush (121) dX6_takesItem_68 rfl ?_
        refine Ev.pc 70 rfl ?_
        refine ev_iconst_0 dX6_takesItem_70 ?_
        refine ev_iconst_0 dX6_takesItem_71 ?_
        refine ev_iconst_0 dX6_takesItem_72 ?_
        refine ev_invV (ci := 6) dX6_takesItem_73 ml_X6_273 mt_X6_spells (c_X6_spells d (n := 3) rfl (by decide) hL5 hs hg ha) (by first | assumption | decide) (by decide) rfl rfl rfl (rm_ok (by omega)) (Nat.le_of_ble_eq_true rfl) ?_
        refine Ev.pc 76 rfl ?_
        refine ev_if_eq 84 dX6_takesItem_76 rfl (fun h76 => ?_) (fun h76 => ?_)
        · have k76 := b2i_0.mp h76
          refine ev_aload_0 dX6_takesItem_84 ?_
          refine ev_iconst_4 dX6_takesItem_85 ?_
          refine ev_bipush (107) dX6_takesItem_86 rfl ?_
          refine ev_bipush (101) dX6_takesItem_88 rfl ?_
          refine ev_bipush (101) dX6_takesItem_90 rfl ?_
          refine Ev.pc 92 rfl ?_
          refine ev_bipush (112) dX6_takesItem_92 rfl ?_
          refine ev_iconst_0 dX6_takesItem_94 ?_
          refine ev_iconst_0 dX6_takesItem_95 ?_
          refine ev_invV (ci := 6) dX6_takesItem_96 ml_X6_273 mt_X6_spells (c_X6_spells d (n := 4) rfl (by decide) hL5 hs hg ha) (by first | assumption | decide) (by decide) rfl rfl rfl (rm_ok (by omega)) (Nat.le_of_ble_eq_true rfl) ?_
          refine Ev.pc 99 rfl ?_
          refine ev_if_eq 107 dX6_takesItem_99 rfl (fun h99 => ?_) (fun h99 => ?_)
          · have k99 := b2i_0.mp h99
            refine ev_aload_0 dX6_takesItem_107 ?_
            refine ev_iconst_4 dX6_takesItem_108 ?_
            refine ev_bipush (100) dX6_takesItem_109 rfl ?_
            refine ev_bipush (97) dX6_takesItem_111 rfl ?_
            refine ev_bipush (121) dX6_takesItem_113 rfl ?_
            refine Ev.pc 115 rfl ?_
            refine ev_bipush (115) dX6_takesItem_115 rfl ?_
            refine ev_iconst_0 dX6_takesItem_117 ?_
            refine ev_iconst_0 dX6_takesItem_118 ?_
            refine ev_invV (ci := 6) dX6_takesItem_119 ml_X6_273 mt_X6_spells (c_X6_spells d (n := 4) rfl (by decide) hL5 hs hg ha) (by first | assumption | decide) (by decide) rfl rfl rfl (rm_ok (by omega)) (Nat.le_of_ble_eq_true rfl) ?_
            refine Ev.pc 122 rfl ?_
            refine ev_if_eq 136 dX6_takesItem_122 rfl (fun h122 => ?_) (fun h122 => ?_)
            · have k122 := b2i_0.mp h122
              refine ev_iconst_0 dX6_takesItem_136 ?_
              exact ev_ireturn dX6_takesItem_137 ⟨by (first | (rw [tItem, if_neg k4, if_neg k30, if_neg k54, if_neg k76, if_neg k99, if_neg k122]) | (rw [tItem, if_neg k4, if_neg k30, if_neg k54, if_neg k76, if_neg k99, if_pos k122]; first | rw [← b2i_t (b2i_n0.mp h129)] | rw [← b2i_f (b2i_0.mp h129)])), by (first | (rw [tItem, if_neg k4, if_neg k30, if_neg k54, if_neg k76, if_neg k99, if_neg k122]) | (rw [tItem, if_neg k4, if_neg k30, if_neg k54, if_neg k76, if_neg k99, if_pos k122]))⟩
            · have k122 := b2i_n0.mp h122
              refine ev_aload_0 dX6_takesItem_125 ?_
              refine ev_invV (ci := 6) dX6_takesItem_126 ml_X6_289 mt_X6_takesDays (c_X6_takesDays d h hP hP7) (by first | assumption | decide) (by decide) rfl rfl rfl (rm_ok (by omega)) (Nat.le_of_ble_eq_true rfl) ?_
              refine Ev.pc 129 rfl ?_
              refine ev_if_eq 136 dX6_takesItem_129 rfl (fun h129 => ?_) (fun h129 => ?_)
              · refine ev_iconst_0 dX6_takesItem_136 ?_
                exact ev_ireturn dX6_takesItem_137 ⟨by (first | (rw [tItem, if_neg k4, if_neg k30, if_neg k54, if_neg k76, if_neg k99, if_neg k122]) | (rw [tItem, if_neg k4, if_neg k30, if_neg k54, if_neg k76, if_neg k99, if_pos k122]; first | rw [← b2i_t (b2i_n0.mp h129)] | rw [← b2i_f (b2i_0.mp h129)])), by (first | (rw [tItem, if_neg k4, if_neg k30, if_neg k54, if_neg k76, if_neg k99, if_neg k122]) | (rw [tItem, if_neg k4, if_neg k30, if_neg k54, if_neg k76, if_neg k99, if_pos k122]))⟩
              · refine ev_iconst_1 dX6_takesItem_132 ?_
                refine ev_goto 137 dX6_takesItem_133 rfl ?_
                exact ev_ireturn dX6_takesItem_137 ⟨by (first | (rw [tItem, if_neg k4, if_neg k30, if_neg k54, if_neg k76, if_neg k99, if_neg k122]) | (rw [tItem, if_neg k4, if_neg k30, if_neg k54, if_neg k76, if_neg k99, if_pos k122]; first | rw [← b2i_t (b2i_n0.mp h129)] | rw [← b2i_f (b2i_0.mp h129)])), by (first | (rw [tItem, if_neg k4, if_neg k30, if_neg k54, if_neg k76, if_neg k99, if_neg k122]) | (rw [tItem, if_neg k4, if_neg k30, if_neg k54, if_neg k76, if_neg k99, if_pos k122]))⟩
          · have k99 := b2i_n0.mp h99
            refine ev_aload_0 dX6_takesItem_102 ?_
            refine ev_invV (ci := 6) dX6_takesItem_103 ml_X6_286 mt_X6_takesKeep (c_X6_takesKeep d h hP hP7 hH hH4) (by first | assumption | decide) (by decide) rfl rfl rfl (rm_ok (by omega)) (Nat.le_of_ble_eq_true rfl) ?_
            refine Ev.pc 106 rfl ?_
            exact ev_ireturn dX6_takesItem_106 ⟨by (rw [tItem, if_neg k4, if_neg k30, if_neg k54, if_neg k76, if_pos k99]), by (rw [tItem, if_neg k4, if_neg k30, if_neg k54, if_neg k76, if_pos k99])⟩
        · have k76 := b2i_n0.mp h76
          refine ev_aload_0 dX6_takesItem_79 ?_
          refine ev_invV (ci := 6) dX6_takesItem_80 ml_X6_283 mt_X6_takesBuy (c_X6_takesBuy d h hP hP7 hB hB3) (by first | assumption | decide) (by decide) rfl rfl rfl (rm_ok (by omega)) (Nat.le_of_ble_eq_true rfl) ?_
          refine Ev.pc 83 rfl ?_
          exact ev_ireturn dX6_takesItem_83 ⟨by (rw [tItem, if_neg k4, if_neg k30, if_neg k54, if_pos k76]), by (rw [tItem, if_neg k4, if_neg k30, if_neg k54, if_pos k76])⟩
      · have k54 := b2i_n0.mp h54
        refine ev_aload_0 dX6_takesItem_57 ?_
        refine ev_invV (ci := 6) dX6_takesItem_58 ml_X6_280 mt_X6_takesBuyer (c_X6_takesBuyerQ d h hB hB3) (by first | assumption | decide) (by decide) rfl rfl rfl (rm_ok (by omega)) (Nat.le_of_ble_eq_true rfl) ?_
        refine Ev.pc 61 rfl ?_
        exact ev_ireturn dX6_takesItem_61 ⟨by (rw [tItem, if_neg k4, if_neg k30, if_pos k54]), by (rw [tItem, if_neg k4, if_neg k30, if_pos k54])⟩
    · have k30 := b2i_n0.mp h30
      refine ev_aload_0 dX6_takesItem_33 ?_
      refine ev_invV (ci := 6) dX6_takesItem_34 ml_X6_277 mt_X6_takesHearer (c_X6_takesHearerQ d h hH hH4) (by first | assumption | decide) (by decide) rfl rfl rfl (rm_ok (by omega)) (Nat.le_of_ble_eq_true rfl) ?_
      refine Ev.pc 37 rfl ?_
      exact ev_ireturn dX6_takesItem_37 ⟨by (rw [tItem, if_neg k4, if_pos k30]), by (rw [tItem, if_neg k4, if_pos k30])⟩
  · have k4 := b2i_n0.mp h4
    refine ev_aload_0 dX6_takesItem_7 ?_
    refine ev_invV (ci := 6) dX6_takesItem_8 ml_X6_270 mt_X6_takesPromise (c_X6_takesPromiseQ d h hP hP7) (by first | assumption | decide) (by decide) rfl rfl rfl (rm_ok (by omega)) (Nat.le_of_ble_eq_true rfl) ?_
    refine Ev.pc 11 rfl ?_
    exact ev_ireturn dX6_takesItem_11 ⟨by (rw [tItem, if_pos k4]), by (rw [tItem, if_pos k4])⟩
