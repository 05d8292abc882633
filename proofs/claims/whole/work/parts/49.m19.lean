/-! the reference: the word promise, numbers taken -/
abbrev prM (σ : xS) (s : Nat) : Prop := (σ.1 73 14 = 1 ∧ σ.1 73 13 = 7) ∧ σ.1 82 s = 112 ∧ σ.1 82 (s + 1) = 114 ∧ σ.1 82 (s + 2) = 111 ∧ σ.1 82 (s + 3) = 109 ∧ σ.1 82 (s + 4) = 105 ∧ σ.1 82 (s + 5) = 115 ∧ σ.1 82 (s + 6) = 101
theorem c_X6_spellsPromise (d : Nat) {E : xE} {σ : xS} {L s g : Nat} (hL5 : L ≤ 150) (hs : σ.1 73 12 = nI s) (hg : σ.1 73 13 = nI g) (ha : s + g ≤ L) : Ct E d yX6_spellsPromise cX6_spellsPromise 2 (some .boolean) [.ref (E.1 73)] σ (some (.int (b2i (prM σ s)))) σ := by
  have x82 : xlen 82 = 150 := by decide
  by_cases q7 : σ.1 73 14 = 1 ∧ σ.1 73 13 = 7
  ·
    have hgn : g = 7 := (nI_eq (b := 7) (by omega) (by omega)).mp (hg.symm.trans q7.2)
    refine Ct.of (by decide +kernel) (Nat.le_of_ble_eq_true rfl) ⟨_, rfl, nb_b2i _⟩ ?_
    show Ev E _ RX6 cX6_spellsPromise 2 _ 0 [some (.ref (E.1 73)), none] [] _
    refine ev_aload_0 dX6_spellsPromise_0 ?_
    refine ev_get dX6_spellsPromise_1 fk_X6_244 (by first | assumption | decide) (by decide) rfl ?_
    refine ev_iconst_1 dX6_spellsPromise_4 ?_
    refine ev_icmp_ne 21 dX6_spellsPromise_5 rfl (fun h5 => ?_) (fun h5 => ?_)
    · exact absurd q7.1 h5
    · refine ev_aload_0 dX6_spellsPromise_8 ?_
      refine ev_get dX6_spellsPromise_9 fk_X6_241 (by first | assumption | decide) (by decide) rfl ?_
      refine ev_bipush (7) dX6_spellsPromise_12 rfl ?_
      refine ev_icmp_ne 21 dX6_spellsPromise_14 rfl (fun h14 => ?_) (fun h14 => ?_)
      · exact absurd q7.2 h14
      · refine ev_iconst_1 dX6_spellsPromise_17 ?_
        refine ev_goto 22 dX6_spellsPromise_18 rfl ?_
        refine ev_istore_1 dX6_spellsPromise_22 rfl ?_
        refine ev_iload_1 dX6_spellsPromise_23 ?_
        refine ev_if_eq 142 dX6_spellsPromise_24 rfl (fun h24 => ?_) (fun h24 => ?_)
        · exact absurd h24 (by decide)
        · refine ev_aload_0 dX6_spellsPromise_27 ?_
          refine ev_get dX6_spellsPromise_28 fk_X6_39 (by first | assumption | decide) (by decide) rfl ?_
          refine ev_aload_0 dX6_spellsPromise_31 ?_
          refine ev_get dX6_spellsPromise_32 fk_X6_238 (by first | assumption | decide) (by decide) rfl ?_
          rw [hs]
          refine ev_aldN (k := s) dX6_spellsPromise_35 (by first | assumption | decide) (by first | rfl | (simp only [fa_lit, nI_add, pk_mul]; done) | (simp only [fa_lit, nI_add, pk_mul]; congr 1; omega)) (by have := xls; omega) ?_
          refine Ev.pc 36 rfl ?_
          refine ev_bipush (112) dX6_spellsPromise_36 rfl ?_
          refine ev_icmp_ne 142 dX6_spellsPromise_38 rfl (fun h38 => ?_) (fun h38 => ?_)
          · refine ev_iconst_0 dX6_spellsPromise_142 ?_
            exact ev_ireturn dX6_spellsPromise_143 ⟨by (first | exact congrArg (fun z => some (Value.int z)) (b2i_t ⟨q7, h38, h54, h70, h86, h102, h118, h135⟩) | exact congrArg (fun z => some (Value.int z)) (b2i_f (fun h => h38 (h.2.1))) | exact congrArg (fun z => some (Value.int z)) (b2i_f (fun h => h54 (h.2.2.1))) | exact congrArg (fun z => some (Value.int z)) (b2i_f (fun h => h70 (h.2.2.2.1))) | exact congrArg (fun z => some (Value.int z)) (b2i_f (fun h => h86 (h.2.2.2.2.1))) | exact congrArg (fun z => some (Value.int z)) (b2i_f (fun h => h102 (h.2.2.2.2.2.1))) | exact congrArg (fun z => some (Value.int z)) (b2i_f (fun h => h118 (h.2.2.2.2.2.2.1))) | exact congrArg (fun z => some (Value.int z)) (b2i_f (fun h => h135 (h.2.2.2.2.2.2.2)))), by rfl⟩
          · refine ev_aload_0 dX6_spellsPromise_41 ?_
            refine ev_get dX6_spellsPromise_42 fk_X6_39 (by first | assumption | decide) (by decide) rfl ?_
            refine ev_aload_0 dX6_spellsPromise_45 ?_
            refine ev_get dX6_spellsPromise_46 fk_X6_238 (by first | assumption | decide) (by decide) rfl ?_
            refine ev_iconst_1 dX6_spellsPromise_49 ?_
            refine Ev.pc 50 rfl ?_
            refine ev_iadd dX6_spellsPromise_50 ?_
            rw [hs]
            refine ev_aldN (k := s + 1) dX6_spellsPromise_51 (by first | assumption | decide) (by first | rfl | (simp only [fa_lit, nI_add, pk_mul]; done) | (simp only [fa_lit, nI_add, pk_mul]; congr 1; omega)) (by have := xls; omega) ?_
            refine ev_bipush (114) dX6_spellsPromise_52 rfl ?_
            refine ev_icmp_ne 142 dX6_spellsPromise_54 rfl (fun h54 => ?_) (fun h54 => ?_)
            · refine ev_iconst_0 dX6_spellsPromise_142 ?_
              exact ev_ireturn dX6_spellsPromise_143 ⟨by (first | exact congrArg (fun z => some (Value.int z)) (b2i_t ⟨q7, h38, h54, h70, h86, h102, h118, h135⟩) | exact congrArg (fun z => some (Value.int z)) (b2i_f (fun h => h38 (h.2.1))) | exact congrArg (fun z => some (Value.int z)) (b2i_f (fun h => h54 (h.2.2.1))) | exact congrArg (fun z => some (Value.int z)) (b2i_f (fun h => h70 (h.2.2.2.1))) | exact congrArg (fun z => some (Value.int z)) (b2i_f (fun h => h86 (h.2.2.2.2.1))) | exact congrArg (fun z => some (Value.int z)) (b2i_f (fun h => h102 (h.2.2.2.2.2.1))) | exact congrArg (fun z => some (Value.int z)) (b2i_f (fun h => h118 (h.2.2.2.2.2.2.1))) | exact congrArg (fun z => some (Value.int z)) (b2i_f (fun h => h135 (h.2.2.2.2.2.2.2)))), by rfl⟩
            · refine ev_aload_0 dX6_spellsPromise_57 ?_
              refine ev_get dX6_spellsPromise_58 fk_X6_39 (by first | assumption | decide) (by decide) rfl ?_
              refine ev_aload_0 dX6_spellsPromise_61 ?_
              refine ev_get dX6_spellsPromise_62 fk_X6_238 (by first | assumption | decide) (by decide) rfl ?_
              refine ev_iconst_2 dX6_spellsPromise_65 ?_
              refine Ev.pc 66 rfl ?_
              refine ev_iadd dX6_spellsPromise_66 ?_
              rw [hs]
              refine ev_aldN (k := s + 2) dX6_spellsPromise_67 (by first | assumption | decide) (by first | rfl | (simp only [fa_lit, nI_add, pk_mul]; done) | (simp only [fa_lit, nI_add, pk_mul]; congr 1; omega)) (by have := xls; omega) ?_
              refine ev_bipush (111) dX6_spellsPromise_68 rfl ?_
              refine ev_icmp_ne 142 dX6_spellsPromise_70 rfl (fun h70 => ?_) (fun h70 => ?_)
              · refine ev_iconst_0 dX6_spellsPromise_142 ?_
                exact ev_ireturn dX6_spellsPromise_143 ⟨by (first | exact congrArg (fun z => some (Value.int z)) (b2i_t ⟨q7, h38, h54, h70, h86, h102, h118, h135⟩) | exact congrArg (fun z => some (Value.int z)) (b2i_f (fun h => h38 (h.2.1))) | exact congrArg (fun z => some (Value.int z)) (b2i_f (fun h => h54 (h.2.2.1))) | exact congrArg (fun z => some (Value.int z)) (b2i_f (fun h => h70 (h.2.2.2.1))) | exact congrArg (fun z => some (Value.int z)) (b2i_f (fun h => h86 (h.2.2.2.2.1))) | exact congrArg (fun z => some (Value.int z)) (b2i_f (fun h => h102 (h.2.2.2.2.2.1))) | exact congrArg (fun z => some (Value.int z)) (b2i_f (fun h => h118 (h.2.2.2.2.2.2.1))) | exact congrArg (fun z => some (Value.int z)) (b2i_f (fun h => h135 (h.2.2.2.2.2.2.2)))), by rfl⟩
              · refine ev_aload_0 dX6_spellsPromise_73 ?_
                refine ev_get dX6_spellsPromise_74 fk_X6_39 (by first | assumption | decide) (by decide) rfl ?_
                refine ev_aload_0 dX6_spellsPromise_77 ?_
                refine ev_get dX6_spellsPromise_78 fk_X6_238 (by first | assumption | decide) (by decide) rfl ?_
                refine ev_iconst_3 dX6_spellsPromise_81 ?_
                refine Ev.pc 82 rfl ?_
                refine ev_iadd dX6_spellsPromise_82 ?_
                rw [hs]
                refine ev_aldN (k := s + 3) dX6_spellsPromise_83 (by first | assumption | decide) (by first | rfl | (simp only [fa_lit, nI_add, pk_mul]; done) | (simp only [fa_lit, nI_add, pk_mul]; congr 1; omega)) (by have := xls; omega) ?_
                refine ev_bipush (109) dX6_spellsPromise_84 rfl ?_
                refine ev_icmp_ne 142 dX6_spellsPromise_86 rfl (fun h86 => ?_) (fun h86 => ?_)
                · refine ev_iconst_0 dX6_spellsPromise_142 ?_
                  exact ev_ireturn dX6_spellsPromise_143 ⟨by (first | exact congrArg (fun z => some (Value.int z)) (b2i_t ⟨q7, h38, h54, h70, h86, h102, h118, h135⟩) | exact congrArg (fun z => some (Value.int z)) (b2i_f (fun h => h38 (h.2.1))) | exact congrArg (fun z => some (Value.int z)) (b2i_f (fun h => h54 (h.2.2.1))) | exact congrArg (fun z => some (Value.int z)) (b2i_f (fun h => h70 (h.2.2.2.1))) | exact congrArg (fun z => some (Value.int z)) (b2i_f (fun h => h86 (h.2.2.2.2.1))) | exact congrArg (fun z => some (Value.int z)) (b2i_f (fun h => h102 (h.2.2.2.2.2.1))) | exact congrArg (fun z => some (Value.int z)) (b2i_f (fun h => h118 (h.2.2.2.2.2.2.1))) | exact congrArg (fun z => some (Value.int z)) (b2i_f (fun h => h135 (h.2.2.2.2.2.2.2)))), by rfl⟩
                · refine ev_aload_0 dX6_spellsPromise_89 ?_
                  refine ev_get dX6_spellsPromise_90 fk_X6_39 (by first | assumption | decide) (by decide) rfl ?_
                  refine ev_aload_0 dX6_spellsPromise_93 ?_
                  refine ev_get dX6_spellsPromise_94 fk_X6_238 (by first | assumption | decide) (by decide) rfl ?_
                  refine ev_iconst_4 dX6_spellsPromise_97 ?_
                  refine Ev.pc 98 rfl ?_
                  refine ev_iadd dX6_spellsPromise_98 ?_
                  rw [hs]
                  refine ev_aldN (k := s + 4) dX6_spellsPromise_99 (by first | assumption | decide) (by first | rfl | (simp only [fa_lit, nI_add, pk_mul]; done) | (simp only [fa_lit, nI_add, pk_mul]; congr 1; omega)) (by have := xls; omega) ?_
                  refine ev_bipush (105) dX6_spellsPromise_100 rfl ?_
                  refine ev_icmp_ne 142 dX6_spellsPromise_102 rfl (fun h102 => ?_) (fun h102 => ?_)
                  · refine ev_iconst_0 dX6_spellsPromise_142 ?_
                    exact ev_ireturn dX6_spellsPromise_143 ⟨by (first | exact congrArg (fun z => some (Value.int z)) (b2i_t ⟨q7, h38, h54, h70, h86, h102, h118, h135⟩) | exact congrArg (fun z => some (Value.int z)) (b2i_f (fun h => h38 (h.2.1))) | exact congrArg (fun z => some (Value.int z)) (b2i_f (fun h => h54 (h.2.2.1))) | exact congrArg (fun z => some (Value.int z)) (b2i_f (fun h => h70 (h.2.2.2.1))) | exact congrArg (fun z => some (Value.int z)) (b2i_f (fun h => h86 (h.2.2.2.2.1))) | exact congrArg (fun z => some (Value.int z)) (b2i_f (fun h => h102 (h.2.2.2.2.2.1))) | exact congrArg (fun z => some (Value.int z)) (b2i_f (fun h => h118 (h.2.2.2.2.2.2.1))) | exact congrArg (fun z => some (Value.int z)) (b2i_f (fun h => h135 (h.2.2.2.2.2.2.2)))), by rfl⟩
                  · refine ev_aload_0 dX6_spellsPromise_105 ?_
                    refine ev_get dX6_spellsPromise_106 fk_X6_39 (by first | assumption | decide) (by decide) rfl ?_
                    refine ev_aload_0 dX6_spellsPromise_109 ?_
                    refine ev_get dX6_spellsPromise_110 fk_X6_238 (by first | assumption | decide) (by decide) rfl ?_
                    refine ev_iconst_5 dX6_spellsPromise_113 ?_
                    refine Ev.pc 114 rfl ?_
                    refine ev_iadd dX6_spellsPromise_114 ?_
                    rw [hs]
                    refine ev_aldN (k := s + 5) dX6_spellsPromise_115 (by first | assumption | decide) (by first | rfl | (simp only [fa_lit, nI_add, pk_mul]; done) | (simp only [fa_lit, nI_add, pk_mul]; congr 1; omega)) (by have := xls; omega) ?_
                    refine ev_bipush (115) dX6_spellsPromise_116 rfl ?_
                    refine ev_icmp_ne 142 dX6_spellsPromise_118 rfl (fun h118 => ?_) (fun h118 => ?_)
                    · refine ev_iconst_0 dX6_spellsPromise_142 ?_
                      exact ev_ireturn dX6_spellsPromise_143 ⟨by (first | exact congrArg (fun z => some (Value.int z)) (b2i_t ⟨q7, h38, h54, h70, h86, h102, h118, h135⟩) | exact congrArg (fun z => some (Value.int z)) (b2i_f (fun h => h38 (h.2.1))) | exact congrArg (fun z => some (Value.int z)) (b2i_f (fun h => h54 (h.2.2.1))) | exact congrArg (fun z => some (Value.int z)) (b2i_f (fun h => h70 (h.2.2.2.1))) | exact congrArg (fun z => some (Value.int z)) (b2i_f (fun h => h86 (h.2.2.2.2.1))) | exact congrArg (fun z => some (Value.int z)) (b2i_f (fun h => h102 (h.2.2.2.2.2.1))) | exact congrArg (fun z => some (Value.int z)) (b2i_f (fun h => h118 (h.2.2.2.2.2.2.1))) | exact congrArg (fun z => some (Value.int z)) (b2i_f (fun h => h135 (h.2.2.2.2.2.2.2)))), by rfl⟩
                    · refine ev_aload_0 dX6_spellsPromise_121 ?_
                      refine ev_get dX6_spellsPromise_122 fk_X6_39 (by first | assumption | decide) (by decide) rfl ?_
                      refine ev_aload_0 dX6_spellsPromise_125 ?_
                      refine ev_get dX6_spellsPromise_126 fk_X6_238 (by first | assumption | decide) (by decide) rfl ?_
                      refine ev_bipush (6) dX6_spellsPromise_129 rfl ?_
                      refine Ev.pc 131 rfl ?_
                      refine ev_iadd dX6_spellsPromise_131 ?_
                      rw [hs]
                      refine ev_aldN (k := s + 6) dX6_spellsPromise_132 (by first | assumption | decide) (by first | rfl | (simp only [fa_lit, nI_add, pk_mul]; done) | (simp only [fa_lit, nI_add, pk_mul]; congr 1; omega)) (by have := xls; omega) ?_
                      refine ev_bipush (101) dX6_spellsPromise_133 rfl ?_
                      refine ev_icmp_ne 142 dX6_spellsPromise_135 rfl (fun h135 => ?_) (fun h135 => ?_)
                      · refine ev_iconst_0 dX6_spellsPromise_142 ?_
                        exact ev_ireturn dX6_spellsPromise_143 ⟨by (first | exact congrArg (fun z => some (Value.int z)) (b2i_t ⟨q7, h38, h54, h70, h86, h102, h118, h135⟩) | exact congrArg (fun z => some (Value.int z)) (b2i_f (fun h => h38 (h.2.1))) | exact congrArg (fun z => some (Value.int z)) (b2i_f (fun h => h54 (h.2.2.1))) | exact congrArg (fun z => some (Value.int z)) (b2i_f (fun h => h70 (h.2.2.2.1))) | exact congrArg (fun z => some (Value.int z)) (b2i_f (fun h => h86 (h.2.2.2.2.1))) | exact congrArg (fun z => some (Value.int z)) (b2i_f (fun h => h102 (h.2.2.2.2.2.1))) | exact congrArg (fun z => some (Value.int z)) (b2i_f (fun h => h118 (h.2.2.2.2.2.2.1))) | exact congrArg (fun z => some (Value.int z)) (b2i_f (fun h => h135 (h.2.2.2.2.2.2.2)))), by rfl⟩
                      · refine ev_iconst_1 dX6_spellsPromise_138 ?_
                        refine ev_goto 143 dX6_spellsPromise_139 rfl ?_
                        exact ev_ireturn dX6_spellsPromise_143 ⟨by (first | exact congrArg (fun z => some (Value.int z)) (b2i_t ⟨q7, h38, h54, h70, h86, h102, h118, h135⟩) | exact congrArg (fun z => some (Value.int z)) (b2i_f (fun h => h38 (h.2.1))) | exact congrArg (fun z => some (Value.int z)) (b2i_f (fun h => h54 (h.2.2.1))) | exact congrArg (fun z => some (Value.int z)) (b2i_f (fun h => h70 (h.2.2.2.1))) | exact congrArg (fun z => some (Value.int z)) (b2i_f (fun h => h86 (h.2.2.2.2.1))) | exact congrArg (fun z => some (Value.int z)) (b2i_f (fun h => h102 (h.2.2.2.2.2.1))) | exact congrArg (fun z => some (Value.int z)) (b2i_f (fun h => h118 (h.2.2.2.2.2.2.1))) | exact congrArg (fun z => some (Value.int z)) (b2i_f (fun h => h135 (h.2.2.2.2.2.2.2)))), by rfl⟩
  ·
    have eA : b2i (prM σ s) = 0 := (b2i_f (fun hh => q7 hh.1)).symm
    rw [eA]
    refine Ct.of (by decide +kernel) (Nat.le_of_ble_eq_true rfl) ⟨_, rfl, rfl⟩ ?_
    show Ev E _ RX6 cX6_spellsPromise 2 _ 0 [some (.ref (E.1 73)), none] [] _
    refine ev_aload_0 dX6_spellsPromise_0 ?_
    refine ev_get dX6_spellsPromise_1 fk_X6_244 (by first | assumption | decide) (by decide) rfl ?_
    refine ev_iconst_1 dX6_spellsPromise_4 ?_
    refine ev_icmp_ne 21 dX6_spellsPromise_5 rfl (fun h5 => ?_) (fun h5 => ?_)
    · refine ev_iconst_0 dX6_spellsPromise_21 ?_
      refine ev_istore_1 dX6_spellsPromise_22 rfl ?_
      refine ev_iload_1 dX6_spellsPromise_23 ?_
      refine ev_if_eq 142 dX6_spellsPromise_24 rfl (fun h24 => ?_) (fun h24 => ?_)
      · refine ev_iconst_0 dX6_spellsPromise_142 ?_
        exact ev_ireturn dX6_spellsPromise_143 ⟨by rfl, by rfl⟩
      · exact absurd rfl h24
    · refine ev_aload_0 dX6_spellsPromise_8 ?_
      refine ev_get dX6_spellsPromise_9 fk_X6_241 (by first | assumption | decide) (by decide) rfl ?_
      refine ev_bipush (7) dX6_spellsPromise_12 rfl ?_
      refine ev_icmp_ne 21 dX6_spellsPromise_14 rfl (fun h14 => ?_) (fun h14 => ?_)
      · refine ev_iconst_0 dX6_spellsPromise_21 ?_
        refine ev_istore_1 dX6_spellsPromise_22 rfl ?_
        refine ev_iload_1 dX6_spellsPromise_23 ?_
        refine ev_if_eq 142 dX6_spellsPromise_24 rfl (fun h24 => ?_) (fun h24 => ?_)
        · refine ev_iconst_0 dX6_spellsPromise_142 ?_
          exact ev_ireturn dX6_spellsPromise_143 ⟨by rfl, by rfl⟩
        · exact absurd rfl h24
      · exact absurd ⟨h5, h14⟩ q7
theorem c_X6_takes_no (d : Nat) {E : xE} {σ : xS} {i lo hi : Int32} (q7 : ¬ (σ.1 73 14 = 2 ∧ btw (σ.1 73 15) lo hi)) : Ct E (d + 4) yX6_takes cX6_takes 4 (some .boolean) [.ref (E.1 73), .int i, .int lo, .int hi] σ (some (.int 0)) σ := by
  refine Ct.of (by decide +kernel) (Nat.le_of_ble_eq_true rfl) ⟨_, rfl, rfl⟩ ?_
  show Ev E _ RX6 cX6_takes 4 _ 0 [some (.ref (E.1 73)), some (.int i), some (.int lo), some (.int hi)] [] _
  refine ev_aload_0 dX6_takes_0 ?_
  refine ev_get dX6_takes_1 fk_X6_244 (by first | assumption | decide) (by decide) rfl ?_
  refine ev_iconst_2 dX6_takes_4 ?_
  refine ev_icmp_ne 23 dX6_takes_5 rfl (fun h5 => ?_) (fun h5 => ?_)
  · refine ev_iconst_0 dX6_takes_23 ?_
    exact ev_ireturn dX6_takes_24 ⟨by rfl, by rfl⟩
  · refine ev_aload_0 dX6_takes_8 ?_
    refine ev_get dX6_takes_9 fk_X6_247 (by first | assumption | decide) (by decide) rfl ?_
    refine ev_i2l dX6_takes_12 ?_
    refine ev_iload_2 dX6_takes_13 ?_
    refine ev_i2l dX6_takes_14 ?_
    refine Ev.pc 15 rfl ?_
    refine ev_iload_3 dX6_takes_15 ?_
    refine ev_i2l dX6_takes_16 ?_
    refine ev_invS dX6_takes_17 ml_X6_56 mt_X6_in (c_X6_in d (v := σ.1 73 15) (lo := lo) (hi := hi) (by first | rfl | decide) (by first | rfl | decide) (by first | rfl | decide)) rfl rfl (rm_ok (by omega)) (Nat.le_of_ble_eq_true rfl) ?_
    refine Ev.pc 20 rfl ?_
    refine ev_if_ne 25 dX6_takes_20 rfl (fun h20 => ?_) (fun h20 => ?_)
    · exact absurd ⟨h5, b2i_n0.mp h20⟩ q7
    · refine ev_iconst_0 dX6_takes_23 ?_
      exact ev_ireturn dX6_takes_24 ⟨by rfl, by rfl⟩
theorem c_X6_takes (d : Nat) {E : xE} {σ : xS} {L s g i : Nat} {j lo hi : Int32} (hj : j = nI i) (hi2 : i < 2) (hL : σ.1 73 11 = nI L) (hL5 : L ≤ 150) (hs : σ.1 73 12 = nI s) (hg : σ.1 73 13 = nI g) (ha : s + g ≤ L) (h1 : σ.1 73 14 = 2) (h2 : btw (σ.1 73 15) lo hi) : Ct E (d + 4) yX6_takes cX6_takes 4 (some .boolean) [.ref (E.1 73), .int j, .int lo, .int hi] σ (some (.int 1)) (lookM (xrow σ 84 (upd (σ.1 84) i (σ.1 73 15))) L (s + g)) := by
  subst hj
  have e73 : (xrow σ 84 (upd (σ.1 84) i (σ.1 73 15))).1 73 = σ.1 73 := xrow_ne _ _ (by decide)
  refine Ct.of (by decide +kernel) (Nat.le_of_ble_eq_true rfl) ⟨_, rfl, rfl⟩ ?_
  show Ev E _ RX6 cX6_takes 4 _ 0 [some (.ref (E.1 73)), some (.int (nI i)), some (.int lo), some (.int hi)] [] _
  refine ev_aload_0 dX6_takes_0 ?_
  refine ev_get dX6_takes_1 fk_X6_244 (by first | assumption | decide) (by decide) rfl ?_
  refine ev_iconst_2 dX6_takes_4 ?_
  refine ev_icmp_ne 23 dX6_takes_5 rfl (fun h5 => ?_) (fun h5 => ?_)
  · exact absurd h1 h5
  · refine ev_aload_0 dX6_takes_8 ?_
    refine ev_get dX6_takes_9 fk_X6_247 (by first | assumption | decide) (by decide) rfl ?_
    refine ev_i2l dX6_takes_12 ?_
    refine ev_iload_2 dX6_takes_13 ?_
    refine ev_i2l dX6_takes_14 ?_
    refine Ev.pc 15 rfl ?_
    refine ev_iload_3 dX6_takes_15 ?_
    refine ev_i2l dX6_takes_16 ?_
    refine ev_invS dX6_takes_17 ml_X6_56 mt_X6_in (c_X6_in d (v := σ.1 73 15) (lo := lo) (hi := hi) (by first | rfl | decide) (by first | rfl | decide) (by first | rfl | decide)) rfl rfl (rm_ok (by omega)) (Nat.le_of_ble_eq_true rfl) ?_
    refine Ev.pc 20 rfl ?_
    refine ev_if_ne 25 dX6_takes_20 rfl (fun h20 => ?_) (fun h20 => ?_)
    · refine ev_aload_0 dX6_takes_25 ?_
      refine ev_get dX6_takes_26 fk_X6_45 (by first | assumption | decide) (by decide) rfl ?_
      refine ev_iload_1 dX6_takes_29 ?_
      refine ev_aload_0 dX6_takes_30 ?_
      refine ev_get dX6_takes_31 fk_X6_247 (by first | assumption | decide) (by decide) rfl ?_
      refine Ev.pc 34 rfl ?_
      refine ev_astV dX6_takes_34 (by first | assumption | decide) (by have := xls; omega) ?_
      refine ev_aload_0 dX6_takes_35 ?_
      refine ev_invV (ci := 6) dX6_takes_36 ml_X6_260 mt_X6_goBehind (c_X6_goBehind d (L := L) (s := s) (g := g) (by rw [e73]; exact hL) hL5 (by rw [e73]; exact hs) (by rw [e73]; exact hg) ha) (by first | assumption | decide) (by decide) rfl rfl rfl (rm_ok (by omega)) (Nat.le_of_ble_eq_true rfl) ?_
      refine Ev.pc 39 rfl ?_
      refine ev_iconst_1 dX6_takes_39 ?_
      exact ev_ireturn dX6_takes_40 ⟨by rfl, by rfl⟩
    · exact absurd h2 (b2i_0.mp h20)
