/-! the reference: words -/
theorem c_X6_goBehind (d : Nat) {E : xE} {σ : xS} {L s g : Nat} (hL : σ.1 73 11 = nI L) (hL5 : L ≤ 150) (hs : σ.1 73 12 = nI s) (hg : σ.1 73 13 = nI g) (ha : s + g ≤ L) : Ct E (d + 3) yX6_goBehind cX6_goBehind 1 none [.ref (E.1 73)] σ none (lookM σ L (s + g)) := by
  refine Ct.of (by decide +kernel) (Nat.le_of_ble_eq_true rfl) rfl ?_
  show Ev E _ RX6 cX6_goBehind 1 _ 0 [some (.ref (E.1 73))] [] _
  refine ev_aload_0 dX6_goBehind_0 ?_
  refine ev_aload_0 dX6_goBehind_1 ?_
  refine ev_get dX6_goBehind_2 fk_X6_238 (by first | assumption | decide) (by decide) rfl ?_
  refine ev_aload_0 dX6_goBehind_5 ?_
  refine ev_get dX6_goBehind_6 fk_X6_241 (by first | assumption | decide) (by decide) rfl ?_
  refine Ev.pc 9 rfl ?_
  refine ev_iadd dX6_goBehind_9 ?_
  rw [hs, hg, nI_add]
  refine ev_invV (ci := 6) dX6_goBehind_10 ml_X6_256 mt_X6_lookAt (c_X6_lookAt d hL hL5 ha) (by first | assumption | decide) (by decide) rfl rfl rfl (rm_ok (by omega)) (Nat.le_of_ble_eq_true rfl) ?_
  refine Ev.pc 13 rfl ?_
  exact ev_return dX6_goBehind_13 ⟨by rfl, by rfl⟩
def ltM (a b c e f g : Int32) (k : Nat) : Int32 := if k = 0 then a else if k = 1 then b else if k = 2 then c else if k = 3 then e else if k = 4 then f else g
abbrev spM (σ : xS) (s n : Nat) (lt : Nat → Int32) : Prop := (σ.1 73 14 = 1 ∧ σ.1 73 13 = nI n) ∧ allB (fun i => decide (σ.1 82 (s + i) = lt i)) n = true
theorem c_X6_spells (d : Nat) {E : xE} {σ : xS} {L s g n : Nat} {N a b c e f l : Int32} (hN : N = nI n) (hn : n ≤ 6) (hL5 : L ≤ 150) (hs : σ.1 73 12 = nI s) (hg : σ.1 73 13 = nI g) (ha : s + g ≤ L) : Ct E d yX6_spells cX6_spells 10 (some .boolean) [.ref (E.1 73), .int N, .int a, .int b, .int c, .int e, .int f, .int l] σ (some (.int (b2i (spM σ s n (ltM a b c e f l))))) σ := by
  subst hN
  have x82 : xlen 82 = 150 := by decide
  by_cases q7 : σ.1 73 14 = 1 ∧ σ.1 73 13 = nI n
  ·
    have hgn : g = n := (nI_eq (by omega) (by omega)).mp (hg.symm.trans q7.2)
    obtain ⟨G, hG⟩ : ∃ G : Nat → Bool, G = fun i => decide (σ.1 82 (s + i) = ltM a b c e f l i) := ⟨_, rfl⟩
    have eA : b2i (spM σ s n (ltM a b c e f l)) = b2i (allB G n = true) := by
      rw [hG]
      by_cases h : allB (fun i => decide (σ.1 82 (s + i) = ltM a b c e f l i)) n = true
      · rw [← b2i_t h, ← b2i_t ⟨q7, h⟩]
      · rw [← b2i_f h, ← b2i_f (fun hh => h hh.2)]
    rw [eA]
    have loop : ∀ (m k : Nat) (x : Int32), k + m = n → x = b2i (allB G k = true) → Ev E (rm (d + 0)) RX6 cX6_spells 10 (fun z t => z = some (.int (b2i (allB G n = true))) ∧ t = σ) 26 [some (.ref (E.1 73)), some (.int (nI n)), some (.int a), some (.int b), some (.int c), some (.int e), some (.int f), some (.int l), some (.int x), some (.int (nI k))] [] σ := by
      intro m
      induction m with
      | zero =>
        intro k x hk hx
        refine ev_iload_9 dX6_spells_26 ?_
        refine ev_iload_1 dX6_spells_28 ?_
        refine ev_icmp_ge 119 dX6_spells_29 rfl (fun h29 => ?_) (fun h29 => ?_)
        · refine ev_iload_8 dX6_spells_119 ?_
          exact ev_ireturn dX6_spells_121 ⟨by (rw [hx, show k = n by omega]), by rfl⟩
        · exact absurd (nI_le (by omega) (by omega)) h29
      | succ m ih =>
        intro k x hk hx
        by_cases q8 : x = 0
        ·
          refine ev_iload_9 dX6_spells_26 ?_
          refine ev_iload_1 dX6_spells_28 ?_
          refine ev_icmp_ge 119 dX6_spells_29 rfl (fun h29 => ?_) (fun h29 => ?_)
          · exact absurd h29 (nI_ge (by omega) (by omega))
          · refine ev_iload_8 dX6_spells_32 ?_
            refine ev_if_eq 119 dX6_spells_34 rfl (fun h34 => ?_) (fun h34 => ?_)
            · refine ev_iload_8 dX6_spells_119 ?_
              exact ev_ireturn dX6_spells_121 ⟨by (rw [q8]; rw [hx] at q8; have g2 := b2i_0.mp q8; rw [Bool.not_eq_true] at g2; have g3 := allB_F g2 (m + 1); rw [hk] at g3; exact congrArg (fun z => some (Value.int z)) (b2i_f (by rw [g3]; decide))), by rfl⟩
            · exact absurd q8 h34
        ·
          have K : ∀ y, ltM a b c e f l k = y → Ev E (rm (d + 0)) RX6 cX6_spells 10 (fun z t => z = some (.int (b2i (allB G n = true))) ∧ t = σ) 103 [some (.ref (E.1 73)), some (.int (nI n)), some (.int a), some (.int b), some (.int c), some (.int e), some (.int f), some (.int l), some (.int x), some (.int (nI k))] [.int y, .int (σ.1 82 (s + k))] σ := by
            intro y hy
            have hGk : G k = decide (σ.1 82 (s + k) = y) := by rw [hG, ← hy]
            refine ev_icmp_ne 110 dX6_spells_103 rfl (fun h103 => ?_) (fun h103 => ?_)
            · refine ev_iconst_0 dX6_spells_110 ?_
              refine ev_istore_8 dX6_spells_111 rfl ?_
              refine ev_iinc_9 (1) dX6_spells_113 rfl rfl ?_
              refine ev_goto 26 dX6_spells_116 rfl ?_
              rw [nI_1]
              first | exact ih (k + 1) _ (by omega) (allB_no2 (hGk.trans (decide_eq_false h103))) | exact ih (k + 1) _ (by omega) (allB_yes hx q8 (hGk.trans (decide_eq_true h103)))
            · refine ev_iconst_1 dX6_spells_106 ?_
              refine ev_goto 111 dX6_spells_107 rfl ?_
              refine ev_istore_8 dX6_spells_111 rfl ?_
              refine ev_iinc_9 (1) dX6_spells_113 rfl rfl ?_
              refine ev_goto 26 dX6_spells_116 rfl ?_
              rw [nI_1]
              first | exact ih (k + 1) _ (by omega) (allB_no2 (hGk.trans (decide_eq_false h103))) | exact ih (k + 1) _ (by omega) (allB_yes hx q8 (hGk.trans (decide_eq_true h103)))
          refine ev_iload_9 dX6_spells_26 ?_
          refine ev_iload_1 dX6_spells_28 ?_
          refine ev_icmp_ge 119 dX6_spells_29 rfl (fun h29 => ?_) (fun h29 => ?_)
          · exact absurd h29 (nI_ge (by omega) (by omega))
          · refine ev_iload_8 dX6_spells_32 ?_
            refine ev_if_eq 119 dX6_spells_34 rfl (fun h34 => ?_) (fun h34 => ?_)
            · exact absurd h34 q8
            · refine ev_aload_0 dX6_spells_37 ?_
              refine ev_get dX6_spells_38 fk_X6_39 (by first | assumption | decide) (by decide) rfl ?_
              refine ev_aload_0 dX6_spells_41 ?_
              refine ev_get dX6_spells_42 fk_X6_238 (by first | assumption | decide) (by decide) rfl ?_
              refine ev_iload_9 dX6_spells_45 ?_
              refine Ev.pc 47 rfl ?_
              rw [hs]
              refine ev_iadd dX6_spells_47 ?_
              refine ev_aldN (k := s + k) dX6_spells_48 (by first | assumption | decide) (by first | rfl | (simp only [fa_lit, nI_add, pk_mul]; done) | (simp only [fa_lit, nI_add, pk_mul]; congr 1; omega)) (by have := xls; omega) ?_
              refine ev_iload_9 dX6_spells_49 ?_
              refine ev_if_ne 58 dX6_spells_51 rfl (fun h51 => ?_) (fun h51 => ?_)
              · refine ev_iload_9 dX6_spells_58 ?_
                refine ev_iconst_1 dX6_spells_60 ?_
                refine ev_icmp_ne 68 dX6_spells_61 rfl (fun h61 => ?_) (fun h61 => ?_)
                · refine ev_iload_9 dX6_spells_68 ?_
                  refine ev_iconst_2 dX6_spells_70 ?_
                  refine ev_icmp_ne 79 dX6_spells_71 rfl (fun h71 => ?_) (fun h71 => ?_)
                  · refine ev_iload_9 dX6_spells_79 ?_
                    refine ev_iconst_3 dX6_spells_81 ?_
                    refine ev_icmp_ne 90 dX6_spells_82 rfl (fun h82 => ?_) (fun h82 => ?_)
                    · refine ev_iload_9 dX6_spells_90 ?_
                      refine ev_iconst_4 dX6_spells_92 ?_
                      refine ev_icmp_ne 101 dX6_spells_93 rfl (fun h93 => ?_) (fun h93 => ?_)
                      · refine ev_iload_7 dX6_spells_101 ?_
                        first | exact K _ (by rw [ltM, if_neg (fun h => h51 (by rw [h]; rfl)), if_neg (fun h => h61 (by rw [h]; rfl)), if_neg (fun h => h71 (by rw [h]; rfl)), if_neg (fun h => h82 (by rw [h]; rfl)), if_neg (fun h => h93 (by rw [h]; rfl))]) | exact K _ (by rw [ltM, if_neg (fun h => h51 (by rw [h]; rfl)), if_neg (fun h => h61 (by rw [h]; rfl)), if_neg (fun h => h71 (by rw [h]; rfl)), if_neg (fun h => h82 (by rw [h]; rfl)), if_pos ((nI_eq (b := 4) (by omega) (by omega)).mp h93)]) | exact K _ (by rw [ltM, if_neg (fun h => h51 (by rw [h]; rfl)), if_neg (fun h => h61 (by rw [h]; rfl)), if_neg (fun h => h71 (by rw [h]; rfl)), if_pos ((nI_eq (b := 3) (by omega) (by omega)).mp h82)]) | exact K _ (by rw [ltM, if_neg (fun h => h51 (by rw [h]; rfl)), if_neg (fun h => h61 (by rw [h]; rfl)), if_pos ((nI_eq (b := 2) (by omega) (by omega)).mp h71)]) | exact K _ (by rw [ltM, if_neg (fun h => h51 (by rw [h]; rfl)), if_pos ((nI_eq (b := 1) (by omega) (by omega)).mp h61)]) | exact K _ (by rw [ltM, if_pos ((nI_eq (b := 0) (by omega) (by omega)).mp h51)])
                      · refine ev_iload_6 dX6_spells_96 ?_
                        refine ev_goto 103 dX6_spells_98 rfl ?_
                        first | exact K _ (by rw [ltM, if_neg (fun h => h51 (by rw [h]; rfl)), if_neg (fun h => h61 (by rw [h]; rfl)), if_neg (fun h => h71 (by rw [h]; rfl)), if_neg (fun h => h82 (by rw [h]; rfl)), if_neg (fun h => h93 (by rw [h]; rfl))]) | exact K _ (by rw [ltM, if_neg (fun h => h51 (by rw [h]; rfl)), if_neg (fun h => h61 (by rw [h]; rfl)), if_neg (fun h => h71 (by rw [h]; rfl)), if_neg (fun h => h82 (by rw [h]; rfl)), if_pos ((nI_eq (b := 4) (by omega) (by omega)).mp h93)]) | exact K _ (by rw [ltM, if_neg (fun h => h51 (by rw [h]; rfl)), if_neg (fun h => h61 (by rw [h]; rfl)), if_neg (fun h => h71 (by rw [h]; rfl)), if_pos ((nI_eq (b := 3) (by omega) (by omega)).mp h82)]) | exact K _ (by rw [ltM, if_neg (fun h => h51 (by rw [h]; rfl)), if_neg (fun h => h61 (by rw [h]; rfl)), if_pos ((nI_eq (b := 2) (by omega) (by omega)).mp h71)]) | exact K _ (by rw [ltM, if_neg (fun h => h51 (by rw [h]; rfl)), if_pos ((nI_eq (b := 1) (by omega) (by omega)).mp h61)]) | exact K _ (by rw [ltM, if_pos ((nI_eq (b := 0) (by omega) (by omega)).mp h51)])
                    · refine ev_iload_5 dX6_spells_85 ?_
                      refine ev_goto 103 dX6_spells_87 rfl ?_
                      first | exact K _ (by rw [ltM, if_neg (fun h => h51 (by rw [h]; rfl)), if_neg (fun h => h61 (by rw [h]; rfl)), if_neg (fun h => h71 (by rw [h]; rfl)), if_neg (fun h => h82 (by rw [h]; rfl)), if_neg (fun h => h93 (by rw [h]; rfl))]) | exact K _ (by rw [ltM, if_neg (fun h => h51 (by rw [h]; rfl)), if_neg (fun h => h61 (by rw [h]; rfl)), if_neg (fun h => h71 (by rw [h]; rfl)), if_neg (fun h => h82 (by rw [h]; rfl)), if_pos ((nI_eq (b := 4) (by omega) (by omega)).mp h93)]) | exact K _ (by rw [ltM, if_neg (fun h => h51 (by rw [h]; rfl)), if_neg (fun h => h61 (by rw [h]; rfl)), if_neg (fun h => h71 (by rw [h]; rfl)), if_pos ((nI_eq (b := 3) (by omega) (by omega)).mp h82)]) | exact K _ (by rw [ltM, if_neg (fun h => h51 (by rw [h]; rfl)), if_neg (fun h => h61 (by rw [h]; rfl)), if_pos ((nI_eq (b := 2) (by omega) (by omega)).mp h71)]) | exact K _ (by rw [ltM, if_neg (fun h => h51 (by rw [h]; rfl)), if_pos ((nI_eq (b := 1) (by omega) (by omega)).mp h61)]) | exact K _ (by rw [ltM, if_pos ((nI_eq (b := 0) (by omega) (by omega)).mp h51)])
                  · refine ev_iload_4 dX6_spells_74 ?_
                    refine ev_goto 103 dX6_spells_76 rfl ?_
                    first | exact K _ (by rw [ltM, if_neg (fun h => h51 (by rw [h]; rfl)), if_neg (fun h => h61 (by rw [h]; rfl)), if_neg (fun h => h71 (by rw [h]; rfl)), if_neg (fun h => h82 (by rw [h]; rfl)), if_neg (fun h => h93 (by rw [h]; rfl))]) | exact K _ (by rw [ltM, if_neg (fun h => h51 (by rw [h]; rfl)), if_neg (fun h => h61 (by rw [h]; rfl)), if_neg (fun h => h71 (by rw [h]; rfl)), if_neg (fun h => h82 (by rw [h]; rfl)), if_pos ((nI_eq (b := 4) (by omega) (by omega)).mp h93)]) | exact K _ (by rw [ltM, if_neg (fun h => h51 (by rw [h]; rfl)), if_neg (fun h => h61 (by rw [h]; rfl)), if_neg (fun h => h71 (by rw [h]; rfl)), if_pos ((nI_eq (b := 3) (by omega) (by omega)).mp h82)]) | exact K _ (by rw [ltM, if_neg (fun h => h51 (by rw [h]; rfl)), if_neg (fun h => h61 (by rw [h]; rfl)), if_pos ((nI_eq (b := 2) (by omega) (by omega)).mp h71)]) | exact K _ (by rw [ltM, if_neg (fun h => h51 (by rw [h]; rfl)), if_pos ((nI_eq (b := 1) (by omega) (by omega)).mp h61)]) | exact K _ (by rw [ltM, if_pos ((nI_eq (b := 0) (by omega) (by omega)).mp h51)])
                · refine ev_iload_3 dX6_spells_64 ?_
                  refine ev_goto 103 dX6_spells_65 rfl ?_
                  first | exact K _ (by rw [ltM, if_neg (fun h => h51 (by rw [h]; rfl)), if_neg (fun h => h61 (by rw [h]; rfl)), if_neg (fun h => h71 (by rw [h]; rfl)), if_neg (fun h => h82 (by rw [h]; rfl)), if_neg (fun h => h93 (by rw [h]; rfl))]) | exact K _ (by rw [ltM, if_neg (fun h => h51 (by rw [h]; rfl)), if_neg (fun h => h61 (by rw [h]; rfl)), if_neg (fun h => h71 (by rw [h]; rfl)), if_neg (fun h => h82 (by rw [h]; rfl)), if_pos ((nI_eq (b := 4) (by omega) (by omega)).mp h93)]) | exact K _ (by rw [ltM, if_neg (fun h => h51 (by rw [h]; rfl)), if_neg (fun h => h61 (by rw [h]; rfl)), if_neg (fun h => h71 (by rw [h]; rfl)), if_pos ((nI_eq (b := 3) (by omega) (by omega)).mp h82)]) | exact K _ (by rw [ltM, if_neg (fun h => h51 (by rw [h]; rfl)), if_neg (fun h => h61 (by rw [h]; rfl)), if_pos ((nI_eq (b := 2) (by omega) (by omega)).mp h71)]) | exact K _ (by rw [ltM, if_neg (fun h => h51 (by rw [h]; rfl)), if_pos ((nI_eq (b := 1) (by omega) (by omega)).mp h61)]) | exact K _ (by rw [ltM, if_pos ((nI_eq (b := 0) (by omega) (by omega)).mp h51)])
              · refine ev_iload_2 dX6_spells_54 ?_
                refine ev_goto 103 dX6_spells_55 rfl ?_
                first | exact K _ (by rw [ltM, if_neg (fun h => h51 (by rw [h]; rfl)), if_neg (fun h => h61 (by rw [h]; rfl)), if_neg (fun h => h71 (by rw [h]; rfl)), if_neg (fun h => h82 (by rw [h]; rfl)), if_neg (fun h => h93 (by rw [h]; rfl))]) | exact K _ (by rw [ltM, if_neg (fun h => h51 (by rw [h]; rfl)), if_neg (fun h => h61 (by rw [h]; rfl)), if_neg (fun h => h71 (by rw [h]; rfl)), if_neg (fun h => h82 (by rw [h]; rfl)), if_pos ((nI_eq (b := 4) (by omega) (by omega)).mp h93)]) | exact K _ (by rw [ltM, if_neg (fun h => h51 (by rw [h]; rfl)), if_neg (fun h => h61 (by rw [h]; rfl)), if_neg (fun h => h71 (by rw [h]; rfl)), if_pos ((nI_eq (b := 3) (by omega) (by omega)).mp h82)]) | exact K _ (by rw [ltM, if_neg (fun h => h51 (by rw [h]; rfl)), if_neg (fun h => h61 (by rw [h]; rfl)), if_pos ((nI_eq (b := 2) (by omega) (by omega)).mp h71)]) | exact K _ (by rw [ltM, if_neg (fun h => h51 (by rw [h]; rfl)), if_pos ((nI_eq (b := 1) (by omega) (by omega)).mp h61)]) | exact K _ (by rw [ltM, if_pos ((nI_eq (b := 0) (by omega) (by omega)).mp h51)])
    refine Ct.of (by decide +kernel) (Nat.le_of_ble_eq_true rfl) ⟨_, rfl, nb_b2i _⟩ ?_
    show Ev E _ RX6 cX6_spells 10 _ 0 [some (.ref (E.1 73)), some (.int (nI n)), some (.int a), some (.int b), some (.int c), some (.int e), some (.int f), some (.int l), none, none] [] _
    refine ev_aload_0 dX6_spells_0 ?_
    refine ev_get dX6_spells_1 fk_X6_244 (by first | assumption | decide) (by decide) rfl ?_
    refine ev_iconst_1 dX6_spells_4 ?_
    refine ev_icmp_ne 20 dX6_spells_5 rfl (fun h5 => ?_) (fun h5 => ?_)
    · exact absurd q7.1 h5
    · refine ev_aload_0 dX6_spells_8 ?_
      refine ev_get dX6_spells_9 fk_X6_241 (by first | assumption | decide) (by decide) rfl ?_
      refine ev_iload_1 dX6_spells_12 ?_
      refine ev_icmp_ne 20 dX6_spells_13 rfl (fun h13 => ?_) (fun h13 => ?_)
      · exact absurd q7.2 h13
      · refine ev_iconst_1 dX6_spells_16 ?_
        refine ev_goto 21 dX6_spells_17 rfl ?_
        refine ev_istore_8 dX6_spells_21 rfl ?_
        refine ev_iconst_0 dX6_spells_23 ?_
        refine ev_istore_9 dX6_spells_24 rfl ?_
        exact loop n 0 1 (by omega) rfl
  ·
    have eA : b2i (spM σ s n (ltM a b c e f l)) = 0 := (b2i_f (fun hh => q7 hh.1)).symm
    rw [eA]
    have L0 : Ev E (rm (d + 0)) RX6 cX6_spells 10 (fun z t => z = some (.int 0) ∧ t = σ) 26 [some (.ref (E.1 73)), some (.int (nI n)), some (.int a), some (.int b), some (.int c), some (.int e), some (.int f), some (.int l), some (.int 0), some (.int (nI 0))] [] σ := by
      refine ev_iload_9 dX6_spells_26 ?_
      refine ev_iload_1 dX6_spells_28 ?_
      refine ev_icmp_ge 119 dX6_spells_29 rfl (fun h29 => ?_) (fun h29 => ?_)
      · refine ev_iload_8 dX6_spells_119 ?_
        exact ev_ireturn dX6_spells_121 ⟨by rfl, by rfl⟩
      · refine ev_iload_8 dX6_spells_32 ?_
        refine ev_if_eq 119 dX6_spells_34 rfl (fun h34 => ?_) (fun h34 => ?_)
        · refine ev_iload_8 dX6_spells_119 ?_
          exact ev_ireturn dX6_spells_121 ⟨by rfl, by rfl⟩
        · exact absurd rfl h34
    refine Ct.of (by decide +kernel) (Nat.le_of_ble_eq_true rfl) ⟨_, rfl, rfl⟩ ?_
    show Ev E _ RX6 cX6_spells 10 _ 0 [some (.ref (E.1 73)), some (.int (nI n)), some (.int a), some (.int b), some (.int c), some (.int e), some (.int f), some (.int l), none, none] [] _
    refine ev_aload_0 dX6_spells_0 ?_
    refine ev_get dX6_spells_1 fk_X6_244 (by first | assumption | decide) (by decide) rfl ?_
    refine ev_iconst_1 dX6_spells_4 ?_
    refine ev_icmp_ne 20 dX6_spells_5 rfl (fun h5 => ?_) (fun h5 => ?_)
    · refine ev_iconst_0 dX6_spells_20 ?_
      refine ev_istore_8 dX6_spells_21 rfl ?_
      refine ev_iconst_0 dX6_spells_23 ?_
      refine ev_istore_9 dX6_spells_24 rfl ?_
      exact L0
    · refine ev_aload_0 dX6_spells_8 ?_
      refine ev_get dX6_spells_9 fk_X6_241 (by first | assumption | decide) (by decide) rfl ?_
      refine ev_iload_1 dX6_spells_12 ?_
      refine ev_icmp_ne 20 dX6_spells_13 rfl (fun h13 => ?_) (fun h13 => ?_)
      · refine ev_iconst_0 dX6_spells_20 ?_
        refine ev_istore_8 dX6_spells_21 rfl ?_
        refine ev_iconst_0 dX6_spells_23 ?_
        refine ev_istore_9 dX6_spells_24 rfl ?_
        exact L0
      · exact absurd ⟨h5, h13⟩ q7
