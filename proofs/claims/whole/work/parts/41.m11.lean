/-! the reference: buy, cheap -/
def farM : Int32 := 1000000
theorem farM_e : (1000000 : Int32) = farM := rfl
def bcM (f : Nat → Int32) (set : Int32) (p : Nat) : Int32 := if hasI' set p then (if f (7 + p) = 0 then priceF f p else farM) else 0
def bjM (f : Nat → Int32) (set : Int32) (h p : Nat) : Int32 := if hasI' set p then joyF f p h else 0
abbrev bbM (f : Nat → Int32) (b h P s : Nat) (most : Int32) : Prop := smI (bcM f (nI s)) P ≤ f (21 + b) ∧ most < smI (bjM f (nI s) h) P
def byS (f : Nat → Int32) (b h P : Nat) : Nat → Int32 × Int32
  | 0 => (-1, 0)
  | s + 1 => if bbM f b h P s (byS f b h P s).1 then (smI (bjM f (nI s) h) P, nI s) else byS f b h P s
theorem byS_y {f : Nat → Int32} {b h P s : Nat} (q : bbM f b h P s (byS f b h P s).1) : byS f b h P (s + 1) = (smI (bjM f (nI s) h) P, nI s) := by rw [byS, if_pos q]
theorem byS_n {f : Nat → Int32} {b h P s : Nat} (q : ¬ bbM f b h P s (byS f b h P s).1) : byS f b h P (s + 1) = byS f b h P s := by rw [byS, if_neg q]
theorem shl_P {P : Nat} (h : P ≤ 7) : (1 : Int32) <<< (nI P &&& 31) = nI (2 ^ P) := by
  rcases (show P = 0 ∨ P = 1 ∨ P = 2 ∨ P = 3 ∨ P = 4 ∨ P = 5 ∨ P = 6 ∨ P = 7 by omega) with rfl | rfl | rfl | rfl | rfl | rfl | rfl | rfl <;> decide
theorem p2 {P : Nat} (h : P ≤ 7) : 2 ^ P ≤ 128 := Nat.le_trans (Nat.pow_le_pow_right (by omega) h) (by decide)
theorem c_X6_buy_bad (d : Nat) {E : xE} {σ : xS} {b h w : Int32} (q7 : ¬ (hasIn (σ.1 74 2) b ∧ hasIn (σ.1 74 1) h ∧ btw w 0 1)) : Ct E (d + 3) yX6_buy cX6_buy 10 (some .int) [.ref (E.1 73), .int b, .int h, .int w] σ (some (.int (-2))) (mBad σ) := by
  refine Ct.of (by decide +kernel) (Nat.le_of_ble_eq_true rfl) ⟨_, rfl, rfl⟩ ?_
  show Ev E _ RX6 cX6_buy 10 _ 0 [some (.ref (E.1 73)), some (.int b), some (.int h), some (.int w), none, none, none, none, none, none] [] _
  refine ev_aload_0 dX6_buy_0 ?_
  refine ev_iload_1 dX6_buy_1 ?_
  refine ev_invV (ci := 6) dX6_buy_2 ml_X6_118 mt_X6_isBuyer (c_X6_isBuyer d) (by first | assumption | decide) (by decide) rfl rfl rfl (rm_ok (by omega)) (Nat.le_of_ble_eq_true rfl) ?_
  refine Ev.pc 5 rfl ?_
  refine ev_if_eq 26 dX6_buy_5 rfl (fun h5 => ?_) (fun h5 => ?_)
  · refine ev_aload_0 dX6_buy_26 ?_
    refine ev_bipush (-2) dX6_buy_27 rfl ?_
    refine ev_invV (ci := 6) dX6_buy_29 ml_X6_71 mt_X6_bad (c_X6_bad d) (by first | assumption | decide) (by decide) rfl rfl rfl (rm_ok (by omega)) (Nat.le_of_ble_eq_true rfl) ?_
    refine Ev.pc 32 rfl ?_
    exact ev_ireturn dX6_buy_32 ⟨by rfl, by rfl⟩
  · refine ev_aload_0 dX6_buy_8 ?_
    refine ev_iload_2 dX6_buy_9 ?_
    refine ev_invV (ci := 6) dX6_buy_10 ml_X6_134 mt_X6_isHearer (c_X6_isHearer d) (by first | assumption | decide) (by decide) rfl rfl rfl (rm_ok (by omega)) (Nat.le_of_ble_eq_true rfl) ?_
    refine Ev.pc 13 rfl ?_
    refine ev_if_eq 26 dX6_buy_13 rfl (fun h13 => ?_) (fun h13 => ?_)
    · refine ev_aload_0 dX6_buy_26 ?_
      refine ev_bipush (-2) dX6_buy_27 rfl ?_
      refine ev_invV (ci := 6) dX6_buy_29 ml_X6_71 mt_X6_bad (c_X6_bad d) (by first | assumption | decide) (by decide) rfl rfl rfl (rm_ok (by omega)) (Nat.le_of_ble_eq_true rfl) ?_
      refine Ev.pc 32 rfl ?_
      exact ev_ireturn dX6_buy_32 ⟨by rfl, by rfl⟩
    · refine ev_iload_3 dX6_buy_16 ?_
      refine ev_i2l dX6_buy_17 ?_
      refine ev_lconst_0 dX6_buy_18 ?_
      refine ev_lconst_1 dX6_buy_19 ?_
      refine ev_invS dX6_buy_20 ml_X6_56 mt_X6_in (c_X6_in d (v := w) (lo := 0) (hi := 1) (by first | rfl | decide) (by first | rfl | decide) (by first | rfl | decide)) rfl rfl (rm_ok (by omega)) (Nat.le_of_ble_eq_true rfl) ?_
      refine Ev.pc 23 rfl ?_
      refine ev_if_ne 33 dX6_buy_23 rfl (fun h23 => ?_) (fun h23 => ?_)
      · exact absurd ⟨b2i_n0.mp h5, b2i_n0.mp h13, b2i_n0.mp h23⟩ q7
      · refine ev_aload_0 dX6_buy_26 ?_
        refine ev_bipush (-2) dX6_buy_27 rfl ?_
        refine ev_invV (ci := 6) dX6_buy_29 ml_X6_71 mt_X6_bad (c_X6_bad d) (by first | assumption | decide) (by decide) rfl rfl rfl (rm_ok (by omega)) (Nat.le_of_ble_eq_true rfl) ?_
        refine Ev.pc 32 rfl ?_
        exact ev_ireturn dX6_buy_32 ⟨by rfl, by rfl⟩
theorem c_X6_buy (d : Nat) {E : xE} {σ : xS} {P H B b h : Nat} {w : Int32} (hP : σ.1 74 0 = nI P) (hP7 : P ≤ 7) (hH : σ.1 74 1 = nI H) (hH4 : H ≤ 4) (hB : σ.1 74 2 = nI B) (hB3 : B ≤ 3) (hb : b < B) (hh : h < H) (hw : btw w 0 1) : Ct E (d + 3) yX6_buy cX6_buy 10 (some .int) [.ref (E.1 73), .int (nI b), .int (nI h), .int w] σ (some (.int (if w = 0 then (byS (σ.1 74) b h P (2 ^ P)).1 else (byS (σ.1 74) b h P (2 ^ P)).2))) σ := by
  have e1 : hasIn (σ.1 74 2) (nI b) := by rw [hB]; exact hasIn_of (by omega) hb
  have e2 : hasIn (σ.1 74 1) (nI h) := by rw [hH]; exact hasIn_of (by omega) hh
  have h8 := p2 hP7
  have hsh := shl_P hP7
  obtain ⟨C, hC⟩ : ∃ x, x = 2 ^ P := ⟨_, rfl⟩
  rw [← hC] at h8 hsh ⊢
  obtain ⟨f, hf⟩ : ∃ x, x = σ.1 74 := ⟨_, rfl⟩
  rw [← hf]
  obtain ⟨F, hF⟩ : ∃ F : Option Value → xS → Prop, F = fun v t => v = some (.int (if w = 0 then (byS f b h P C).1 else (byS f b h P C).2)) ∧ t = σ := ⟨_, rfl⟩
  have sum : ∀ (s : Nat) (most best : Int32), (∀ z, Ev E (rm (d + 3)) RX6 cX6_buy 10 F 133 [some (.ref (E.1 73)), some (.int (nI b)), some (.int (nI h)), some (.int w), some (.int most), some (.int best), some (.int (nI s)), some (.int (smI (bcM f (nI s)) P)), some (.int (smI (bjM f (nI s) h) P)), z] [] σ) →
      ∀ (n p : Nat), p + n = P → Ev E (rm (d + 3)) RX6 cX6_buy 10 F 62 [some (.ref (E.1 73)), some (.int (nI b)), some (.int (nI h)), some (.int w), some (.int most), some (.int best), some (.int (nI s)), some (.int (smI (bcM f (nI s)) p)), some (.int (smI (bjM f (nI s) h) p)), some (.int (nI p))] [] σ := by
    intro s most best K n
    induction n with
    | zero =>
      intro p hp
      refine ev_iload_9 dX6_buy_62 ?_
      refine ev_aload_0 dX6_buy_64 ?_
      refine ev_invV (ci := 6) dX6_buy_65 ml_X6_52 mt_X6_many (c_X6_many d) (by first | assumption | decide) (by decide) rfl rfl rfl (rm_ok (by omega)) (Nat.le_of_ble_eq_true rfl) ?_
      refine Ev.pc 68 rfl ?_
      refine ev_icmp_ge 133 dX6_buy_68 rfl (fun h68 => ?_) (fun h68 => ?_)
      · rw [show p = P by omega]
        exact K _
      · exact absurd (show σ.1 74 0 ≤ nI p by rw [hP]; exact nI_le (by omega) (by omega)) h68
    | succ n ih =>
      intro p hp
      have hi := ih (p + 1) (by omega)
      by_cases q7 : hasI' (nI s) p
      ·
        by_cases q8 : f (7 + p) = 0
        ·
          have e3 : bcM f (nI s) p = priceF f p := by rw [bcM, if_pos q7, if_pos q8]
          have e4 : bjM f (nI s) h p = joyF f p h := by rw [bjM, if_pos q7]
          rw [smI, smI, e3, e4] at hi
          rw [hf] at q8 hi
          refine ev_iload_9 dX6_buy_62 ?_
          refine ev_aload_0 dX6_buy_64 ?_
          refine ev_invV (ci := 6) dX6_buy_65 ml_X6_52 mt_X6_many (c_X6_many d) (by first | assumption | decide) (by decide) rfl rfl rfl (rm_ok (by omega)) (Nat.le_of_ble_eq_true rfl) ?_
          refine Ev.pc 68 rfl ?_
          refine ev_icmp_ge 133 dX6_buy_68 rfl (fun h68 => ?_) (fun h68 => ?_)
          · exact absurd h68 (by rw [hP]; exact nI_ge (by omega) (by omega))
          · refine ev_iload_6 dX6_buy_71 ?_
            refine ev_iload_9 dX6_buy_73 ?_
            refine ev_invS dX6_buy_75 ml_X6_162 mt_X6_has (c_X6_has d) rfl rfl (rm_ok (by omega)) (Nat.le_of_ble_eq_true rfl) ?_
            refine Ev.pc 78 rfl ?_
            refine ev_if_eq 127 dX6_buy_78 rfl (fun h78 => ?_) (fun h78 => ?_)
            · exact absurd q7 (b2i_0.mp h78)
            · refine ev_iload_7 dX6_buy_81 ?_
              refine ev_aload_0 dX6_buy_83 ?_
              refine ev_get dX6_buy_84 fk_X6_7 (by first | assumption | decide) (by decide) rfl ?_
              refine ev_iload_9 dX6_buy_87 ?_
              refine ev_invS dX6_buy_89 ml_X6_95 mt_X6_isShown (c_X6_isShown d (by first | assumption | decide) (by have := xls; omega) (by omega)) rfl rfl (rm_ok (by omega)) (Nat.le_of_ble_eq_true rfl) ?_
              refine Ev.pc 92 rfl ?_
              refine ev_if_eq 107 dX6_buy_92 rfl (fun h92 => ?_) (fun h92 => ?_)
              · exact absurd q8 (b2i_0.mp h92)
              · refine ev_aload_0 dX6_buy_95 ?_
                refine ev_get dX6_buy_96 fk_X6_7 (by first | assumption | decide) (by decide) rfl ?_
                refine ev_iload_9 dX6_buy_99 ?_
                refine ev_invS dX6_buy_101 ml_X6_111 mt_X6_priceOf (c_X6_priceOf d (by first | assumption | decide) (by have := xls; omega) (by omega)) rfl rfl (rm_ok (by omega)) (Nat.le_of_ble_eq_true rfl) ?_
                refine Ev.pc 104 rfl ?_
                refine ev_goto 109 dX6_buy_104 rfl ?_
                refine ev_iadd dX6_buy_109 ?_
                refine Ev.pc 110 rfl ?_
                refine ev_istore_7 dX6_buy_110 rfl ?_
                refine ev_iload_8 dX6_buy_112 ?_
                refine ev_aload_0 dX6_buy_114 ?_
                refine ev_get dX6_buy_115 fk_X6_7 (by first | assumption | decide) (by decide) rfl ?_
                refine ev_iload_9 dX6_buy_118 ?_
                refine Ev.pc 120 rfl ?_
                refine ev_iload_2 dX6_buy_120 ?_
                refine ev_invS dX6_buy_121 ml_X6_114 mt_X6_joyOf (c_X6_joyOf d (by first | assumption | decide) (by have := xls; omega) (by omega) (by omega)) rfl rfl (rm_ok (by omega)) (Nat.le_of_ble_eq_true rfl) ?_
                refine Ev.pc 124 rfl ?_
                refine ev_iadd dX6_buy_124 ?_
                refine ev_istore_8 dX6_buy_125 rfl ?_
                refine ev_iinc_9 (1) dX6_buy_127 rfl rfl ?_
                refine Ev.pc 130 rfl ?_
                refine ev_goto 62 dX6_buy_130 rfl ?_
                rw [nI_1, hf]
                exact hi
        ·
          have e3 : bcM f (nI s) p = farM := by rw [bcM, if_pos q7, if_neg q8]
          have e4 : bjM f (nI s) h p = joyF f p h := by rw [bjM, if_pos q7]
          rw [smI, smI, e3, e4] at hi
          rw [hf] at q8 hi
          refine ev_iload_9 dX6_buy_62 ?_
          refine ev_aload_0 dX6_buy_64 ?_
          refine ev_invV (ci := 6) dX6_buy_65 ml_X6_52 mt_X6_many (c_X6_many d) (by first | assumption | decide) (by decide) rfl rfl rfl (rm_ok (by omega)) (Nat.le_of_ble_eq_true rfl) ?_
          refine Ev.pc 68 rfl ?_
          refine ev_icmp_ge 133 dX6_buy_68 rfl (fun h68 => ?_) (fun h68 => ?_)
          · exact absurd h68 (by rw [hP]; exact nI_ge (by omega) (by omega))
          · refine ev_iload_6 dX6_buy_71 ?_
            refine ev_iload_9 dX6_buy_73 ?_
            refine ev_invS dX6_buy_75 ml_X6_162 mt_X6_has (c_X6_has d) rfl rfl (rm_ok (by omega)) (Nat.le_of_ble_eq_true rfl) ?_
            refine Ev.pc 78 rfl ?_
            refine ev_if_eq 127 dX6_buy_78 rfl (fun h78 => ?_) (fun h78 => ?_)
            · exact absurd q7 (b2i_0.mp h78)
            · refine ev_iload_7 dX6_buy_81 ?_
              refine ev_aload_0 dX6_buy_83 ?_
              refine ev_get dX6_buy_84 fk_X6_7 (by first | assumption | decide) (by decide) rfl ?_
              refine ev_iload_9 dX6_buy_87 ?_
              refine ev_invS dX6_buy_89 ml_X6_95 mt_X6_isShown (c_X6_isShown d (by first | assumption | decide) (by have := xls; omega) (by omega)) rfl rfl (rm_ok (by omega)) (Nat.le_of_ble_eq_true rfl) ?_
              refine Ev.pc 92 rfl ?_
              refine ev_if_eq 107 dX6_buy_92 rfl (fun h92 => ?_) (fun h92 => ?_)
              · refine ev_ldc dX6_buy_107 cn_X6_172 ?_
                rw [farM_e]
                refine ev_iadd dX6_buy_109 ?_
                refine ev_istore_7 dX6_buy_110 rfl ?_
                refine ev_iload_8 dX6_buy_112 ?_
                refine ev_aload_0 dX6_buy_114 ?_
                refine Ev.pc 115 rfl ?_
                refine ev_get dX6_buy_115 fk_X6_7 (by first | assumption | decide) (by decide) rfl ?_
                refine ev_iload_9 dX6_buy_118 ?_
                refine ev_iload_2 dX6_buy_120 ?_
                refine ev_invS dX6_buy_121 ml_X6_114 mt_X6_joyOf (c_X6_joyOf d (by first | assumption | decide) (by have := xls; omega) (by omega) (by omega)) rfl rfl (rm_ok (by omega)) (Nat.le_of_ble_eq_true rfl) ?_
                refine Ev.pc 124 rfl ?_
                refine ev_iadd dX6_buy_124 ?_
                refine Ev.pc 125 rfl ?_
                refine ev_istore_8 dX6_buy_125 rfl ?_
                refine ev_iinc_9 (1) dX6_buy_127 rfl rfl ?_
                refine ev_goto 62 dX6_buy_130 rfl ?_
                rw [nI_1, hf]
                exact hi
              · exact absurd (b2i_n0.mp h92) q8
      ·
        have e3 : bcM f (nI s) p = 0 := by rw [bcM, if_neg q7]
        have e4 : bjM f (nI s) h p = 0 := by rw [bjM, if_neg q7]
        rw [smI, smI, e3, e4, Int32.add_zero, Int32.add_zero] at hi
        refine ev_iload_9 dX6_buy_62 ?_
        refine ev_aload_0 dX6_buy_64 ?_
        refine ev_invV (ci := 6) dX6_buy_65 ml_X6_52 mt_X6_many (c_X6_many d) (by first | assumption | decide) (by decide) rfl rfl rfl (rm_ok (by omega)) (Nat.le_of_ble_eq_true rfl) ?_
        refine Ev.pc 68 rfl ?_
        refine ev_icmp_ge 133 dX6_buy_68 rfl (fun h68 => ?_) (fun h68 => ?_)
        · exact absurd h68 (by rw [hP]; exact nI_ge (by omega) (by omega))
        · refine ev_iload_6 dX6_buy_71 ?_
          refine ev_iload_9 dX6_buy_73 ?_
          refine ev_invS dX6_buy_75 ml_X6_162 mt_X6_has (c_X6_has d) rfl rfl (rm_ok (by omega)) (Nat.le_of_ble_eq_true rfl) ?_
          refine Ev.pc 78 rfl ?_
          refine ev_if_eq 127 dX6_buy_78 rfl (fun h78 => ?_) (fun h78 => ?_)
          · refine ev_iinc_9 (1) dX6_buy_127 rfl rfl ?_
            refine ev_goto 62 dX6_buy_130 rfl ?_
            rw [nI_1]
            exact hi
          · exact absurd (b2i_n0.mp h78) q7
  have loop : ∀ (n s : Nat) (z7 z8 z9 : Option Value), s + n = C → Ev E (rm (d + 3)) RX6 cX6_buy 10 F 42 [some (.ref (E.1 73)), some (.int (nI b)), some (.int (nI h)), some (.int w), some (.int (byS f b h P s).1), some (.int (byS f b h P s).2), some (.int (nI s)), z7, z8, z9] [] σ := by
    intro n
    induction n with
    | zero =>
      intro s z7 z8 z9 hs
      rw [hF]
      refine ev_iload_6 dX6_buy_42 ?_
      refine ev_iconst_1 dX6_buy_44 ?_
      refine ev_aload_0 dX6_buy_45 ?_
      refine ev_invV (ci := 6) dX6_buy_46 ml_X6_52 mt_X6_many (c_X6_many d) (by first | assumption | decide) (by decide) rfl rfl rfl (rm_ok (by omega)) (Nat.le_of_ble_eq_true rfl) ?_
      refine Ev.pc 49 rfl ?_
      refine ev_ishl dX6_buy_49 ?_
      refine Ev.pc 50 rfl ?_
      rw [hP, hsh]
      refine ev_icmp_ge 195 dX6_buy_50 rfl (fun h50 => ?_) (fun h50 => ?_)
      · refine ev_iload_3 dX6_buy_195 ?_
        refine ev_if_ne 204 dX6_buy_196 rfl (fun h196 => ?_) (fun h196 => ?_)
        · refine ev_iload_5 dX6_buy_204 ?_
          exact ev_ireturn dX6_buy_206 ⟨by (rw [show C = s by omega]; first | rw [if_pos h196] | rw [if_neg h196]), by rfl⟩
        · refine ev_iload_4 dX6_buy_199 ?_
          refine ev_goto 206 dX6_buy_201 rfl ?_
          exact ev_ireturn dX6_buy_206 ⟨by (rw [show C = s by omega]; first | rw [if_pos h196] | rw [if_neg h196]), by rfl⟩
      · exact absurd (nI_le (by omega) (by omega)) h50
    | succ n ih =>
      intro s z7 z8 z9 hs
      obtain ⟨pr, hpr⟩ : ∃ x, x = byS f b h P s := ⟨_, rfl⟩
      rw [← hpr]
      have K : ∀ y : Int32, y = b2i (bbM f b h P s pr.1) → ∀ z, Ev E (rm (d + 3)) RX6 cX6_buy 10 F 159 [some (.ref (E.1 73)), some (.int (nI b)), some (.int (nI h)), some (.int w), some (.int pr.1), some (.int pr.2), some (.int (nI s)), some (.int (smI (bcM f (nI s)) P)), some (.int (smI (bjM f (nI s) h) P)), z] [.int y] σ := by
        intro y hy z
        by_cases q7 : bbM f b h P s pr.1
        ·
          have hi := fun z7 z8 z9 => ih (s + 1) z7 z8 z9 (by omega)
          rw [byS_y (by rw [← hpr]; exact q7)] at hi
          have hy1 : ¬ y = 0 := by rw [hy]; exact b2i_n0.mpr q7
          refine ev_istore_9 dX6_buy_159 rfl ?_
          refine ev_iload_9 dX6_buy_161 ?_
          refine ev_if_eq 171 dX6_buy_163 rfl (fun h163 => ?_) (fun h163 => ?_)
          · exact absurd h163 hy1
          · refine ev_iload_6 dX6_buy_166 ?_
            refine ev_goto 173 dX6_buy_168 rfl ?_
            refine ev_istore_5 dX6_buy_173 rfl ?_
            refine ev_iload_9 dX6_buy_175 ?_
            refine ev_if_eq 185 dX6_buy_177 rfl (fun h177 => ?_) (fun h177 => ?_)
            · exact absurd h177 hy1
            · refine ev_iload_8 dX6_buy_180 ?_
              refine ev_goto 187 dX6_buy_182 rfl ?_
              refine ev_istore_4 dX6_buy_187 rfl ?_
              refine ev_iinc_6 (1) dX6_buy_189 rfl rfl ?_
              refine ev_goto 42 dX6_buy_192 rfl ?_
              rw [nI_1]
              exact hi _ _ _
        ·
          have hi := fun z7 z8 z9 => ih (s + 1) z7 z8 z9 (by omega)
          rw [byS_n (by rw [← hpr]; exact q7), ← hpr] at hi
          have hy1 : y = 0 := by rw [hy]; exact b2i_0.mpr q7
          refine ev_istore_9 dX6_buy_159 rfl ?_
          refine ev_iload_9 dX6_buy_161 ?_
          refine ev_if_eq 171 dX6_buy_163 rfl (fun h163 => ?_) (fun h163 => ?_)
          · refine ev_iload_5 dX6_buy_171 ?_
            refine ev_istore_5 dX6_buy_173 rfl ?_
            refine ev_iload_9 dX6_buy_175 ?_
            refine ev_if_eq 185 dX6_buy_177 rfl (fun h177 => ?_) (fun h177 => ?_)
            · refine ev_iload_4 dX6_buy_185 ?_
              refine ev_istore_4 dX6_buy_187 rfl ?_
              refine ev_iinc_6 (1) dX6_buy_189 rfl rfl ?_
              refine ev_goto 42 dX6_buy_192 rfl ?_
              rw [nI_1]
              exact hi _ _ _
            · exact absurd hy1 h177
          · exact absurd hy1 h163
      refine ev_iload_6 dX6_buy_42 ?_
      refine ev_iconst_1 dX6_buy_44 ?_
      refine ev_aload_0 dX6_buy_45 ?_
      refine ev_invV (ci := 6) dX6_buy_46 ml_X6_52 mt_X6_many (c_X6_many d) (by first | assumption | decide) (by decide) rfl rfl rfl (rm_ok (by omega)) (Nat.le_of_ble_eq_true rfl) ?_
      refine Ev.pc 49 rfl ?_
      refine ev_ishl dX6_buy_49 ?_
      refine Ev.pc 50 rfl ?_
      rw [hP, hsh]
      refine ev_icmp_ge 195 dX6_buy_50 rfl (fun h50 => ?_) (fun h50 => ?_)
      · exact absurd h50 (nI_ge (by omega) (by omega))
      · refine ev_iconst_0 dX6_buy_53 ?_
        refine ev_istore_7 dX6_buy_54 rfl ?_
        refine ev_iconst_0 dX6_buy_56 ?_
        refine ev_istore_8 dX6_buy_57 rfl ?_
        refine ev_iconst_0 dX6_buy_59 ?_
        refine Ev.pc 60 rfl ?_
        refine ev_istore_9 dX6_buy_60 rfl ?_
        refine sum s _ _ (fun z => ?_) P 0 (by omega)
        refine ev_iload_7 dX6_buy_133 ?_
        refine ev_aload_0 dX6_buy_135 ?_
        refine ev_get dX6_buy_136 fk_X6_7 (by first | assumption | decide) (by decide) rfl ?_
        refine ev_bipush (21) dX6_buy_139 rfl ?_
        refine ev_iload_1 dX6_buy_141 ?_
        refine Ev.pc 142 rfl ?_
        refine ev_iadd dX6_buy_142 ?_
        refine ev_aldA (n := 21) dX6_buy_143 (by first | assumption | decide) (by have := xls; omega) ?_
        rw [← hf]
        refine ev_icmp_gt 158 dX6_buy_144 rfl (fun h144 => ?_) (fun h144 => ?_)
        · refine ev_iconst_0 dX6_buy_158 ?_
          first | exact K _ (b2i_f (fun q => absurd q.1 (Int32.not_le.mpr h144))) _ | exact K _ (b2i_f (fun q => absurd q.2 (Int32.not_lt.mpr h151))) _ | exact K _ (b2i_t ⟨Int32.not_lt.mp h144, Int32.not_le.mp h151⟩) _
        · refine ev_iload_8 dX6_buy_147 ?_
          refine ev_iload_4 dX6_buy_149 ?_
          refine ev_icmp_le 158 dX6_buy_151 rfl (fun h151 => ?_) (fun h151 => ?_)
          · refine ev_iconst_0 dX6_buy_158 ?_
            first | exact K _ (b2i_f (fun q => absurd q.1 (Int32.not_le.mpr h144))) _ | exact K _ (b2i_f (fun q => absurd q.2 (Int32.not_lt.mpr h151))) _ | exact K _ (b2i_t ⟨Int32.not_lt.mp h144, Int32.not_le.mp h151⟩) _
          · refine ev_iconst_1 dX6_buy_154 ?_
            refine ev_goto 159 dX6_buy_155 rfl ?_
            first | exact K _ (b2i_f (fun q => absurd q.1 (Int32.not_le.mpr h144))) _ | exact K _ (b2i_f (fun q => absurd q.2 (Int32.not_lt.mpr h151))) _ | exact K _ (b2i_t ⟨Int32.not_lt.mp h144, Int32.not_le.mp h151⟩) _
  rw [hF] at loop
  refine Ct.of (by decide +kernel) (Nat.le_of_ble_eq_true rfl) ⟨_, rfl, rfl⟩ ?_
  show Ev E _ RX6 cX6_buy 10 _ 0 [some (.ref (E.1 73)), some (.int (nI b)), some (.int (nI h)), some (.int w), none, none, none, none, none, none] [] _
  refine ev_aload_0 dX6_buy_0 ?_
  refine ev_iload_1 dX6_buy_1 ?_
  refine ev_invV (ci := 6) dX6_buy_2 ml_X6_118 mt_X6_isBuyer (c_X6_isBuyer d) (by first | assumption | decide) (by decide) rfl rfl rfl (rm_ok (by omega)) (Nat.le_of_ble_eq_true rfl) ?_
  refine Ev.pc 5 rfl ?_
  refine ev_if_eq 26 dX6_buy_5 rfl (fun h5 => ?_) (fun h5 => ?_)
  · exact absurd e1 (b2i_0.mp h5)
  · refine ev_aload_0 dX6_buy_8 ?_
    refine ev_iload_2 dX6_buy_9 ?_
    refine ev_invV (ci := 6) dX6_buy_10 ml_X6_134 mt_X6_isHearer (c_X6_isHearer d) (by first | assumption | decide) (by decide) rfl rfl rfl (rm_ok (by omega)) (Nat.le_of_ble_eq_true rfl) ?_
    refine Ev.pc 13 rfl ?_
    refine ev_if_eq 26 dX6_buy_13 rfl (fun h13 => ?_) (fun h13 => ?_)
    · exact absurd e2 (b2i_0.mp h13)
    · refine ev_iload_3 dX6_buy_16 ?_
      refine ev_i2l dX6_buy_17 ?_
      refine ev_lconst_0 dX6_buy_18 ?_
      refine ev_lconst_1 dX6_buy_19 ?_
      refine ev_invS dX6_buy_20 ml_X6_56 mt_X6_in (c_X6_in d (v := w) (lo := 0) (hi := 1) (by first | rfl | decide) (by first | rfl | decide) (by first | rfl | decide)) rfl rfl (rm_ok (by omega)) (Nat.le_of_ble_eq_true rfl) ?_
      refine Ev.pc 23 rfl ?_
      refine ev_if_ne 33 dX6_buy_23 rfl (fun h23 => ?_) (fun h23 => ?_)
      · refine ev_iconst_m1 dX6_buy_33 ?_
        refine ev_istore_4 dX6_buy_34 rfl ?_
        refine ev_iconst_0 dX6_buy_36 ?_
        refine ev_istore_5 dX6_buy_37 rfl ?_
        refine ev_iconst_0 dX6_buy_39 ?_
        refine Ev.pc 40 rfl ?_
        refine ev_istore_6 dX6_buy_40 rfl ?_
        exact loop C 0 _ _ _ (by omega)
      · exact absurd hw (b2i_0.mp h23)
