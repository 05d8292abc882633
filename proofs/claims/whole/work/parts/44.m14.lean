/-! the reference: counts, digest, fraction, redeemed, years -/
def shM (f : Nat → Int32) (P : Nat) : Int32 := smI (fun p => b2i (f (7 + p) = 0)) P
def kpM (f : Nat → Int32) (P : Nat) : Int32 := smI (fun p => b2i (10 ≤ f (7 + p))) P
def cntM (σ : xS) (P k : Nat) : Int32 :=
  if k = 3 then σ.1 74 25 else if k = 4 then shM (σ.1 74) P else if k = 5 then kpM (σ.1 74) P else if k = 6 then σ.1 74 24 else if k = 11 then σ.1 73 11 else if k < 3 then σ.1 74 k else σ.1 74 (k - 4)
theorem cntM_lo {σ : xS} {P k : Nat} (h : k < 3) : σ.1 74 k = cntM σ P k := by
  rw [cntM, if_neg (by omega), if_neg (by omega), if_neg (by omega), if_neg (by omega), if_neg (by omega), if_pos h]
theorem cntM_hi {σ : xS} {P k : Nat} (h : 7 ≤ k) (h2 : k < 11) : σ.1 74 (k - 4) = cntM σ P k := by
  rw [cntM, if_neg (by omega), if_neg (by omega), if_neg (by omega), if_neg (by omega), if_neg (by omega), if_neg (by omega)]
theorem c_X6_counted (d : Nat) {E : xE} {σ : xS} {P k : Nat} (hP : σ.1 74 0 = nI P) (hP7 : P ≤ 7) (hk : k < 12) : Ct E (d + 1) yX6_counted cX6_counted 5 (some .int) [.ref (E.1 73), .int (nI k)] σ (some (.int (cntM σ P k))) σ := by
  have K1 : k < 3 → ∀ a b z4, Ev E (rm (d + 1)) RX6 cX6_counted 5 (fun v t => v = some (.int (cntM σ P k)) ∧ t = σ) 141 [some (.ref (E.1 73)), some (.int (nI k)), some (.int a), some (.int b), z4] [] σ := by
    intro h a b z4
    rw [← cntM_lo h]
    refine ev_iload_1 dX6_counted_141 ?_
    refine ev_iconst_3 dX6_counted_142 ?_
    refine ev_icmp_ge 155 dX6_counted_143 rfl (fun h143 => ?_) (fun h143 => ?_)
    · exact absurd h143 (show ¬ nI 3 ≤ nI k from nI_ge (by omega) (by omega))
    · refine ev_aload_0 dX6_counted_146 ?_
      refine ev_get dX6_counted_147 fk_X6_7 (by first | assumption | decide) (by decide) rfl ?_
      refine ev_iload_1 dX6_counted_150 ?_
      refine ev_aldV dX6_counted_151 (by first | assumption | decide) (by have := xls; omega) ?_
      refine ev_goto 166 dX6_counted_152 rfl ?_
      exact ev_ireturn dX6_counted_166 ⟨by rfl, by rfl⟩
  have K2 : 7 ≤ k → k < 11 → ∀ a b z4, Ev E (rm (d + 1)) RX6 cX6_counted 5 (fun v t => v = some (.int (cntM σ P k)) ∧ t = σ) 141 [some (.ref (E.1 73)), some (.int (nI k)), some (.int a), some (.int b), z4] [] σ := by
    intro h h2 a b z4
    have e1 : (3 : Int32) + nI k - 7 = nI (k - 4) := by
      rcases (show k = 7 ∨ k = 8 ∨ k = 9 ∨ k = 10 by omega) with rfl | rfl | rfl | rfl <;> decide
    rw [← cntM_hi h h2]
    refine ev_iload_1 dX6_counted_141 ?_
    refine ev_iconst_3 dX6_counted_142 ?_
    refine ev_icmp_ge 155 dX6_counted_143 rfl (fun h143 => ?_) (fun h143 => ?_)
    · refine ev_aload_0 dX6_counted_155 ?_
      refine ev_get dX6_counted_156 fk_X6_7 (by first | assumption | decide) (by decide) rfl ?_
      refine ev_iconst_3 dX6_counted_159 ?_
      refine ev_iload_1 dX6_counted_160 ?_
      refine ev_iadd dX6_counted_161 ?_
      refine Ev.pc 162 rfl ?_
      refine ev_bipush (7) dX6_counted_162 rfl ?_
      refine ev_isub dX6_counted_164 ?_
      rw [e1]
      refine ev_aldN (k := k - 4) dX6_counted_165 (by first | assumption | decide) (by first | rfl | (simp only [fa_lit, nI_add, pk_mul]; done) | (simp only [fa_lit, nI_add, pk_mul]; congr 1; omega)) (by have := xls; omega) ?_
      exact ev_ireturn dX6_counted_166 ⟨by rfl, by rfl⟩
    · exact absurd (show nI 3 ≤ nI k from nI_le (by omega) (by omega)) h143
  have Q : ∀ v : Nat, v < 12 → nI k = nI v → k = v := fun v hv h => (nI_eq (by omega) (by omega)).mp h
  have loop : ∀ (n p : Nat), p + n = P → Ev E (rm (d + 1)) RX6 cX6_counted 5 (fun v t => v = some (.int (cntM σ P k)) ∧ t = σ) 7 [some (.ref (E.1 73)), some (.int (nI k)), some (.int (shM (σ.1 74) p)), some (.int (kpM (σ.1 74) p)), some (.int (nI p))] [] σ := by
    intro n
    induction n with
    | zero =>
      intro p hp
      obtain rfl : p = P := by omega
      refine ev_iload_4 dX6_counted_7 ?_
      refine ev_aload_0 dX6_counted_9 ?_
      refine ev_invV (ci := 6) dX6_counted_10 ml_X6_52 mt_X6_many (c_X6_many d) (by first | assumption | decide) (by decide) rfl rfl rfl (rm_ok (by omega)) (Nat.le_of_ble_eq_true rfl) ?_
      refine Ev.pc 13 rfl ?_
      refine ev_icmp_ge 65 dX6_counted_13 rfl (fun h13 => ?_) (fun h13 => ?_)
      · refine ev_iload_1 dX6_counted_65 ?_
        refine sw_X6_counted_66 (fun h66 => ?_) (fun h66 => ?_) (fun h66 => ?_) (fun h66 => ?_) (fun h66 => ?_) (fun h66 => ?_) (fun h66 => ?_) (fun h66 => ?_) (fun h66 => ?_) (fun h66_3 h66_4 h66_5 h66_6 h66_7 h66_8 h66_9 h66_10 h66_11 => ?_)
        · refine ev_aload_0 dX6_counted_116 ?_
          refine ev_get dX6_counted_117 fk_X6_7 (by first | assumption | decide) (by decide) rfl ?_
          refine ev_bipush (25) dX6_counted_120 rfl ?_
          refine ev_aldL (n := 25) dX6_counted_122 (by first | assumption | decide) (by have := xls; omega) ?_
          exact ev_ireturn dX6_counted_123 ⟨by (rw [Q 3 (by omega) h66]; rfl), by rfl⟩
        · refine ev_iload_2 dX6_counted_124 ?_
          exact ev_ireturn dX6_counted_125 ⟨by (rw [Q 4 (by omega) h66]; rfl), by rfl⟩
        · refine ev_iload_3 dX6_counted_126 ?_
          exact ev_ireturn dX6_counted_127 ⟨by (rw [Q 5 (by omega) h66]; rfl), by rfl⟩
        · refine ev_aload_0 dX6_counted_128 ?_
          refine ev_get dX6_counted_129 fk_X6_7 (by first | assumption | decide) (by decide) rfl ?_
          refine ev_bipush (24) dX6_counted_132 rfl ?_
          refine ev_aldL (n := 24) dX6_counted_134 (by first | assumption | decide) (by have := xls; omega) ?_
          exact ev_ireturn dX6_counted_135 ⟨by (rw [Q 6 (by omega) h66]; rfl), by rfl⟩
        · have q := Q 7 (by omega) h66
          first | exact K1 q _ _ _ | exact K2 (by omega) (by omega) _ _ _
        · have q := Q 8 (by omega) h66
          first | exact K1 q _ _ _ | exact K2 (by omega) (by omega) _ _ _
        · have q := Q 9 (by omega) h66
          first | exact K1 q _ _ _ | exact K2 (by omega) (by omega) _ _ _
        · have q := Q 10 (by omega) h66
          first | exact K1 q _ _ _ | exact K2 (by omega) (by omega) _ _ _
        · refine ev_aload_0 dX6_counted_136 ?_
          refine ev_get dX6_counted_137 fk_X6_226 (by first | assumption | decide) (by decide) rfl ?_
          exact ev_ireturn dX6_counted_140 ⟨by (rw [Q 11 (by omega) h66]; rfl), by rfl⟩
        · have q : k < 3 := by
            have q3 : k ≠ 3 := fun h => h66_3 (by rw [h]; rfl)
            have q4 : k ≠ 4 := fun h => h66_4 (by rw [h]; rfl)
            have q5 : k ≠ 5 := fun h => h66_5 (by rw [h]; rfl)
            have q6 : k ≠ 6 := fun h => h66_6 (by rw [h]; rfl)
            have q7 : k ≠ 7 := fun h => h66_7 (by rw [h]; rfl)
            have q8 : k ≠ 8 := fun h => h66_8 (by rw [h]; rfl)
            have q9 : k ≠ 9 := fun h => h66_9 (by rw [h]; rfl)
            have q10 : k ≠ 10 := fun h => h66_10 (by rw [h]; rfl)
            have q11 : k ≠ 11 := fun h => h66_11 (by rw [h]; rfl)
            omega
          first | exact K1 q _ _ _ | exact K2 (by omega) (by omega) _ _ _
      · exact absurd (show σ.1 74 0 ≤ nI p by rw [hP]; exact nI_le (by omega) (by omega)) h13
    | succ n ih =>
      intro p hp
      have hi := ih (p + 1) (by omega)
      rw [shM, kpM, smI, smI, ← shM, ← kpM] at hi
      refine ev_iload_4 dX6_counted_7 ?_
      refine ev_aload_0 dX6_counted_9 ?_
      refine ev_invV (ci := 6) dX6_counted_10 ml_X6_52 mt_X6_many (c_X6_many d) (by first | assumption | decide) (by decide) rfl rfl rfl (rm_ok (by omega)) (Nat.le_of_ble_eq_true rfl) ?_
      refine Ev.pc 13 rfl ?_
      refine ev_icmp_ge 65 dX6_counted_13 rfl (fun h13 => ?_) (fun h13 => ?_)
      · exact absurd h13 (by rw [hP]; exact nI_ge (by omega) (by omega))
      · refine ev_iload_2 dX6_counted_16 ?_
        refine ev_aload_0 dX6_counted_17 ?_
        refine ev_get dX6_counted_18 fk_X6_7 (by first | assumption | decide) (by decide) rfl ?_
        refine ev_iload_4 dX6_counted_21 ?_
        refine ev_invS dX6_counted_23 ml_X6_95 mt_X6_isShown (c_X6_isShown d (by first | assumption | decide) (by have := xls; omega) (by omega)) rfl rfl (rm_ok (by omega)) (Nat.le_of_ble_eq_true rfl) ?_
        refine Ev.pc 26 rfl ?_
        refine ev_if_eq 33 dX6_counted_26 rfl (fun h26 => ?_) (fun h26 => ?_)
        · refine ev_iconst_0 dX6_counted_33 ?_
          refine ev_iadd dX6_counted_34 ?_
          refine ev_istore_2 dX6_counted_35 rfl ?_
          refine ev_iload_3 dX6_counted_36 ?_
          refine ev_aload_0 dX6_counted_37 ?_
          refine Ev.pc 38 rfl ?_
          refine ev_get dX6_counted_38 fk_X6_7 (by first | assumption | decide) (by decide) rfl ?_
          refine ev_bipush (7) dX6_counted_41 rfl ?_
          refine ev_iload_4 dX6_counted_43 ?_
          refine ev_iadd dX6_counted_45 ?_
          refine ev_aldA (n := 7) dX6_counted_46 (by first | assumption | decide) (by have := xls; omega) ?_
          refine Ev.pc 47 rfl ?_
          refine ev_bipush (10) dX6_counted_47 rfl ?_
          refine ev_icmp_lt 56 dX6_counted_49 rfl (fun h49 => ?_) (fun h49 => ?_)
          · refine ev_iconst_0 dX6_counted_56 ?_
            refine ev_iadd dX6_counted_57 ?_
            refine ev_istore_3 dX6_counted_58 rfl ?_
            refine ev_iinc_4 (1) dX6_counted_59 rfl rfl ?_
            refine ev_goto 7 dX6_counted_62 rfl ?_
            rw [nI_1]
            first | (rw [← b2i_t (b2i_n0.mp h26), ← b2i_t (Int32.not_lt.mp h49)] at hi; exact hi) | (rw [← b2i_t (b2i_n0.mp h26), ← b2i_f (Int32.not_le.mpr h49)] at hi; exact hi) | (rw [← b2i_f (b2i_0.mp h26), ← b2i_t (Int32.not_lt.mp h49)] at hi; exact hi) | (rw [← b2i_f (b2i_0.mp h26), ← b2i_f (Int32.not_le.mpr h49)] at hi; exact hi)
          · refine ev_iconst_1 dX6_counted_52 ?_
            refine ev_goto 57 dX6_counted_53 rfl ?_
            refine ev_iadd dX6_counted_57 ?_
            refine ev_istore_3 dX6_counted_58 rfl ?_
            refine ev_iinc_4 (1) dX6_counted_59 rfl rfl ?_
            refine ev_goto 7 dX6_counted_62 rfl ?_
            rw [nI_1]
            first | (rw [← b2i_t (b2i_n0.mp h26), ← b2i_t (Int32.not_lt.mp h49)] at hi; exact hi) | (rw [← b2i_t (b2i_n0.mp h26), ← b2i_f (Int32.not_le.mpr h49)] at hi; exact hi) | (rw [← b2i_f (b2i_0.mp h26), ← b2i_t (Int32.not_lt.mp h49)] at hi; exact hi) | (rw [← b2i_f (b2i_0.mp h26), ← b2i_f (Int32.not_le.mpr h49)] at hi; exact hi)
        · refine ev_iconst_1 dX6_counted_29 ?_
          refine ev_goto 34 dX6_counted_30 rfl ?_
          refine ev_iadd dX6_counted_34 ?_
          refine ev_istore_2 dX6_counted_35 rfl ?_
          refine ev_iload_3 dX6_counted_36 ?_
          refine ev_aload_0 dX6_counted_37 ?_
          refine Ev.pc 38 rfl ?_
          refine ev_get dX6_counted_38 fk_X6_7 (by first | assumption | decide) (by decide) rfl ?_
          refine ev_bipush (7) dX6_counted_41 rfl ?_
          refine ev_iload_4 dX6_counted_43 ?_
          refine ev_iadd dX6_counted_45 ?_
          refine ev_aldA (n := 7) dX6_counted_46 (by first | assumption | decide) (by have := xls; omega) ?_
          refine Ev.pc 47 rfl ?_
          refine ev_bipush (10) dX6_counted_47 rfl ?_
          refine ev_icmp_lt 56 dX6_counted_49 rfl (fun h49 => ?_) (fun h49 => ?_)
          · refine ev_iconst_0 dX6_counted_56 ?_
            refine ev_iadd dX6_counted_57 ?_
            refine ev_istore_3 dX6_counted_58 rfl ?_
            refine ev_iinc_4 (1) dX6_counted_59 rfl rfl ?_
            refine ev_goto 7 dX6_counted_62 rfl ?_
            rw [nI_1]
            first | (rw [← b2i_t (b2i_n0.mp h26), ← b2i_t (Int32.not_lt.mp h49)] at hi; exact hi) | (rw [← b2i_t (b2i_n0.mp h26), ← b2i_f (Int32.not_le.mpr h49)] at hi; exact hi) | (rw [← b2i_f (b2i_0.mp h26), ← b2i_t (Int32.not_lt.mp h49)] at hi; exact hi) | (rw [← b2i_f (b2i_0.mp h26), ← b2i_f (Int32.not_le.mpr h49)] at hi; exact hi)
          · refine ev_iconst_1 dX6_counted_52 ?_
            refine ev_goto 57 dX6_counted_53 rfl ?_
            refine ev_iadd dX6_counted_57 ?_
            refine ev_istore_3 dX6_counted_58 rfl ?_
            refine ev_iinc_4 (1) dX6_counted_59 rfl rfl ?_
            refine ev_goto 7 dX6_counted_62 rfl ?_
            rw [nI_1]
            first | (rw [← b2i_t (b2i_n0.mp h26), ← b2i_t (Int32.not_lt.mp h49)] at hi; exact hi) | (rw [← b2i_t (b2i_n0.mp h26), ← b2i_f (Int32.not_le.mpr h49)] at hi; exact hi) | (rw [← b2i_f (b2i_0.mp h26), ← b2i_t (Int32.not_lt.mp h49)] at hi; exact hi) | (rw [← b2i_f (b2i_0.mp h26), ← b2i_f (Int32.not_le.mpr h49)] at hi; exact hi)
  refine Ct.of (by decide +kernel) (Nat.le_of_ble_eq_true rfl) ⟨_, rfl, rfl⟩ ?_
  show Ev E _ RX6 cX6_counted 5 _ 0 [some (.ref (E.1 73)), some (.int (nI k)), none, none, none] [] _
  refine ev_iconst_0 dX6_counted_0 ?_
  refine ev_istore_2 dX6_counted_1 rfl ?_
  refine ev_iconst_0 dX6_counted_2 ?_
  refine ev_istore_3 dX6_counted_3 rfl ?_
  refine ev_iconst_0 dX6_counted_4 ?_
  refine Ev.pc 5 rfl ?_
  refine ev_istore_4 dX6_counted_5 rfl ?_
  exact loop P 0 (by omega)
theorem c_X6_count_bad (d : Nat) {E : xE} {σ : xS} {w : Int32} (q7 : ¬ btw w 0 11) : Ct E (d + 2) yX6_count cX6_count 2 (some .int) [.ref (E.1 73), .int w] σ (some (.int (-2))) (mBad σ) := by
  refine Ct.of (by decide +kernel) (Nat.le_of_ble_eq_true rfl) ⟨_, rfl, rfl⟩ ?_
  show Ev E _ RX6 cX6_count 2 _ 0 [some (.ref (E.1 73)), some (.int w)] [] _
  refine ev_iload_1 dX6_count_0 ?_
  refine ev_i2l dX6_count_1 ?_
  refine ev_lconst_0 dX6_count_2 ?_
  refine ev_ldc2_w dX6_count_3 cn_X6_295 ?_
  refine ev_invS dX6_count_6 ml_X6_56 mt_X6_in (c_X6_in d (v := w) (lo := 0) (hi := 11) (by first | rfl | decide) (by first | rfl | decide) (by first | rfl | decide)) rfl rfl (rm_ok (by omega)) (Nat.le_of_ble_eq_true rfl) ?_
  refine Ev.pc 9 rfl ?_
  refine ev_if_eq 20 dX6_count_9 rfl (fun h9 => ?_) (fun h9 => ?_)
  · refine ev_aload_0 dX6_count_20 ?_
    refine ev_bipush (-2) dX6_count_21 rfl ?_
    refine ev_invV (ci := 6) dX6_count_23 ml_X6_71 mt_X6_bad (c_X6_bad d) (by first | assumption | decide) (by decide) rfl rfl rfl (rm_ok (by omega)) (Nat.le_of_ble_eq_true rfl) ?_
    refine Ev.pc 26 rfl ?_
    exact ev_ireturn dX6_count_26 ⟨by rfl, by rfl⟩
  · exact absurd (b2i_n0.mp h9) q7
theorem c_X6_count (d : Nat) {E : xE} {σ : xS} {P k : Nat} (hP : σ.1 74 0 = nI P) (hP7 : P ≤ 7) (hk : k < 12) : Ct E (d + 2) yX6_count cX6_count 2 (some .int) [.ref (E.1 73), .int (nI k)] σ (some (.int (cntM σ P k))) σ := by
  have e1 : btw (nI k) 0 11 := ⟨nI_pos' (by omega), show nI k ≤ nI 11 from nI_le (by omega) (by omega)⟩
  refine Ct.of (by decide +kernel) (Nat.le_of_ble_eq_true rfl) ⟨_, rfl, rfl⟩ ?_
  show Ev E _ RX6 cX6_count 2 _ 0 [some (.ref (E.1 73)), some (.int (nI k))] [] _
  refine ev_iload_1 dX6_count_0 ?_
  refine ev_i2l dX6_count_1 ?_
  refine ev_lconst_0 dX6_count_2 ?_
  refine ev_ldc2_w dX6_count_3 cn_X6_295 ?_
  refine ev_invS dX6_count_6 ml_X6_56 mt_X6_in (c_X6_in d (v := nI k) (lo := 0) (hi := 11) (by first | rfl | decide) (by first | rfl | decide) (by first | rfl | decide)) rfl rfl (rm_ok (by omega)) (Nat.le_of_ble_eq_true rfl) ?_
  refine Ev.pc 9 rfl ?_
  refine ev_if_eq 20 dX6_count_9 rfl (fun h9 => ?_) (fun h9 => ?_)
  · exact absurd e1 (b2i_0.mp h9)
  · refine ev_aload_0 dX6_count_12 ?_
    refine ev_iload_1 dX6_count_13 ?_
    refine ev_invV (ci := 6) dX6_count_14 ml_X6_297 mt_X6_counted (c_X6_counted d hP hP7 hk) (by first | assumption | decide) (by decide) rfl rfl rfl (rm_ok (by omega)) (Nat.le_of_ble_eq_true rfl) ?_
    refine Ev.pc 17 rfl ?_
    refine ev_goto 26 dX6_count_17 rfl ?_
    exact ev_ireturn dX6_count_26 ⟨by rfl, by rfl⟩
def smL (f : Nat → Int32) (s : Nat) : Nat → Int64 → Int64
  | 0, h => h
  | n + 1, h => 31 * smL f s n h + (f (s + n)).toInt64
theorem c_X6_sums (d : Nat) {E : xE} {σ : xS} {s n : Nat} {h : Int64} {i j : Int32} (hi : i = nI s) (hj : j = nI n) (hn : s + n ≤ 106) : Ct E d yX6_sums cX6_sums 8 (some .long) [.ref (E.1 73), .long h, .int i, .int j] σ (some (.long (smL (σ.1 74) s n h))) σ := by
  subst hi hj
  have loop : ∀ (m k : Nat), k + m = n → Ev E (rm (d + 0)) RX6 cX6_sums 8 (fun v t => v = some (.long (smL (σ.1 74) s n h)) ∧ t = σ) 6 [some (.ref (E.1 73)), some (.long h), none, some (.int (nI s)), some (.int (nI n)), some (.long (smL (σ.1 74) s k h)), none, some (.int (nI k))] [] σ := by
    intro m
    induction m with
    | zero =>
      intro k hk
      refine ev_iload_7 dX6_sums_6 ?_
      refine ev_iload_4 dX6_sums_8 ?_
      refine ev_icmp_ge 38 dX6_sums_10 rfl (fun h10 => ?_) (fun h10 => ?_)
      · refine ev_lload_5 dX6_sums_38 ?_
        exact ev_lreturn dX6_sums_40 ⟨by (rw [show k = n by omega]), by rfl⟩
      · exact absurd (nI_le (by omega) (by omega)) h10
    | succ m ih =>
      intro k hk
      refine ev_iload_7 dX6_sums_6 ?_
      refine ev_iload_4 dX6_sums_8 ?_
      refine ev_icmp_ge 38 dX6_sums_10 rfl (fun h10 => ?_) (fun h10 => ?_)
      · exact absurd h10 (nI_ge (by omega) (by omega))
      · refine ev_ldc2_w dX6_sums_13 cn_X6_300 ?_
        refine ev_lload_5 dX6_sums_16 ?_
        refine ev_lmul dX6_sums_18 ?_
        refine ev_aload_0 dX6_sums_19 ?_
        refine ev_get dX6_sums_20 fk_X6_7 (by first | assumption | decide) (by decide) rfl ?_
        refine Ev.pc 23 rfl ?_
        refine ev_iload_3 dX6_sums_23 ?_
        refine ev_iload_7 dX6_sums_24 ?_
        refine ev_iadd dX6_sums_26 ?_
        refine ev_aldN (k := s + k) dX6_sums_27 (by first | assumption | decide) (by first | rfl | (simp only [fa_lit, nI_add, pk_mul]; done) | (simp only [fa_lit, nI_add, pk_mul]; congr 1; omega)) (by have := xls; omega) ?_
        refine ev_i2l dX6_sums_28 ?_
        refine Ev.pc 29 rfl ?_
        refine ev_ladd dX6_sums_29 ?_
        refine ev_lstore_5 dX6_sums_30 rfl ?_
        refine ev_iinc_7 (1) dX6_sums_32 rfl rfl ?_
        refine ev_goto 6 dX6_sums_35 rfl ?_
        rw [nI_1]
        exact ih (k + 1) (by omega)
  refine Ct.of (by decide +kernel) (Nat.le_of_ble_eq_true rfl) rfl ?_
  show Ev E _ RX6 cX6_sums 8 _ 0 [some (.ref (E.1 73)), some (.long h), none, some (.int (nI s)), some (.int (nI n)), none, none, none] [] _
  refine ev_lload_1 dX6_sums_0 ?_
  refine ev_lstore_5 dX6_sums_1 rfl ?_
  refine ev_iconst_0 dX6_sums_3 ?_
  refine ev_istore_7 dX6_sums_4 rfl ?_
  exact loop n 0 (by omega)
