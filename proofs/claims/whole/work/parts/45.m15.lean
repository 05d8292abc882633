/-! the reference: digest, fraction, redeemed -/
def digM1 (σ : xS) (P : Nat) : Int64 := dgF (fun k h => dg h (cntM σ P k)) 12 1637
def digM2 (f : Nat → Int32) (P : Nat) (h : Int64) : Int64 := dgF (fun p h => dgF (fun j h => dg h (toldF f p (nI j))) 4 h) P h
def digM3 (f : Nat → Int32) (H : Nat) (h : Int64) : Int64 := dgF (fun k h => dg (dg h (f (40 + k))) (f (44 + k))) H h
def digM (σ : xS) (P H B S N M : Nat) : Int64 :=
  31 * (31 * smL (σ.1 74) 82 (4 * M) (smL (σ.1 74) 58 (4 * N) (smL (σ.1 74) 48 (2 * S) (smL (σ.1 74) 21 B (digM3 (σ.1 74) H (digM2 (σ.1 74) P (digM1 σ P)))))) + σ.2 73 4) + σ.2 73 5
theorem c_X6_digest (d : Nat) {E : xE} {σ : xS} {P H B S N M : Nat} (hP : σ.1 74 0 = nI P) (hP7 : P ≤ 7) (hH : σ.1 74 1 = nI H) (hH4 : H ≤ 4) (hB : σ.1 74 2 = nI B) (hB3 : B ≤ 3) (hS : σ.1 74 3 = nI S) (hS5 : S ≤ 5) (hN : σ.1 74 4 = nI N) (hN6 : N ≤ 6) (hM : σ.1 74 5 = nI M) (hM6 : M ≤ 6) : Ct E (d + 4) yX6_digest cX6_digest 5 (some .long) [.ref (E.1 73)] σ (some (.long (digM σ P H B S N M))) σ := by
  obtain ⟨F, hF⟩ : ∃ F : Option Value → xS → Prop, F = fun v t => v = some (.long (digM σ P H B S N M)) ∧ t = σ := ⟨_, rfl⟩
  obtain ⟨h1, hh1⟩ : ∃ x, x = digM1 σ P := ⟨_, rfl⟩
  obtain ⟨h2, hh2⟩ : ∃ x, x = digM2 (σ.1 74) P h1 := ⟨_, rfl⟩
  obtain ⟨h3, hh3⟩ : ∃ x, x = digM3 (σ.1 74) H h2 := ⟨_, rfl⟩
  have tail : ∀ z3 z4, Ev E (rm (d + 4)) RX6 cX6_digest 5 F 127 [some (.ref (E.1 73)), some (.long h3), none, z3, z4] [] σ := by
    intro z3 z4
    rw [hF, digM, ← hh1, ← hh2, ← hh3]
    refine ev_aload_0 dX6_digest_127 ?_
    refine ev_lload_1 dX6_digest_128 ?_
    refine ev_bipush (21) dX6_digest_129 rfl ?_
    refine ev_aload_0 dX6_digest_131 ?_
    refine ev_get dX6_digest_132 fk_X6_7 (by first | assumption | decide) (by decide) rfl ?_
    refine Ev.pc 135 rfl ?_
    refine ev_iconst_2 dX6_digest_135 ?_
    refine ev_aldL (n := 2) dX6_digest_136 (by first | assumption | decide) (by have := xls; omega) ?_
    refine ev_invV (ci := 6) dX6_digest_137 ml_X6_304 mt_X6_sums (c_X6_sums (d + 3) (s := 21) (n := B) rfl hB (by omega)) (by first | assumption | decide) (by decide) rfl rfl rfl (rm_ok (by omega)) (Nat.le_of_ble_eq_true rfl) ?_
    refine Ev.pc 140 rfl ?_
    refine ev_lstore_1 dX6_digest_140 rfl ?_
    refine ev_aload_0 dX6_digest_141 ?_
    refine Ev.pc 142 rfl ?_
    refine ev_lload_1 dX6_digest_142 ?_
    refine ev_bipush (48) dX6_digest_143 rfl ?_
    refine ev_iconst_2 dX6_digest_145 ?_
    refine ev_aload_0 dX6_digest_146 ?_
    refine ev_get dX6_digest_147 fk_X6_7 (by first | assumption | decide) (by decide) rfl ?_
    refine Ev.pc 150 rfl ?_
    refine ev_iconst_3 dX6_digest_150 ?_
    refine ev_aldL (n := 3) dX6_digest_151 (by first | assumption | decide) (by have := xls; omega) ?_
    refine ev_imul dX6_digest_152 ?_
    refine ev_invV (ci := 6) dX6_digest_153 ml_X6_304 mt_X6_sums (c_X6_sums (d + 3) (s := 48) (n := 2 * S) rfl (by rw [hS, show (2 : Int32) = nI 2 from rfl, pk_mul]) (by omega)) (by first | assumption | decide) (by decide) rfl rfl rfl (rm_ok (by omega)) (Nat.le_of_ble_eq_true rfl) ?_
    refine Ev.pc 156 rfl ?_
    refine ev_lstore_1 dX6_digest_156 rfl ?_
    refine Ev.pc 157 rfl ?_
    refine ev_aload_0 dX6_digest_157 ?_
    refine ev_lload_1 dX6_digest_158 ?_
    refine ev_bipush (58) dX6_digest_159 rfl ?_
    refine ev_iconst_4 dX6_digest_161 ?_
    refine ev_aload_0 dX6_digest_162 ?_
    refine Ev.pc 163 rfl ?_
    refine ev_get dX6_digest_163 fk_X6_7 (by first | assumption | decide) (by decide) rfl ?_
    refine ev_iconst_4 dX6_digest_166 ?_
    refine ev_aldL (n := 4) dX6_digest_167 (by first | assumption | decide) (by have := xls; omega) ?_
    refine ev_imul dX6_digest_168 ?_
    refine ev_invV (ci := 6) dX6_digest_169 ml_X6_304 mt_X6_sums (c_X6_sums (d + 3) (s := 58) (n := 4 * N) rfl (by rw [hN, show (4 : Int32) = nI 4 from rfl, pk_mul]) (by omega)) (by first | assumption | decide) (by decide) rfl rfl rfl (rm_ok (by omega)) (Nat.le_of_ble_eq_true rfl) ?_
    refine Ev.pc 172 rfl ?_
    refine ev_lstore_1 dX6_digest_172 rfl ?_
    refine ev_aload_0 dX6_digest_173 ?_
    refine ev_lload_1 dX6_digest_174 ?_
    refine ev_bipush (82) dX6_digest_175 rfl ?_
    refine ev_iconst_4 dX6_digest_177 ?_
    refine Ev.pc 178 rfl ?_
    refine ev_aload_0 dX6_digest_178 ?_
    refine ev_get dX6_digest_179 fk_X6_7 (by first | assumption | decide) (by decide) rfl ?_
    refine ev_iconst_5 dX6_digest_182 ?_
    refine ev_aldL (n := 5) dX6_digest_183 (by first | assumption | decide) (by have := xls; omega) ?_
    refine ev_imul dX6_digest_184 ?_
    refine Ev.pc 185 rfl ?_
    refine ev_invV (ci := 6) dX6_digest_185 ml_X6_304 mt_X6_sums (c_X6_sums (d + 3) (s := 82) (n := 4 * M) rfl (by rw [hM, show (4 : Int32) = nI 4 from rfl, pk_mul]) (by omega)) (by first | assumption | decide) (by decide) rfl rfl rfl (rm_ok (by omega)) (Nat.le_of_ble_eq_true rfl) ?_
    refine Ev.pc 188 rfl ?_
    refine ev_lstore_1 dX6_digest_188 rfl ?_
    refine ev_ldc2_w dX6_digest_189 cn_X6_300 ?_
    refine ev_ldc2_w dX6_digest_192 cn_X6_300 ?_
    refine ev_lload_1 dX6_digest_195 ?_
    refine Ev.pc 196 rfl ?_
    refine ev_lmul dX6_digest_196 ?_
    refine ev_aload_0 dX6_digest_197 ?_
    refine ev_get dX6_digest_198 fk_X6_199 (by first | assumption | decide) (by decide) rfl ?_
    refine ev_ladd dX6_digest_201 ?_
    refine ev_lmul dX6_digest_202 ?_
    refine Ev.pc 203 rfl ?_
    refine ev_aload_0 dX6_digest_203 ?_
    refine ev_get dX6_digest_204 fk_X6_23 (by first | assumption | decide) (by decide) rfl ?_
    refine ev_ladd dX6_digest_207 ?_
    exact ev_lreturn dX6_digest_208 ⟨by rfl, by rfl⟩
  have loop3 : ∀ (n k : Nat) (h : Int64) (z4 : Option Value), k + n = H → h = digM3 (σ.1 74) k h2 → Ev E (rm (d + 4)) RX6 cX6_digest 5 F 79 [some (.ref (E.1 73)), some (.long h), none, some (.int (nI k)), z4] [] σ := by
    intro n
    induction n with
    | zero =>
      intro k h z4 hk hh
      refine ev_iload_3 dX6_digest_79 ?_
      refine ev_aload_0 dX6_digest_80 ?_
      refine ev_get dX6_digest_81 fk_X6_7 (by first | assumption | decide) (by decide) rfl ?_
      refine ev_iconst_1 dX6_digest_84 ?_
      refine ev_aldL (n := 1) dX6_digest_85 (by first | assumption | decide) (by have := xls; omega) ?_
      refine Ev.pc 86 rfl ?_
      refine ev_icmp_ge 127 dX6_digest_86 rfl (fun h86 => ?_) (fun h86 => ?_)
      · rw [hh, show k = H by omega, ← hh3]
        exact tail _ _
      · exact absurd (show σ.1 74 1 ≤ nI k by rw [hH]; exact nI_le (by omega) (by omega)) h86
    | succ n ih =>
      intro k h z4 hk hh
      refine ev_iload_3 dX6_digest_79 ?_
      refine ev_aload_0 dX6_digest_80 ?_
      refine ev_get dX6_digest_81 fk_X6_7 (by first | assumption | decide) (by decide) rfl ?_
      refine ev_iconst_1 dX6_digest_84 ?_
      refine ev_aldL (n := 1) dX6_digest_85 (by first | assumption | decide) (by have := xls; omega) ?_
      refine Ev.pc 86 rfl ?_
      refine ev_icmp_ge 127 dX6_digest_86 rfl (fun h86 => ?_) (fun h86 => ?_)
      · exact absurd h86 (by rw [hH]; exact nI_ge (by omega) (by omega))
      · refine ev_ldc2_w dX6_digest_89 cn_X6_300 ?_
        refine ev_ldc2_w dX6_digest_92 cn_X6_300 ?_
        refine ev_lload_1 dX6_digest_95 ?_
        refine ev_lmul dX6_digest_96 ?_
        refine ev_aload_0 dX6_digest_97 ?_
        refine Ev.pc 98 rfl ?_
        refine ev_get dX6_digest_98 fk_X6_7 (by first | assumption | decide) (by decide) rfl ?_
        refine ev_bipush (40) dX6_digest_101 rfl ?_
        refine ev_iload_3 dX6_digest_103 ?_
        refine ev_iadd dX6_digest_104 ?_
        refine ev_aldA (n := 40) dX6_digest_105 (by first | assumption | decide) (by have := xls; omega) ?_
        refine Ev.pc 106 rfl ?_
        refine ev_i2l dX6_digest_106 ?_
        refine ev_ladd dX6_digest_107 ?_
        refine ev_lmul dX6_digest_108 ?_
        refine ev_aload_0 dX6_digest_109 ?_
        refine ev_get dX6_digest_110 fk_X6_7 (by first | assumption | decide) (by decide) rfl ?_
        refine Ev.pc 113 rfl ?_
        refine ev_bipush (44) dX6_digest_113 rfl ?_
        refine ev_iload_3 dX6_digest_115 ?_
        refine ev_iadd dX6_digest_116 ?_
        refine ev_aldA (n := 44) dX6_digest_117 (by first | assumption | decide) (by have := xls; omega) ?_
        refine ev_i2l dX6_digest_118 ?_
        refine Ev.pc 119 rfl ?_
        refine ev_ladd dX6_digest_119 ?_
        refine ev_lstore_1 dX6_digest_120 rfl ?_
        refine ev_iinc_3 (1) dX6_digest_121 rfl rfl ?_
        refine ev_goto 79 dX6_digest_124 rfl ?_
        rw [nI_1]
        exact ih (k + 1) _ _ (by omega) (by rw [hh]; rfl)
  have inner : ∀ (p : Nat) (h0 : Int64), p < 7 → (∀ z, Ev E (rm (d + 4)) RX6 cX6_digest 5 F 71 [some (.ref (E.1 73)), some (.long (dgF (fun j h => dg h (toldF (σ.1 74) p (nI j))) 4 h0)), none, some (.int (nI p)), z] [] σ) →
      ∀ (n j : Nat), j + n = 4 → Ev E (rm (d + 4)) RX6 cX6_digest 5 F 44 [some (.ref (E.1 73)), some (.long (dgF (fun j h => dg h (toldF (σ.1 74) p (nI j))) j h0)), none, some (.int (nI p)), some (.int (nI j))] [] σ := by
    intro p h0 hp K n
    induction n with
    | zero =>
      intro j hj
      refine ev_iload_4 dX6_digest_44 ?_
      refine ev_iconst_4 dX6_digest_46 ?_
      refine ev_icmp_ge 71 dX6_digest_47 rfl (fun h47 => ?_) (fun h47 => ?_)
      · rw [show j = 4 by omega]
        exact K _
      · exact absurd (show nI 4 ≤ nI j from nI_le (by omega) (by omega)) h47
    | succ n ih =>
      intro j hj
      refine ev_iload_4 dX6_digest_44 ?_
      refine ev_iconst_4 dX6_digest_46 ?_
      refine ev_icmp_ge 71 dX6_digest_47 rfl (fun h47 => ?_) (fun h47 => ?_)
      · exact absurd h47 (show ¬ nI 4 ≤ nI j from nI_ge (by omega) (by omega))
      · refine ev_ldc2_w dX6_digest_50 cn_X6_300 ?_
        refine ev_lload_1 dX6_digest_53 ?_
        refine ev_lmul dX6_digest_54 ?_
        refine ev_aload_0 dX6_digest_55 ?_
        refine ev_iload_3 dX6_digest_56 ?_
        refine Ev.pc 57 rfl ?_
        refine ev_iload_4 dX6_digest_57 ?_
        refine ev_invV (ci := 6) dX6_digest_59 ml_X6_143 mt_X6_toldOf (c_X6_toldOf d (by omega)) (by first | assumption | decide) (by decide) rfl rfl rfl (rm_ok (by omega)) (Nat.le_of_ble_eq_true rfl) ?_
        refine Ev.pc 62 rfl ?_
        refine ev_i2l dX6_digest_62 ?_
        refine ev_ladd dX6_digest_63 ?_
        refine ev_lstore_1 dX6_digest_64 rfl ?_
        refine Ev.pc 65 rfl ?_
        refine ev_iinc_4 (1) dX6_digest_65 rfl rfl ?_
        refine ev_goto 44 dX6_digest_68 rfl ?_
        rw [nI_1]
        exact ih (j + 1) (by omega)
  have loop2 : ∀ (n p : Nat) (h : Int64) (z4 : Option Value), p + n = P → h = digM2 (σ.1 74) p h1 → Ev E (rm (d + 4)) RX6 cX6_digest 5 F 33 [some (.ref (E.1 73)), some (.long h), none, some (.int (nI p)), z4] [] σ := by
    intro n
    induction n with
    | zero =>
      intro k h z4 hk hh
      refine ev_iload_3 dX6_digest_33 ?_
      refine ev_aload_0 dX6_digest_34 ?_
      refine ev_invV (ci := 6) dX6_digest_35 ml_X6_52 mt_X6_many (c_X6_many d) (by first | assumption | decide) (by decide) rfl rfl rfl (rm_ok (by omega)) (Nat.le_of_ble_eq_true rfl) ?_
      refine Ev.pc 38 rfl ?_
      refine ev_icmp_ge 77 dX6_digest_38 rfl (fun h38 => ?_) (fun h38 => ?_)
      · refine ev_iconst_0 dX6_digest_77 ?_
        refine ev_istore_3 dX6_digest_78 rfl ?_
        exact loop3 H 0 _ _ (by omega) (by rw [hh, show k = P by omega, ← hh2]; rfl)
      · exact absurd (show σ.1 74 0 ≤ nI k by rw [hP]; exact nI_le (by omega) (by omega)) h38
    | succ n ih =>
      intro k h z4 hk hh
      refine ev_iload_3 dX6_digest_33 ?_
      refine ev_aload_0 dX6_digest_34 ?_
      refine ev_invV (ci := 6) dX6_digest_35 ml_X6_52 mt_X6_many (c_X6_many d) (by first | assumption | decide) (by decide) rfl rfl rfl (rm_ok (by omega)) (Nat.le_of_ble_eq_true rfl) ?_
      refine Ev.pc 38 rfl ?_
      refine ev_icmp_ge 77 dX6_digest_38 rfl (fun h38 => ?_) (fun h38 => ?_)
      · exact absurd h38 (by rw [hP]; exact nI_ge (by omega) (by omega))
      · refine ev_iconst_0 dX6_digest_41 ?_
        refine ev_istore_4 dX6_digest_42 rfl ?_
        refine inner k h (by omega) (fun z => ?_) 4 0 (by omega)
        refine ev_iinc_3 (1) dX6_digest_71 rfl rfl ?_
        refine ev_goto 33 dX6_digest_74 rfl ?_
        rw [nI_1]
        exact ih (k + 1) _ _ (by omega) (by rw [hh]; rfl)
  have loop1 : ∀ (n k : Nat) (h : Int64) (z4 : Option Value), k + n = 12 → h = dgF (fun k h => dg h (cntM σ P k)) k 1637 → Ev E (rm (d + 4)) RX6 cX6_digest 5 F 6 [some (.ref (E.1 73)), some (.long h), none, some (.int (nI k)), z4] [] σ := by
    intro n
    induction n with
    | zero =>
      intro k h z4 hk hh
      refine ev_iload_3 dX6_digest_6 ?_
      refine ev_bipush (12) dX6_digest_7 rfl ?_
      refine ev_icmp_ge 31 dX6_digest_9 rfl (fun h9 => ?_) (fun h9 => ?_)
      · refine ev_iconst_0 dX6_digest_31 ?_
        refine ev_istore_3 dX6_digest_32 rfl ?_
        exact loop2 P 0 _ _ (by omega) (by rw [hh, show k = 12 by omega, ← digM1, ← hh1]; rfl)
      · exact absurd (show nI 12 ≤ nI k from nI_le (by omega) (by omega)) h9
    | succ n ih =>
      intro k h z4 hk hh
      refine ev_iload_3 dX6_digest_6 ?_
      refine ev_bipush (12) dX6_digest_7 rfl ?_
      refine ev_icmp_ge 31 dX6_digest_9 rfl (fun h9 => ?_) (fun h9 => ?_)
      · exact absurd h9 (show ¬ nI 12 ≤ nI k from nI_ge (by omega) (by omega))
      · refine ev_ldc2_w dX6_digest_12 cn_X6_300 ?_
        refine ev_lload_1 dX6_digest_15 ?_
        refine ev_lmul dX6_digest_16 ?_
        refine ev_aload_0 dX6_digest_17 ?_
        refine ev_iload_3 dX6_digest_18 ?_
        refine Ev.pc 19 rfl ?_
        refine ev_invV (ci := 6) dX6_digest_19 ml_X6_297 mt_X6_counted (c_X6_counted d hP hP7 (by omega)) (by first | assumption | decide) (by decide) rfl rfl rfl (rm_ok (by omega)) (Nat.le_of_ble_eq_true rfl) ?_
        refine Ev.pc 22 rfl ?_
        refine ev_i2l dX6_digest_22 ?_
        refine ev_ladd dX6_digest_23 ?_
        refine ev_lstore_1 dX6_digest_24 rfl ?_
        refine ev_iinc_3 (1) dX6_digest_25 rfl rfl ?_
        refine Ev.pc 28 rfl ?_
        refine ev_goto 6 dX6_digest_28 rfl ?_
        rw [nI_1]
        exact ih (k + 1) _ _ (by omega) (by rw [hh]; rfl)
  rw [hF] at loop1
  refine Ct.of (by decide +kernel) (Nat.le_of_ble_eq_true rfl) rfl ?_
  show Ev E _ RX6 cX6_digest 5 _ 0 [some (.ref (E.1 73)), none, none, none, none] [] _
  refine ev_ldc2_w dX6_digest_0 cn_X6_302 ?_
  refine ev_lstore_1 dX6_digest_3 rfl ?_
  refine ev_iconst_0 dX6_digest_4 ?_
  refine ev_istore_3 dX6_digest_5 rfl ?_
  exact loop1 12 0 1637 _ (by omega) rfl
def gcdB : Nat → Int64 → Int64 → Prop
  | 0, _, b => b = 0
  | n + 1, a, b => b = 0 ∨ gcdB n b (a - a / b * b)
def frM (σ : xS) (a b : Int64) (n : Nat) : xS := xul (xul σ 73 4 (a / gcdN n a b)) 73 5 (b / gcdN n a b)
theorem c_X6_fraction (d : Nat) {E : xE} {σ : xS} {a b : Int64} {n : Nat} (hg : gcdB n a b) (h0 : ¬ gcdN (n + 1) a b = 0) : Ct E d yX6_fraction cX6_fraction 11 none [.ref (E.1 73), .long a, .long b] σ none (frM σ a b (n + 1)) := by
  obtain ⟨G, hG⟩ : ∃ x, x = gcdN (n + 1) a b := ⟨_, rfl⟩
  rw [frM, ← hG]
  rw [← hG] at h0
  have loop : ∀ (m : Nat) (x y : Int64) (z9 z10 : Option Value), gcdB m x y → gcdN (m + 1) x y = G → Ev E (rm (d + 0)) RX6 cX6_fraction 11 (fun v t => v = none ∧ t = xul (xul σ 73 4 (a / G)) 73 5 (b / G)) 6 [some (.ref (E.1 73)), some (.long a), none, some (.long b), none, some (.long x), none, some (.long y), none, z9, z10] [] σ := by
    intro m
    induction m with
    | zero =>
      intro x y z9 z10 hb hx
      rw [gcdN, if_pos (show y = 0 from hb)] at hx
      subst hx
      refine ev_lload_7 dX6_fraction_6 ?_
      refine ev_lconst_0 dX6_fraction_8 ?_
      refine ev_lcmp dX6_fraction_9 ?_
      refine ev_if_eq 31 dX6_fraction_10 rfl (fun h10 => ?_) (fun h10 => ?_)
      · refine ev_aload_0 dX6_fraction_31 ?_
        refine ev_lload_1 dX6_fraction_32 ?_
        refine ev_lload_5 dX6_fraction_33 ?_
        refine ev_ldiv dX6_fraction_35 h0 ?_
        refine ev_putl dX6_fraction_36 fk_X6_199 (by first | assumption | decide) (by decide) rfl ?_
        refine Ev.pc 39 rfl ?_
        refine ev_aload_0 dX6_fraction_39 ?_
        refine ev_lload_3 dX6_fraction_40 ?_
        refine ev_lload_5 dX6_fraction_41 ?_
        refine ev_ldiv dX6_fraction_43 h0 ?_
        refine ev_putl dX6_fraction_44 fk_X6_23 (by first | assumption | decide) (by decide) rfl ?_
        refine Ev.pc 47 rfl ?_
        exact ev_return dX6_fraction_47 ⟨by rfl, by rfl⟩
      · exact absurd ((lg_cmp_eq _ _).mpr hb) h10
    | succ m ih =>
      intro x y z9 z10 hb hx
      by_cases q7 : y = 0
      ·
        rw [gcdN, if_pos q7] at hx
        subst hx
        refine ev_lload_7 dX6_fraction_6 ?_
        refine ev_lconst_0 dX6_fraction_8 ?_
        refine ev_lcmp dX6_fraction_9 ?_
        refine ev_if_eq 31 dX6_fraction_10 rfl (fun h10 => ?_) (fun h10 => ?_)
        · refine ev_aload_0 dX6_fraction_31 ?_
          refine ev_lload_1 dX6_fraction_32 ?_
          refine ev_lload_5 dX6_fraction_33 ?_
          refine ev_ldiv dX6_fraction_35 h0 ?_
          refine ev_putl dX6_fraction_36 fk_X6_199 (by first | assumption | decide) (by decide) rfl ?_
          refine Ev.pc 39 rfl ?_
          refine ev_aload_0 dX6_fraction_39 ?_
          refine ev_lload_3 dX6_fraction_40 ?_
          refine ev_lload_5 dX6_fraction_41 ?_
          refine ev_ldiv dX6_fraction_43 h0 ?_
          refine ev_putl dX6_fraction_44 fk_X6_23 (by first | assumption | decide) (by decide) rfl ?_
          refine Ev.pc 47 rfl ?_
          exact ev_return dX6_fraction_47 ⟨by rfl, by rfl⟩
        · exact absurd ((lg_cmp_eq _ _).mpr q7) h10
      ·
        rw [gcdN, if_neg q7] at hx
        have hb2 := hb.resolve_left q7
        refine ev_lload_7 dX6_fraction_6 ?_
        refine ev_lconst_0 dX6_fraction_8 ?_
        refine ev_lcmp dX6_fraction_9 ?_
        refine ev_if_eq 31 dX6_fraction_10 rfl (fun h10 => ?_) (fun h10 => ?_)
        · exact absurd ((lg_cmp_eq _ _).mp h10) q7
        · refine ev_lload_5 dX6_fraction_13 ?_
          refine ev_lload_7 dX6_fraction_15 ?_
          refine ev_lrem dX6_fraction_17 q7 ?_
          refine ev_lstore_9 dX6_fraction_18 rfl ?_
          refine ev_lload_7 dX6_fraction_20 ?_
          refine Ev.pc 22 rfl ?_
          refine ev_lstore_5 dX6_fraction_22 rfl ?_
          refine ev_lload_9 dX6_fraction_24 ?_
          refine ev_lstore_7 dX6_fraction_26 rfl ?_
          refine ev_goto 6 dX6_fraction_28 rfl ?_
          exact ih _ _ _ _ hb2 hx
  refine Ct.of (by decide +kernel) (Nat.le_of_ble_eq_true rfl) rfl ?_
  show Ev E _ RX6 cX6_fraction 11 _ 0 [some (.ref (E.1 73)), some (.long a), none, some (.long b), none, none, none, none, none, none, none] [] _
  refine ev_lload_1 dX6_fraction_0 ?_
  refine ev_lstore_5 dX6_fraction_1 rfl ?_
  refine ev_lload_3 dX6_fraction_3 ?_
  refine ev_lstore_7 dX6_fraction_4 rfl ?_
  exact loop n a b _ _ hg hG.symm
def rdS (f : Nat → Int32) (c : Int32) : Nat → Int64
  | 0 => 0
  | p + 1 => rdS f c p + (if f (7 + p) = 0 then ((10 - c) * priceF f p).toInt64 else 0)
theorem c_X6_redeemed_bad (d : Nat) {E : xE} {σ : xS} {w : Int32} (q7 : ¬ btw w 0 10) : Ct E (d + 3) yX6_redeemed cX6_redeemed 5 (some .int) [.ref (E.1 73), .int w] σ (some (.int (-2))) (mBad σ) := by
  refine Ct.of (by decide +kernel) (Nat.le_of_ble_eq_true rfl) ⟨_, rfl, rfl⟩ ?_
  show Ev E _ RX6 cX6_redeemed 5 _ 0 [some (.ref (E.1 73)), some (.int w), none, none, none] [] _
  refine ev_iload_1 dX6_redeemed_0 ?_
  refine ev_i2l dX6_redeemed_1 ?_
  refine ev_lconst_0 dX6_redeemed_2 ?_
  refine ev_ldc2_w dX6_redeemed_3 cn_X6_202 ?_
  refine ev_invS dX6_redeemed_6 ml_X6_56 mt_X6_in (c_X6_in d (v := w) (lo := 0) (hi := 10) (by first | rfl | decide) (by first | rfl | decide) (by first | rfl | decide)) rfl rfl (rm_ok (by omega)) (Nat.le_of_ble_eq_true rfl) ?_
  refine Ev.pc 9 rfl ?_
  refine ev_if_ne 19 dX6_redeemed_9 rfl (fun h9 => ?_) (fun h9 => ?_)
  · exact absurd (b2i_n0.mp h9) q7
  · refine ev_aload_0 dX6_redeemed_12 ?_
    refine ev_bipush (-2) dX6_redeemed_13 rfl ?_
    refine ev_invV (ci := 6) dX6_redeemed_15 ml_X6_71 mt_X6_bad (c_X6_bad d) (by first | assumption | decide) (by decide) rfl rfl rfl (rm_ok (by omega)) (Nat.le_of_ble_eq_true rfl) ?_
    refine Ev.pc 18 rfl ?_
    exact ev_ireturn dX6_redeemed_18 ⟨by rfl, by rfl⟩
theorem c_X6_redeemed (d : Nat) {E : xE} {σ : xS} {P n : Nat} {c : Int32} (hP : σ.1 74 0 = nI P) (hP7 : P ≤ 7) (hc : btw c 0 10) (hg : gcdB n (rdS (σ.1 74) c P) 10) (h0 : ¬ gcdN (n + 1) (rdS (σ.1 74) c P) 10 = 0) : Ct E (d + 3) yX6_redeemed cX6_redeemed 5 (some .int) [.ref (E.1 73), .int c] σ (some (.int 1)) (frM σ (rdS (σ.1 74) c P) 10 (n + 1)) := by
  have loop : ∀ (m p : Nat), p + m = P → Ev E (rm (d + 3)) RX6 cX6_redeemed 5 (fun v t => v = some (.int 1) ∧ t = frM σ (rdS (σ.1 74) c P) 10 (n + 1)) 24 [some (.ref (E.1 73)), some (.int c), some (.long (rdS (σ.1 74) c p)), none, some (.int (nI p))] [] σ := by
    intro m
    induction m with
    | zero =>
      intro p hp
      obtain rfl : p = P := by omega
      refine ev_iload_4 dX6_redeemed_24 ?_
      refine ev_aload_0 dX6_redeemed_26 ?_
      refine ev_invV (ci := 6) dX6_redeemed_27 ml_X6_52 mt_X6_many (c_X6_many d) (by first | assumption | decide) (by decide) rfl rfl rfl (rm_ok (by omega)) (Nat.le_of_ble_eq_true rfl) ?_
      refine Ev.pc 30 rfl ?_
      refine ev_icmp_ge 73 dX6_redeemed_30 rfl (fun h30 => ?_) (fun h30 => ?_)
      · refine ev_aload_0 dX6_redeemed_73 ?_
        refine ev_lload_2 dX6_redeemed_74 ?_
        refine ev_ldc2_w dX6_redeemed_75 cn_X6_202 ?_
        refine ev_invV (ci := 6) dX6_redeemed_78 ml_X6_204 mt_X6_fraction (c_X6_fraction (d + 2) hg h0) (by first | assumption | decide) (by decide) rfl rfl rfl (rm_ok (by omega)) (Nat.le_of_ble_eq_true rfl) ?_
        refine Ev.pc 81 rfl ?_
        refine ev_iconst_1 dX6_redeemed_81 ?_
        refine Ev.pc 82 rfl ?_
        exact ev_ireturn dX6_redeemed_82 ⟨by rfl, by rfl⟩
      · exact absurd (show σ.1 74 0 ≤ nI p by rw [hP]; exact nI_le (by omega) (by omega)) h30
    | succ m ih =>
      intro p hp
      have hi := ih (p + 1) (by omega)
      rw [rdS] at hi
      refine ev_iload_4 dX6_redeemed_24 ?_
      refine ev_aload_0 dX6_redeemed_26 ?_
      refine ev_invV (ci := 6) dX6_redeemed_27 ml_X6_52 mt_X6_many (c_X6_many d) (by first | assumption | decide) (by decide) rfl rfl rfl (rm_ok (by omega)) (Nat.le_of_ble_eq_true rfl) ?_
      refine Ev.pc 30 rfl ?_
      refine ev_icmp_ge 73 dX6_redeemed_30 rfl (fun h30 => ?_) (fun h30 => ?_)
      · exact absurd h30 (by rw [hP]; exact nI_ge (by omega) (by omega))
      · refine ev_lload_2 dX6_redeemed_33 ?_
        refine ev_aload_0 dX6_redeemed_34 ?_
        refine ev_get dX6_redeemed_35 fk_X6_7 (by first | assumption | decide) (by decide) rfl ?_
        refine ev_iload_4 dX6_redeemed_38 ?_
        refine ev_invS dX6_redeemed_40 ml_X6_95 mt_X6_isShown (c_X6_isShown d (by first | assumption | decide) (by have := xls; omega) (by omega)) rfl rfl (rm_ok (by omega)) (Nat.le_of_ble_eq_true rfl) ?_
        refine Ev.pc 43 rfl ?_
        refine ev_if_eq 64 dX6_redeemed_43 rfl (fun h43 => ?_) (fun h43 => ?_)
        · refine ev_lconst_0 dX6_redeemed_64 ?_
          refine ev_ladd dX6_redeemed_65 ?_
          refine ev_lstore_2 dX6_redeemed_66 rfl ?_
          refine ev_iinc_4 (1) dX6_redeemed_67 rfl rfl ?_
          refine ev_goto 24 dX6_redeemed_70 rfl ?_
          rw [nI_1]
          first | (rw [if_pos (b2i_n0.mp h43)] at hi; exact hi) | (rw [if_neg (b2i_0.mp h43)] at hi; exact hi)
        · refine ev_bipush (10) dX6_redeemed_46 rfl ?_
          refine ev_iload_1 dX6_redeemed_48 ?_
          refine ev_isub dX6_redeemed_49 ?_
          refine ev_aload_0 dX6_redeemed_50 ?_
          refine ev_get dX6_redeemed_51 fk_X6_7 (by first | assumption | decide) (by decide) rfl ?_
          refine Ev.pc 54 rfl ?_
          refine ev_iload_4 dX6_redeemed_54 ?_
          refine ev_invS dX6_redeemed_56 ml_X6_111 mt_X6_priceOf (c_X6_priceOf d (by first | assumption | decide) (by have := xls; omega) (by omega)) rfl rfl (rm_ok (by omega)) (Nat.le_of_ble_eq_true rfl) ?_
          refine Ev.pc 59 rfl ?_
          refine ev_imul dX6_redeemed_59 ?_
          refine ev_i2l dX6_redeemed_60 ?_
          refine ev_goto 65 dX6_redeemed_61 rfl ?_
          refine ev_ladd dX6_redeemed_65 ?_
          refine Ev.pc 66 rfl ?_
          refine ev_lstore_2 dX6_redeemed_66 rfl ?_
          refine ev_iinc_4 (1) dX6_redeemed_67 rfl rfl ?_
          refine ev_goto 24 dX6_redeemed_70 rfl ?_
          rw [nI_1]
          first | (rw [if_pos (b2i_n0.mp h43)] at hi; exact hi) | (rw [if_neg (b2i_0.mp h43)] at hi; exact hi)
  refine Ct.of (by decide +kernel) (Nat.le_of_ble_eq_true rfl) ⟨_, rfl, rfl⟩ ?_
  show Ev E _ RX6 cX6_redeemed 5 _ 0 [some (.ref (E.1 73)), some (.int c), none, none, none] [] _
  refine ev_iload_1 dX6_redeemed_0 ?_
  refine ev_i2l dX6_redeemed_1 ?_
  refine ev_lconst_0 dX6_redeemed_2 ?_
  refine ev_ldc2_w dX6_redeemed_3 cn_X6_202 ?_
  refine ev_invS dX6_redeemed_6 ml_X6_56 mt_X6_in (c_X6_in d (v := c) (lo := 0) (hi := 10) (by first | rfl | decide) (by first | rfl | decide) (by first | rfl | decide)) rfl rfl (rm_ok (by omega)) (Nat.le_of_ble_eq_true rfl) ?_
  refine Ev.pc 9 rfl ?_
  refine ev_if_ne 19 dX6_redeemed_9 rfl (fun h9 => ?_) (fun h9 => ?_)
  · refine ev_lconst_0 dX6_redeemed_19 ?_
    refine ev_lstore_2 dX6_redeemed_20 rfl ?_
    refine ev_iconst_0 dX6_redeemed_21 ?_
    refine ev_istore_4 dX6_redeemed_22 rfl ?_
    exact loop P 0 (by omega)
  · exact absurd hc (b2i_0.mp h9)
