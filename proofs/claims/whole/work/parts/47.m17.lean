/-! the reference: its reader -/
theorem c_X6_isSmall (d : Nat) {E : xE} {σ : xS} {c : Int32} : Ct E (d + 1) yX6_isSmall cX6_isSmall 1 (some .boolean) [.int c] σ (some (.int (b2i (btw c 97 122)))) σ := by
  refine Ct.of (by decide +kernel) (Nat.le_of_ble_eq_true rfl) ⟨_, rfl, nb_b2i _⟩ ?_
  show Ev E _ RX6 cX6_isSmall 1 _ 0 [some (.int c)] [] _
  refine ev_iload_0 dX6_isSmall_0 ?_
  refine ev_i2l dX6_isSmall_1 ?_
  refine ev_ldc2_w dX6_isSmall_2 cn_X6_230 ?_
  refine ev_ldc2_w dX6_isSmall_5 cn_X6_232 ?_
  refine ev_invS dX6_isSmall_8 ml_X6_56 mt_X6_in (c_X6_in d (v := c) (lo := 97) (hi := 122) (by first | rfl | decide) (by first | rfl | decide) (by first | rfl | decide)) rfl rfl (rm_ok (by omega)) (Nat.le_of_ble_eq_true rfl) ?_
  refine Ev.pc 11 rfl ?_
  exact ev_ireturn dX6_isSmall_11 ⟨by rfl, by rfl⟩
theorem c_X6_isFigure (d : Nat) {E : xE} {σ : xS} {c : Int32} : Ct E (d + 1) yX6_isFigure cX6_isFigure 1 (some .boolean) [.int c] σ (some (.int (b2i (btw c 48 57)))) σ := by
  refine Ct.of (by decide +kernel) (Nat.le_of_ble_eq_true rfl) ⟨_, rfl, nb_b2i _⟩ ?_
  show Ev E _ RX6 cX6_isFigure 1 _ 0 [some (.int c)] [] _
  refine ev_iload_0 dX6_isFigure_0 ?_
  refine ev_i2l dX6_isFigure_1 ?_
  refine ev_ldc2_w dX6_isFigure_2 cn_X6_234 ?_
  refine ev_ldc2_w dX6_isFigure_5 cn_X6_236 ?_
  refine ev_invS dX6_isFigure_8 ml_X6_56 mt_X6_in (c_X6_in d (v := c) (lo := 48) (hi := 57) (by first | rfl | decide) (by first | rfl | decide) (by first | rfl | decide)) rfl rfl (rm_ok (by omega)) (Nat.le_of_ble_eq_true rfl) ?_
  refine Ev.pc 11 rfl ?_
  exact ev_ireturn dX6_isFigure_11 ⟨by rfl, by rfl⟩
def setM (σ : xS) (at' lg tk vl : Int32) : xS := (fun a b => if a = 73 then (if b = 12 then at' else if b = 13 then lg else if b = 14 then tk else if b = 15 then vl else σ.1 a b) else σ.1 a b, σ.2)
theorem setM_id (σ : xS) : setM σ (σ.1 73 12) (σ.1 73 13) (σ.1 73 14) (σ.1 73 15) = σ := by
  refine xS_ext (fun a b => ?_) rfl
  by_cases ha : a = 73
  · subst ha
    by_cases q5 : b = 12
    · subst q5; simp [setM]
    · by_cases q6 : b = 13
      · subst q6; simp [setM]
      · by_cases q7 : b = 14
        · subst q7; simp [setM]
        · by_cases q8 : b = 15
          · subst q8; simp [setM]
          · simp [setM, q5, q6, q7, q8]
  · simp [setM, ha]
theorem setM_g12 (σ : xS) (a b c e : Int32) : (setM σ a b c e).1 73 12 = a := by simp [setM]
theorem setM_g13 (σ : xS) (a b c e : Int32) : (setM σ a b c e).1 73 13 = b := by simp [setM]
theorem setM_g14 (σ : xS) (a b c e : Int32) : (setM σ a b c e).1 73 14 = c := by simp [setM]
theorem setM_g15 (σ : xS) (a b c e : Int32) : (setM σ a b c e).1 73 15 = e := by simp [setM]
theorem setM_11 (σ : xS) (a b c e : Int32) : (setM σ a b c e).1 73 11 = σ.1 73 11 := by simp [setM]
theorem setM_o (σ : xS) (a b c e : Int32) {i : Nat} (h : i ≠ 73) : (setM σ a b c e).1 i = σ.1 i := by funext j; simp [setM, h]
theorem setM_82 (σ : xS) (a b c e : Int32) : (setM σ a b c e).1 82 = σ.1 82 := setM_o _ _ _ _ _ (by decide)
theorem setM_p12 (σ : xS) (a b c e x : Int32) : xu (setM σ a b c e) 73 12 x = setM σ x b c e := by
  refine xS_ext (fun i j => ?_) rfl
  by_cases hi : i = 73
  · subst hi
    by_cases hj : j = 12
    · subst hj; simp [xu, setM]
    · simp [xu, setM, hj]
  · simp [xu, setM, hi]
theorem setM_p13 (σ : xS) (a b c e x : Int32) : xu (setM σ a b c e) 73 13 x = setM σ a x c e := by
  refine xS_ext (fun i j => ?_) rfl
  by_cases hi : i = 73
  · subst hi
    by_cases hj : j = 13
    · subst hj; simp [xu, setM]
    · simp [xu, setM, hj]
  · simp [xu, setM, hi]
theorem setM_p14 (σ : xS) (a b c e x : Int32) : xu (setM σ a b c e) 73 14 x = setM σ a b x e := by
  refine xS_ext (fun i j => ?_) rfl
  by_cases hi : i = 73
  · subst hi
    by_cases hj : j = 14
    · subst hj; simp [xu, setM]
    · simp [xu, setM, hj]
  · simp [xu, setM, hi]
theorem setM_p15 (σ : xS) (a b c e x : Int32) : xu (setM σ a b c e) 73 15 x = setM σ a b c x := by
  refine xS_ext (fun i j => ?_) rfl
  by_cases hi : i = 73
  · subst hi
    by_cases hj : j = 15
    · subst hj; simp [xu, setM]
    · simp [xu, setM, hj]
  · simp [xu, setM, hi]
theorem inR_32 {T : Nat → Int32} {k : Nat} : inR T 32 32 k = true ↔ T k = 32 := by
  simp only [inR, decide_eq_true_eq]
  exact ⟨fun h => Int32.le_antisymm h.2 h.1, fun h => by rw [h]; exact ⟨Int32.le_refl _, Int32.le_refl _⟩⟩
def lookM (σ : xS) (L a : Nat) : xS := setM σ (nI (tS (σ.1 82) L a)) (nI (tN (σ.1 82) L a - tS (σ.1 82) L a)) (tK (σ.1 82) L a) (tV (σ.1 82) L a)
theorem c_X6_lookAt (d : Nat) {E : xE} {σ : xS} {L a : Nat} (hL : σ.1 73 11 = nI L) (hL5 : L ≤ 150) (ha : a ≤ L) : Ct E (d + 2) yX6_lookAt cX6_lookAt 5 none [.ref (E.1 73), .int (nI a)] σ none (lookM σ L a) := by
  have x82 : xlen 82 = 150 := by decide
  obtain ⟨T, hT⟩ : ∃ x, x = σ.1 82 := ⟨_, rfl⟩
  obtain ⟨l0, hl0⟩ : ∃ x, x = σ.1 73 13 := ⟨_, rfl⟩
  obtain ⟨t0, ht0⟩ : ∃ x, x = σ.1 73 14 := ⟨_, rfl⟩
  obtain ⟨v0, hv0⟩ : ∃ x, x = σ.1 73 15 := ⟨_, rfl⟩
  obtain ⟨s, hs⟩ : ∃ x, x = tS T L a := ⟨_, rfl⟩
  have hs1 : a ≤ s := by rw [hs]; exact tS_ge _ _ _
  have hs2 : s ≤ L := by rw [hs]; exact tS_le _ ha
  obtain ⟨R, hR⟩ : ∃ x, x = lookM σ L a := ⟨_, rfl⟩
  have hR2 : R = setM σ (nI s) (nI (tN T L a - s)) (tK T L a) (tV T L a) := by rw [hR, lookM, ← hT, ← hs]
  rw [← hR]
  have w215 : ∀ (g : Nat) (tk : Int32) (z4 : Option Value) (z2 z3 : Int32), ¬ tk = 2 → g ≤ 150 → R = setM σ (nI s) (nI g) tk 0 → Ev E (rm (d + 2)) RX6 cX6_lookAt 5 (fun v t => v = none ∧ t = R) 215 [some (.ref (E.1 73)), some (.int (nI a)), some (.int z2), some (.int z3), z4] [] (setM σ (nI s) (nI g) tk 0) := by
    intro g tk z4 z2 z3 h2 hg hr
    refine ev_iconst_0 dX6_lookAt_215 ?_
    refine ev_istore_4 dX6_lookAt_216 rfl ?_
    refine ev_iload_4 dX6_lookAt_218 ?_
    refine ev_aload_0 dX6_lookAt_220 ?_
    refine ev_get dX6_lookAt_221 fk_X6_241 (by first | assumption | decide) (by decide) rfl ?_
    refine Ev.pc 224 rfl ?_
    (try simp only [setM_p12, setM_p13, setM_p14, setM_p15, setM_g12, setM_g13, setM_g14, setM_g15, setM_11, setM_82])
    refine ev_icmp_ge 274 dX6_lookAt_224 rfl (fun h224 => ?_) (fun h224 => ?_)
    · refine ev_aload_0 dX6_lookAt_274 ?_
      refine ev_aload_0 dX6_lookAt_275 ?_
      refine ev_get dX6_lookAt_276 fk_X6_244 (by first | assumption | decide) (by decide) rfl ?_
      refine ev_iconst_2 dX6_lookAt_279 ?_
      (try simp only [setM_p12, setM_p13, setM_p14, setM_p15, setM_g12, setM_g13, setM_g14, setM_g15, setM_11, setM_82])
      refine ev_icmp_ne 295 dX6_lookAt_280 rfl (fun h280 => ?_) (fun h280 => ?_)
      · refine ev_aload_0 dX6_lookAt_295 ?_
        refine ev_get dX6_lookAt_296 fk_X6_244 (by first | assumption | decide) (by decide) rfl ?_
        (try simp only [setM_p12, setM_p13, setM_p14, setM_p15, setM_g12, setM_g13, setM_g14, setM_g15, setM_11, setM_82])
        refine ev_put dX6_lookAt_299 fk_X6_244 (by first | assumption | decide) (by decide) rfl ?_
        exact ev_return dX6_lookAt_302 ⟨by rfl, by ((try simp only [setM_p12, setM_p13, setM_p14, setM_p15, setM_g12, setM_g13, setM_g14, setM_g15, setM_11, setM_82]); exact hr.symm)⟩
      · exact absurd h280 h2
    · refine ev_iload_4 dX6_lookAt_227 ?_
      refine ev_iconst_2 dX6_lookAt_229 ?_
      refine ev_icmp_ge 274 dX6_lookAt_230 rfl (fun h230 => ?_) (fun h230 => ?_)
      · exact absurd h230 (by decide)
      · refine ev_aload_0 dX6_lookAt_233 ?_
        refine ev_get dX6_lookAt_234 fk_X6_244 (by first | assumption | decide) (by decide) rfl ?_
        refine ev_iconst_2 dX6_lookAt_237 ?_
        (try simp only [setM_p12, setM_p13, setM_p14, setM_p15, setM_g12, setM_g13, setM_g14, setM_g15, setM_11, setM_82])
        refine ev_icmp_ne 274 dX6_lookAt_238 rfl (fun h238 => ?_) (fun h238 => ?_)
        · refine ev_aload_0 dX6_lookAt_274 ?_
          refine ev_aload_0 dX6_lookAt_275 ?_
          refine ev_get dX6_lookAt_276 fk_X6_244 (by first | assumption | decide) (by decide) rfl ?_
          refine ev_iconst_2 dX6_lookAt_279 ?_
          (try simp only [setM_p12, setM_p13, setM_p14, setM_p15, setM_g12, setM_g13, setM_g14, setM_g15, setM_11, setM_82])
          refine ev_icmp_ne 295 dX6_lookAt_280 rfl (fun h280 => ?_) (fun h280 => ?_)
          · refine ev_aload_0 dX6_lookAt_295 ?_
            refine ev_get dX6_lookAt_296 fk_X6_244 (by first | assumption | decide) (by decide) rfl ?_
            (try simp only [setM_p12, setM_p13, setM_p14, setM_p15, setM_g12, setM_g13, setM_g14, setM_g15, setM_11, setM_82])
            refine ev_put dX6_lookAt_299 fk_X6_244 (by first | assumption | decide) (by decide) rfl ?_
            exact ev_return dX6_lookAt_302 ⟨by rfl, by ((try simp only [setM_p12, setM_p13, setM_p14, setM_p15, setM_g12, setM_g13, setM_g14, setM_g15, setM_11, setM_82]); exact hr.symm)⟩
          · exact absurd h280 h2
        · exact absurd h238 h2
  have num : ∀ (g : Nat) (z2 z3 : Int32), g ≤ 150 → R = setM σ (nI s) (nI g) (if g ≤ 2 then 2 else 4) (numF T s (min g 2)) → s + g ≤ 150 →
      ∀ (n k : Nat), k + n = min g 2 → Ev E (rm (d + 2)) RX6 cX6_lookAt 5 (fun v t => v = none ∧ t = R) 218 [some (.ref (E.1 73)), some (.int (nI a)), some (.int z2), some (.int z3), some (.int (nI k))] [] (setM σ (nI s) (nI g) 2 (numF T s k)) := by
    intro g z2 z3 hg hr hsg n
    have fin : ∀ (k : Nat) (z4 : Option Value), k = min g 2 → Ev E (rm (d + 2)) RX6 cX6_lookAt 5 (fun v t => v = none ∧ t = R) 274 [some (.ref (E.1 73)), some (.int (nI a)), some (.int z2), some (.int z3), z4] [] (setM σ (nI s) (nI g) 2 (numF T s k)) := by
      intro k z4 hk
      by_cases q7 : g ≤ 2
      ·
        rw [if_pos q7, ← hk] at hr
        refine ev_aload_0 dX6_lookAt_274 ?_
        refine ev_aload_0 dX6_lookAt_275 ?_
        refine ev_get dX6_lookAt_276 fk_X6_244 (by first | assumption | decide) (by decide) rfl ?_
        refine ev_iconst_2 dX6_lookAt_279 ?_
        (try simp only [setM_p12, setM_p13, setM_p14, setM_p15, setM_g12, setM_g13, setM_g14, setM_g15, setM_11, setM_82])
        refine ev_icmp_ne 295 dX6_lookAt_280 rfl (fun h280 => ?_) (fun h280 => ?_)
        · exact absurd rfl h280
        · refine ev_aload_0 dX6_lookAt_283 ?_
          refine ev_get dX6_lookAt_284 fk_X6_241 (by first | assumption | decide) (by decide) rfl ?_
          refine ev_iconst_2 dX6_lookAt_287 ?_
          (try simp only [setM_p12, setM_p13, setM_p14, setM_p15, setM_g12, setM_g13, setM_g14, setM_g15, setM_11, setM_82])
          refine ev_icmp_le 295 dX6_lookAt_288 rfl (fun h288 => ?_) (fun h288 => ?_)
          · refine ev_aload_0 dX6_lookAt_295 ?_
            refine ev_get dX6_lookAt_296 fk_X6_244 (by first | assumption | decide) (by decide) rfl ?_
            (try simp only [setM_p12, setM_p13, setM_p14, setM_p15, setM_g12, setM_g13, setM_g14, setM_g15, setM_11, setM_82])
            refine ev_put dX6_lookAt_299 fk_X6_244 (by first | assumption | decide) (by decide) rfl ?_
            exact ev_return dX6_lookAt_302 ⟨by rfl, by ((try simp only [setM_p12, setM_p13, setM_p14, setM_p15, setM_g12, setM_g13, setM_g14, setM_g15, setM_11, setM_82]); exact hr.symm)⟩
          · exact absurd (show nI g ≤ nI 2 from nI_le (by omega) (by omega)) h288
      ·
        rw [if_neg q7, ← hk] at hr
        refine ev_aload_0 dX6_lookAt_274 ?_
        refine ev_aload_0 dX6_lookAt_275 ?_
        refine ev_get dX6_lookAt_276 fk_X6_244 (by first | assumption | decide) (by decide) rfl ?_
        refine ev_iconst_2 dX6_lookAt_279 ?_
        (try simp only [setM_p12, setM_p13, setM_p14, setM_p15, setM_g12, setM_g13, setM_g14, setM_g15, setM_11, setM_82])
        refine ev_icmp_ne 295 dX6_lookAt_280 rfl (fun h280 => ?_) (fun h280 => ?_)
        · exact absurd rfl h280
        · refine ev_aload_0 dX6_lookAt_283 ?_
          refine ev_get dX6_lookAt_284 fk_X6_241 (by first | assumption | decide) (by decide) rfl ?_
          refine ev_iconst_2 dX6_lookAt_287 ?_
          (try simp only [setM_p12, setM_p13, setM_p14, setM_p15, setM_g12, setM_g13, setM_g14, setM_g15, setM_11, setM_82])
          refine ev_icmp_le 295 dX6_lookAt_288 rfl (fun h288 => ?_) (fun h288 => ?_)
          · exact absurd h288 (show ¬ nI g ≤ nI 2 from nI_ge (by omega) (by omega))
          · refine ev_iconst_4 dX6_lookAt_291 ?_
            refine ev_goto 299 dX6_lookAt_292 rfl ?_
            (try simp only [setM_p12, setM_p13, setM_p14, setM_p15, setM_g12, setM_g13, setM_g14, setM_g15, setM_11, setM_82])
            refine ev_put dX6_lookAt_299 fk_X6_244 (by first | assumption | decide) (by decide) rfl ?_
            exact ev_return dX6_lookAt_302 ⟨by rfl, by ((try simp only [setM_p12, setM_p13, setM_p14, setM_p15, setM_g12, setM_g13, setM_g14, setM_g15, setM_11, setM_82]); exact hr.symm)⟩
    induction n with
    | zero =>
      intro k hk
      by_cases q8 : g ≤ k
      ·
        refine ev_iload_4 dX6_lookAt_218 ?_
        refine ev_aload_0 dX6_lookAt_220 ?_
        refine ev_get dX6_lookAt_221 fk_X6_241 (by first | assumption | decide) (by decide) rfl ?_
        (try simp only [setM_p12, setM_p13, setM_p14, setM_p15, setM_g12, setM_g13, setM_g14, setM_g15, setM_11, setM_82])
        refine ev_icmp_ge 274 dX6_lookAt_224 rfl (fun h224 => ?_) (fun h224 => ?_)
        · exact fin k _ (by omega)
        · exact absurd (nI_le q8 (by omega)) h224
      ·
        refine ev_iload_4 dX6_lookAt_218 ?_
        refine ev_aload_0 dX6_lookAt_220 ?_
        refine ev_get dX6_lookAt_221 fk_X6_241 (by first | assumption | decide) (by decide) rfl ?_
        (try simp only [setM_p12, setM_p13, setM_p14, setM_p15, setM_g12, setM_g13, setM_g14, setM_g15, setM_11, setM_82])
        refine ev_icmp_ge 274 dX6_lookAt_224 rfl (fun h224 => ?_) (fun h224 => ?_)
        · exact absurd h224 (nI_ge (by omega) (by omega))
        · refine ev_iload_4 dX6_lookAt_227 ?_
          refine ev_iconst_2 dX6_lookAt_229 ?_
          refine ev_icmp_ge 274 dX6_lookAt_230 rfl (fun h230 => ?_) (fun h230 => ?_)
          · exact fin k _ (by omega)
          · exact absurd (show nI 2 ≤ nI k from nI_le (by omega) (by omega)) h230
    | succ n ih =>
      intro k hk
      refine ev_iload_4 dX6_lookAt_218 ?_
      refine ev_aload_0 dX6_lookAt_220 ?_
      refine ev_get dX6_lookAt_221 fk_X6_241 (by first | assumption | decide) (by decide) rfl ?_
      (try simp only [setM_p12, setM_p13, setM_p14, setM_p15, setM_g12, setM_g13, setM_g14, setM_g15, setM_11, setM_82])
      refine ev_icmp_ge 274 dX6_lookAt_224 rfl (fun h224 => ?_) (fun h224 => ?_)
      · exact absurd h224 (nI_ge (by omega) (by omega))
      · refine ev_iload_4 dX6_lookAt_227 ?_
        refine ev_iconst_2 dX6_lookAt_229 ?_
        refine ev_icmp_ge 274 dX6_lookAt_230 rfl (fun h230 => ?_) (fun h230 => ?_)
        · exact absurd h230 (show ¬ nI 2 ≤ nI k from nI_ge (by omega) (by omega))
        · refine ev_aload_0 dX6_lookAt_233 ?_
          refine ev_get dX6_lookAt_234 fk_X6_244 (by first | assumption | decide) (by decide) rfl ?_
          refine ev_iconst_2 dX6_lookAt_237 ?_
          (try simp only [setM_p12, setM_p13, setM_p14, setM_p15, setM_g12, setM_g13, setM_g14, setM_g15, setM_11, setM_82])
          refine ev_icmp_ne 274 dX6_lookAt_238 rfl (fun h238 => ?_) (fun h238 => ?_)
          · exact absurd rfl h238
          · refine ev_aload_0 dX6_lookAt_241 ?_
            refine ev_bipush (10) dX6_lookAt_242 rfl ?_
            refine ev_aload_0 dX6_lookAt_244 ?_
            refine ev_get dX6_lookAt_245 fk_X6_247 (by first | assumption | decide) (by decide) rfl ?_
            refine ev_imul dX6_lookAt_248 ?_
            refine Ev.pc 249 rfl ?_
            refine ev_aload_0 dX6_lookAt_249 ?_
            refine ev_get dX6_lookAt_250 fk_X6_39 (by first | assumption | decide) (by decide) rfl ?_
            refine ev_aload_0 dX6_lookAt_253 ?_
            refine ev_get dX6_lookAt_254 fk_X6_238 (by first | assumption | decide) (by decide) rfl ?_
            refine ev_iload_4 dX6_lookAt_257 ?_
            refine Ev.pc 259 rfl ?_
            refine ev_iadd dX6_lookAt_259 ?_
            (try simp only [setM_p12, setM_p13, setM_p14, setM_p15, setM_g12, setM_g13, setM_g14, setM_g15, setM_11, setM_82])
            refine ev_aldN (k := s + k) dX6_lookAt_260 (by first | assumption | decide) (by first | rfl | (simp only [fa_lit, nI_add, pk_mul]; done) | (simp only [fa_lit, nI_add, pk_mul]; congr 1; omega)) (by have := xls; omega) ?_
            refine ev_iadd dX6_lookAt_261 ?_
            refine ev_bipush (48) dX6_lookAt_262 rfl ?_
            refine ev_isub dX6_lookAt_264 ?_
            refine Ev.pc 265 rfl ?_
            simp only [setM_82]
            rw [← hT]
            refine ev_put dX6_lookAt_265 fk_X6_247 (by first | assumption | decide) (by decide) rfl ?_
            refine ev_iinc_4 (1) dX6_lookAt_268 rfl rfl ?_
            refine ev_goto 218 dX6_lookAt_271 rfl ?_
            (try simp only [setM_p12, setM_p13, setM_p14, setM_p15, setM_g12, setM_g13, setM_g14, setM_g15, setM_11, setM_82])
            rw [nI_1]
            exact ih (k + 1) (by omega)
  have wd : ∀ (g' : Nat), s + g' = eorF (inR T 97 122) L s → (∀ (z4 : Option Value) (z2 z3 : Int32), Ev E (rm (d + 2)) RX6 cX6_lookAt 5 (fun v t => v = none ∧ t = R) 215 [some (.ref (E.1 73)), some (.int (nI a)), some (.int z2), some (.int z3), z4] [] (setM σ (nI s) (nI g') 1 0)) →
      ∀ (n g : Nat) (z4 : Option Value) (z2 : Int32), s + g + n = L → eor (inR T 97 122) n (s + g) = s + g' → Ev E (rm (d + 2)) RX6 cX6_lookAt 5 (fun v t => v = none ∧ t = R) 136 [some (.ref (E.1 73)), some (.int (nI a)), some (.int z2), some (.int 1), z4] [] (setM σ (nI s) (nI g) 1 0) := by
    intro g' hg' K n
    induction n with
    | zero =>
      intro g z4 z2 hn he
      obtain rfl : g = g' := by rw [eor] at he; omega
      refine ev_iload_3 dX6_lookAt_136 ?_
      refine ev_if_eq 215 dX6_lookAt_137 rfl (fun h137 => ?_) (fun h137 => ?_)
      · exact absurd h137 (by decide)
      · refine ev_aload_0 dX6_lookAt_140 ?_
        refine ev_get dX6_lookAt_141 fk_X6_238 (by first | assumption | decide) (by decide) rfl ?_
        refine ev_aload_0 dX6_lookAt_144 ?_
        refine ev_get dX6_lookAt_145 fk_X6_241 (by first | assumption | decide) (by decide) rfl ?_
        refine ev_iadd dX6_lookAt_148 ?_
        refine Ev.pc 149 rfl ?_
        refine ev_aload_0 dX6_lookAt_149 ?_
        refine ev_get dX6_lookAt_150 fk_X6_226 (by first | assumption | decide) (by decide) rfl ?_
        (try simp only [setM_p12, setM_p13, setM_p14, setM_p15, setM_g12, setM_g13, setM_g14, setM_g15, setM_11, setM_82])
        rw [hL, nI_add]
        refine ev_icmp_ge 215 dX6_lookAt_153 rfl (fun h153 => ?_) (fun h153 => ?_)
        · exact K _ _ _
        · exact absurd (nI_le (by omega) (by omega)) h153
    | succ n ih =>
      intro g z4 z2 hn he
      rw [eor] at he
      by_cases q7 : inR T 97 122 (s + g) = true
      ·
        rw [if_pos q7] at he
        have hb : btw (T (s + g)) 97 122 := by simpa [inR] using q7
        refine ev_iload_3 dX6_lookAt_136 ?_
        refine ev_if_eq 215 dX6_lookAt_137 rfl (fun h137 => ?_) (fun h137 => ?_)
        · exact absurd h137 (by decide)
        · refine ev_aload_0 dX6_lookAt_140 ?_
          refine ev_get dX6_lookAt_141 fk_X6_238 (by first | assumption | decide) (by decide) rfl ?_
          refine ev_aload_0 dX6_lookAt_144 ?_
          refine ev_get dX6_lookAt_145 fk_X6_241 (by first | assumption | decide) (by decide) rfl ?_
          refine ev_iadd dX6_lookAt_148 ?_
          refine Ev.pc 149 rfl ?_
          refine ev_aload_0 dX6_lookAt_149 ?_
          refine ev_get dX6_lookAt_150 fk_X6_226 (by first | assumption | decide) (by decide) rfl ?_
          (try simp only [setM_p12, setM_p13, setM_p14, setM_p15, setM_g12, setM_g13, setM_g14, setM_g15, setM_11, setM_82])
          rw [hL, nI_add]
          refine ev_icmp_ge 215 dX6_lookAt_153 rfl (fun h153 => ?_) (fun h153 => ?_)
          · exact absurd h153 (nI_ge (by omega) (by omega))
          · refine ev_aload_0 dX6_lookAt_156 ?_
            refine ev_get dX6_lookAt_157 fk_X6_39 (by first | assumption | decide) (by decide) rfl ?_
            refine ev_aload_0 dX6_lookAt_160 ?_
            refine ev_get dX6_lookAt_161 fk_X6_238 (by first | assumption | decide) (by decide) rfl ?_
            refine ev_aload_0 dX6_lookAt_164 ?_
            refine Ev.pc 165 rfl ?_
            refine ev_get dX6_lookAt_165 fk_X6_241 (by first | assumption | decide) (by decide) rfl ?_
            refine ev_iadd dX6_lookAt_168 ?_
            (try simp only [setM_p12, setM_p13, setM_p14, setM_p15, setM_g12, setM_g13, setM_g14, setM_g15, setM_11, setM_82])
            refine ev_aldN (k := s + g) dX6_lookAt_169 (by first | assumption | decide) (by first | rfl | (simp only [fa_lit, nI_add, pk_mul]; done) | (simp only [fa_lit, nI_add, pk_mul]; congr 1; omega)) (by have := xls; omega) ?_
            (try simp only [setM_p12, setM_p13, setM_p14, setM_p15, setM_g12, setM_g13, setM_g14, setM_g15, setM_11, setM_82])
            rw [← hT]
            refine ev_istore_4 dX6_lookAt_170 rfl ?_
            refine ev_aload_0 dX6_lookAt_172 ?_
            refine Ev.pc 173 rfl ?_
            refine ev_get dX6_lookAt_173 fk_X6_244 (by first | assumption | decide) (by decide) rfl ?_
            refine ev_iconst_1 dX6_lookAt_176 ?_
            (try simp only [setM_p12, setM_p13, setM_p14, setM_p15, setM_g12, setM_g13, setM_g14, setM_g15, setM_11, setM_82])
            refine ev_icmp_ne 188 dX6_lookAt_177 rfl (fun h177 => ?_) (fun h177 => ?_)
            · exact absurd rfl h177
            · refine ev_iload_4 dX6_lookAt_180 ?_
              refine ev_invS dX6_lookAt_182 ml_X6_250 mt_X6_isSmall (c_X6_isSmall d) rfl rfl (rm_ok (by omega)) (Nat.le_of_ble_eq_true rfl) ?_
              refine Ev.pc 185 rfl ?_
              refine ev_goto 193 dX6_lookAt_185 rfl ?_
              rw [← b2i_t hb]
              refine ev_istore_3 dX6_lookAt_193 rfl ?_
              refine ev_aload_0 dX6_lookAt_194 ?_
              refine ev_dup dX6_lookAt_195 rfl ?_
              refine ev_get dX6_lookAt_196 fk_X6_241 (by first | assumption | decide) (by decide) rfl ?_
              refine ev_iload_3 dX6_lookAt_199 ?_
              refine Ev.pc 200 rfl ?_
              refine ev_if_eq 207 dX6_lookAt_200 rfl (fun h200 => ?_) (fun h200 => ?_)
              · exact absurd h200 (by decide)
              · refine ev_iconst_1 dX6_lookAt_203 ?_
                refine ev_goto 208 dX6_lookAt_204 rfl ?_
                refine ev_iadd dX6_lookAt_208 ?_
                refine ev_put dX6_lookAt_209 fk_X6_241 (by first | assumption | decide) (by decide) rfl ?_
                refine ev_goto 136 dX6_lookAt_212 rfl ?_
                (try simp only [setM_p12, setM_p13, setM_p14, setM_p15, setM_g12, setM_g13, setM_g14, setM_g15, setM_11, setM_82])
                rw [nI_1]
                exact ih (g + 1) _ _ (by omega) he
      ·
        rw [if_neg q7] at he
        obtain rfl : g = g' := by omega
        have hb : ¬ btw (T (s + g)) 97 122 := fun h => q7 (by simpa [inR] using h)
        refine ev_iload_3 dX6_lookAt_136 ?_
        refine ev_if_eq 215 dX6_lookAt_137 rfl (fun h137 => ?_) (fun h137 => ?_)
        · exact absurd h137 (by decide)
        · refine ev_aload_0 dX6_lookAt_140 ?_
          refine ev_get dX6_lookAt_141 fk_X6_238 (by first | assumption | decide) (by decide) rfl ?_
          refine ev_aload_0 dX6_lookAt_144 ?_
          refine ev_get dX6_lookAt_145 fk_X6_241 (by first | assumption | decide) (by decide) rfl ?_
          refine ev_iadd dX6_lookAt_148 ?_
          refine Ev.pc 149 rfl ?_
          refine ev_aload_0 dX6_lookAt_149 ?_
          refine ev_get dX6_lookAt_150 fk_X6_226 (by first | assumption | decide) (by decide) rfl ?_
          (try simp only [setM_p12, setM_p13, setM_p14, setM_p15, setM_g12, setM_g13, setM_g14, setM_g15, setM_11, setM_82])
          rw [hL, nI_add]
          refine ev_icmp_ge 215 dX6_lookAt_153 rfl (fun h153 => ?_) (fun h153 => ?_)
          · exact absurd h153 (nI_ge (by omega) (by omega))
          · refine ev_aload_0 dX6_lookAt_156 ?_
            refine ev_get dX6_lookAt_157 fk_X6_39 (by first | assumption | decide) (by decide) rfl ?_
            refine ev_aload_0 dX6_lookAt_160 ?_
            refine ev_get dX6_lookAt_161 fk_X6_238 (by first | assumption | decide) (by decide) rfl ?_
            refine ev_aload_0 dX6_lookAt_164 ?_
            refine Ev.pc 165 rfl ?_
            refine ev_get dX6_lookAt_165 fk_X6_241 (by first | assumption | decide) (by decide) rfl ?_
            refine ev_iadd dX6_lookAt_168 ?_
            (try simp only [setM_p12, setM_p13, setM_p14, setM_p15, setM_g12, setM_g13, setM_g14, setM_g15, setM_11, setM_82])
            refine ev_aldN (k := s + g) dX6_lookAt_169 (by first | assumption | decide) (by first | rfl | (simp only [fa_lit, nI_add, pk_mul]; done) | (simp only [fa_lit, nI_add, pk_mul]; congr 1; omega)) (by have := xls; omega) ?_
            (try simp only [setM_p12, setM_p13, setM_p14, setM_p15, setM_g12, setM_g13, setM_g14, setM_g15, setM_11, setM_82])
            rw [← hT]
            refine ev_istore_4 dX6_lookAt_170 rfl ?_
            refine ev_aload_0 dX6_lookAt_172 ?_
            refine Ev.pc 173 rfl ?_
            refine ev_get dX6_lookAt_173 fk_X6_244 (by first | assumption | decide) (by decide) rfl ?_
            refine ev_iconst_1 dX6_lookAt_176 ?_
            (try simp only [setM_p12, setM_p13, setM_p14, setM_p15, setM_g12, setM_g13, setM_g14, setM_g15, setM_11, setM_82])
            refine ev_icmp_ne 188 dX6_lookAt_177 rfl (fun h177 => ?_) (fun h177 => ?_)
            · exact absurd rfl h177
            · refine ev_iload_4 dX6_lookAt_180 ?_
              refine ev_invS dX6_lookAt_182 ml_X6_250 mt_X6_isSmall (c_X6_isSmall d) rfl rfl (rm_ok (by omega)) (Nat.le_of_ble_eq_true rfl) ?_
              refine Ev.pc 185 rfl ?_
              refine ev_goto 193 dX6_lookAt_185 rfl ?_
              rw [← b2i_f hb]
              refine ev_istore_3 dX6_lookAt_193 rfl ?_
              refine ev_aload_0 dX6_lookAt_194 ?_
              refine ev_dup dX6_lookAt_195 rfl ?_
              refine ev_get dX6_lookAt_196 fk_X6_241 (by first | assumption | decide) (by decide) rfl ?_
              refine ev_iload_3 dX6_lookAt_199 ?_
              refine Ev.pc 200 rfl ?_
              refine ev_if_eq 207 dX6_lookAt_200 rfl (fun h200 => ?_) (fun h200 => ?_)
              · refine ev_iconst_0 dX6_lookAt_207 ?_
                refine ev_iadd dX6_lookAt_208 ?_
                refine ev_put dX6_lookAt_209 fk_X6_241 (by first | assumption | decide) (by decide) rfl ?_
                refine ev_goto 136 dX6_lookAt_212 rfl ?_
                (try simp only [setM_p12, setM_p13, setM_p14, setM_p15, setM_g12, setM_g13, setM_g14, setM_g15, setM_11, setM_82])
                rw [Int32.add_zero]
                refine ev_iload_3 dX6_lookAt_136 ?_
                refine ev_if_eq 215 dX6_lookAt_137 rfl (fun h => ?_) (fun h => absurd rfl h)
                exact K _ _ _
              · exact absurd rfl h200
  have nb : ∀ (g' : Nat), s + g' = eorF (inR T 48 57) L s → (∀ (z4 : Option Value) (z2 z3 : Int32), Ev E (rm (d + 2)) RX6 cX6_lookAt 5 (fun v t => v = none ∧ t = R) 215 [some (.ref (E.1 73)), some (.int (nI a)), some (.int z2), some (.int z3), z4] [] (setM σ (nI s) (nI g') 2 0)) →
      ∀ (n g : Nat) (z4 : Option Value) (z2 : Int32), s + g + n = L → eor (inR T 48 57) n (s + g) = s + g' → Ev E (rm (d + 2)) RX6 cX6_lookAt 5 (fun v t => v = none ∧ t = R) 136 [some (.ref (E.1 73)), some (.int (nI a)), some (.int z2), some (.int 1), z4] [] (setM σ (nI s) (nI g) 2 0) := by
    intro g' hg' K n
    induction n with
    | zero =>
      intro g z4 z2 hn he
      obtain rfl : g = g' := by rw [eor] at he; omega
      refine ev_iload_3 dX6_lookAt_136 ?_
      refine ev_if_eq 215 dX6_lookAt_137 rfl (fun h137 => ?_) (fun h137 => ?_)
      · exact absurd h137 (by decide)
      · refine ev_aload_0 dX6_lookAt_140 ?_
        refine ev_get dX6_lookAt_141 fk_X6_238 (by first | assumption | decide) (by decide) rfl ?_
        refine ev_aload_0 dX6_lookAt_144 ?_
        refine ev_get dX6_lookAt_145 fk_X6_241 (by first | assumption | decide) (by decide) rfl ?_
        refine ev_iadd dX6_lookAt_148 ?_
        refine Ev.pc 149 rfl ?_
        refine ev_aload_0 dX6_lookAt_149 ?_
        refine ev_get dX6_lookAt_150 fk_X6_226 (by first | assumption | decide) (by decide) rfl ?_
        (try simp only [setM_p12, setM_p13, setM_p14, setM_p15, setM_g12, setM_g13, setM_g14, setM_g15, setM_11, setM_82])
        rw [hL, nI_add]
        refine ev_icmp_ge 215 dX6_lookAt_153 rfl (fun h153 => ?_) (fun h153 => ?_)
        · exact K _ _ _
        · exact absurd (nI_le (by omega) (by omega)) h153
    | succ n ih =>
      intro g z4 z2 hn he
      rw [eor] at he
      by_cases q7 : inR T 48 57 (s + g) = true
      ·
        rw [if_pos q7] at he
        have hb : btw (T (s + g)) 48 57 := by simpa [inR] using q7
        refine ev_iload_3 dX6_lookAt_136 ?_
        refine ev_if_eq 215 dX6_lookAt_137 rfl (fun h137 => ?_) (fun h137 => ?_)
        · exact absurd h137 (by decide)
        · refine ev_aload_0 dX6_lookAt_140 ?_
          refine ev_get dX6_lookAt_141 fk_X6_238 (by first | assumption | decide) (by decide) rfl ?_
          refine ev_aload_0 dX6_lookAt_144 ?_
          refine ev_get dX6_lookAt_145 fk_X6_241 (by first | assumption | decide) (by decide) rfl ?_
          refine ev_iadd dX6_lookAt_148 ?_
          refine Ev.pc 149 rfl ?_
          refine ev_aload_0 dX6_lookAt_149 ?_
          refine ev_get dX6_lookAt_150 fk_X6_226 (by first | assumption | decide) (by decide) rfl ?_
          (try simp only [setM_p12, setM_p13, setM_p14, setM_p15, setM_g12, setM_g13, setM_g14, setM_g15, setM_11, setM_82])
          rw [hL, nI_add]
          refine ev_icmp_ge 215 dX6_lookAt_153 rfl (fun h153 => ?_) (fun h153 => ?_)
          · exact absurd h153 (nI_ge (by omega) (by omega))
          · refine ev_aload_0 dX6_lookAt_156 ?_
            refine ev_get dX6_lookAt_157 fk_X6_39 (by first | assumption | decide) (by decide) rfl ?_
            refine ev_aload_0 dX6_lookAt_160 ?_
            refine ev_get dX6_lookAt_161 fk_X6_238 (by first | assumption | decide) (by decide) rfl ?_
            refine ev_aload_0 dX6_lookAt_164 ?_
            refine Ev.pc 165 rfl ?_
            refine ev_get dX6_lookAt_165 fk_X6_241 (by first | assumption | decide) (by decide) rfl ?_
            refine ev_iadd dX6_lookAt_168 ?_
            (try simp only [setM_p12, setM_p13, setM_p14, setM_p15, setM_g12, setM_g13, setM_g14, setM_g15, setM_11, setM_82])
            refine ev_aldN (k := s + g) dX6_lookAt_169 (by first | assumption | decide) (by first | rfl | (simp only [fa_lit, nI_add, pk_mul]; done) | (simp only [fa_lit, nI_add, pk_mul]; congr 1; omega)) (by have := xls; omega) ?_
            (try simp only [setM_p12, setM_p13, setM_p14, setM_p15, setM_g12, setM_g13, setM_g14, setM_g15, setM_11, setM_82])
            rw [← hT]
            refine ev_istore_4 dX6_lookAt_170 rfl ?_
            refine ev_aload_0 dX6_lookAt_172 ?_
            refine Ev.pc 173 rfl ?_
            refine ev_get dX6_lookAt_173 fk_X6_244 (by first | assumption | decide) (by decide) rfl ?_
            refine ev_iconst_1 dX6_lookAt_176 ?_
            (try simp only [setM_p12, setM_p13, setM_p14, setM_p15, setM_g12, setM_g13, setM_g14, setM_g15, setM_11, setM_82])
            refine ev_icmp_ne 188 dX6_lookAt_177 rfl (fun h177 => ?_) (fun h177 => ?_)
            · refine ev_iload_4 dX6_lookAt_188 ?_
              refine ev_invS dX6_lookAt_190 ml_X6_253 mt_X6_isFigure (c_X6_isFigure d) rfl rfl (rm_ok (by omega)) (Nat.le_of_ble_eq_true rfl) ?_
              refine Ev.pc 193 rfl ?_
              rw [← b2i_t hb]
              refine ev_istore_3 dX6_lookAt_193 rfl ?_
              refine ev_aload_0 dX6_lookAt_194 ?_
              refine ev_dup dX6_lookAt_195 rfl ?_
              refine ev_get dX6_lookAt_196 fk_X6_241 (by first | assumption | decide) (by decide) rfl ?_
              refine ev_iload_3 dX6_lookAt_199 ?_
              refine Ev.pc 200 rfl ?_
              refine ev_if_eq 207 dX6_lookAt_200 rfl (fun h200 => ?_) (fun h200 => ?_)
              · exact absurd h200 (by decide)
              · refine ev_iconst_1 dX6_lookAt_203 ?_
                refine ev_goto 208 dX6_lookAt_204 rfl ?_
                refine ev_iadd dX6_lookAt_208 ?_
                refine ev_put dX6_lookAt_209 fk_X6_241 (by first | assumption | decide) (by decide) rfl ?_
                refine ev_goto 136 dX6_lookAt_212 rfl ?_
                (try simp only [setM_p12, setM_p13, setM_p14, setM_p15, setM_g12, setM_g13, setM_g14, setM_g15, setM_11, setM_82])
                rw [nI_1]
                exact ih (g + 1) _ _ (by omega) he
            · exact absurd h177 (by decide)
      ·
        rw [if_neg q7] at he
        obtain rfl : g = g' := by omega
        have hb : ¬ btw (T (s + g)) 48 57 := fun h => q7 (by simpa [inR] using h)
        refine ev_iload_3 dX6_lookAt_136 ?_
        refine ev_if_eq 215 dX6_lookAt_137 rfl (fun h137 => ?_) (fun h137 => ?_)
        · exact absurd h137 (by decide)
        · refine ev_aload_0 dX6_lookAt_140 ?_
          refine ev_get dX6_lookAt_141 fk_X6_238 (by first | assumption | decide) (by decide) rfl ?_
          refine ev_aload_0 dX6_lookAt_144 ?_
          refine ev_get dX6_lookAt_145 fk_X6_241 (by first | assumption | decide) (by decide) rfl ?_
          refine ev_iadd dX6_lookAt_148 ?_
          refine Ev.pc 149 rfl ?_
          refine ev_aload_0 dX6_lookAt_149 ?_
          refine ev_get dX6_lookAt_150 fk_X6_226 (by first | assumption | decide) (by decide) rfl ?_
          (try simp only [setM_p12, setM_p13, setM_p14, setM_p15, setM_g12, setM_g13, setM_g14, setM_g15, setM_11, setM_82])
          rw [hL, nI_add]
          refine ev_icmp_ge 215 dX6_lookAt_153 rfl (fun h153 => ?_) (fun h153 => ?_)
          · exact absurd h153 (nI_ge (by omega) (by omega))
          · refine ev_aload_0 dX6_lookAt_156 ?_
            refine ev_get dX6_lookAt_157 fk_X6_39 (by first | assumption | decide) (by decide) rfl ?_
            refine ev_aload_0 dX6_lookAt_160 ?_
            refine ev_get dX6_lookAt_161 fk_X6_238 (by first | assumption | decide) (by decide) rfl ?_
            refine ev_aload_0 dX6_lookAt_164 ?_
            refine Ev.pc 165 rfl ?_
            refine ev_get dX6_lookAt_165 fk_X6_241 (by first | assumption | decide) (by decide) rfl ?_
            refine ev_iadd dX6_lookAt_168 ?_
            (try simp only [setM_p12, setM_p13, setM_p14, setM_p15, setM_g12, setM_g13, setM_g14, setM_g15, setM_11, setM_82])
            refine ev_aldN (k := s + g) dX6_lookAt_169 (by first | assumption | decide) (by first | rfl | (simp only [fa_lit, nI_add, pk_mul]; done) | (simp only [fa_lit, nI_add, pk_mul]; congr 1; omega)) (by have := xls; omega) ?_
            (try simp only [setM_p12, setM_p13, setM_p14, setM_p15, setM_g12, setM_g13, setM_g14, setM_g15, setM_11, setM_82])
            rw [← hT]
            refine ev_istore_4 dX6_lookAt_170 rfl ?_
            refine ev_aload_0 dX6_lookAt_172 ?_
            refine Ev.pc 173 rfl ?_
            refine ev_get dX6_lookAt_173 fk_X6_244 (by first | assumption | decide) (by decide) rfl ?_
            refine ev_iconst_1 dX6_lookAt_176 ?_
            (try simp only [setM_p12, setM_p13, setM_p14, setM_p15, setM_g12, setM_g13, setM_g14, setM_g15, setM_11, setM_82])
            refine ev_icmp_ne 188 dX6_lookAt_177 rfl (fun h177 => ?_) (fun h177 => ?_)
            · refine ev_iload_4 dX6_lookAt_188 ?_
              refine ev_invS dX6_lookAt_190 ml_X6_253 mt_X6_isFigure (c_X6_isFigure d) rfl rfl (rm_ok (by omega)) (Nat.le_of_ble_eq_true rfl) ?_
              refine Ev.pc 193 rfl ?_
              rw [← b2i_f hb]
              refine ev_istore_3 dX6_lookAt_193 rfl ?_
              refine ev_aload_0 dX6_lookAt_194 ?_
              refine ev_dup dX6_lookAt_195 rfl ?_
              refine ev_get dX6_lookAt_196 fk_X6_241 (by first | assumption | decide) (by decide) rfl ?_
              refine ev_iload_3 dX6_lookAt_199 ?_
              refine Ev.pc 200 rfl ?_
              refine ev_if_eq 207 dX6_lookAt_200 rfl (fun h200 => ?_) (fun h200 => ?_)
              · refine ev_iconst_0 dX6_lookAt_207 ?_
                refine ev_iadd dX6_lookAt_208 ?_
                refine ev_put dX6_lookAt_209 fk_X6_241 (by first | assumption | decide) (by decide) rfl ?_
                refine ev_goto 136 dX6_lookAt_212 rfl ?_
                (try simp only [setM_p12, setM_p13, setM_p14, setM_p15, setM_g12, setM_g13, setM_g14, setM_g15, setM_11, setM_82])
                rw [Int32.add_zero]
                refine ev_iload_3 dX6_lookAt_136 ?_
                refine ev_if_eq 215 dX6_lookAt_137 rfl (fun h => ?_) (fun h => absurd rfl h)
                exact K _ _ _
              · exact absurd rfl h200
            · exact absurd h177 (by decide)
  have k43 : Ev E (rm (d + 2)) RX6 cX6_lookAt 5 (fun v t => v = none ∧ t = R) 43 [some (.ref (E.1 73)), some (.int (nI a)), none, none, none] [] (setM σ (nI s) l0 t0 v0) := by
    by_cases e : L ≤ s
    ·
      have hr : R = setM σ (nI s) 0 0 0 := by rw [hR2, tN, tK, tV, ← hs, if_pos e, if_pos e, if_pos e, Nat.sub_self]; rfl
      refine ev_aload_0 dX6_lookAt_43 ?_
      refine ev_iconst_0 dX6_lookAt_44 ?_
      refine ev_put dX6_lookAt_45 fk_X6_241 (by first | assumption | decide) (by decide) rfl ?_
      refine ev_aload_0 dX6_lookAt_48 ?_
      refine ev_iconst_0 dX6_lookAt_49 ?_
      refine Ev.pc 50 rfl ?_
      refine ev_put dX6_lookAt_50 fk_X6_244 (by first | assumption | decide) (by decide) rfl ?_
      refine ev_aload_0 dX6_lookAt_53 ?_
      refine ev_iconst_0 dX6_lookAt_54 ?_
      refine ev_put dX6_lookAt_55 fk_X6_247 (by first | assumption | decide) (by decide) rfl ?_
      refine ev_aload_0 dX6_lookAt_58 ?_
      refine Ev.pc 59 rfl ?_
      refine ev_get dX6_lookAt_59 fk_X6_238 (by first | assumption | decide) (by decide) rfl ?_
      refine ev_aload_0 dX6_lookAt_62 ?_
      refine ev_get dX6_lookAt_63 fk_X6_226 (by first | assumption | decide) (by decide) rfl ?_
      (try simp only [setM_p12, setM_p13, setM_p14, setM_p15, setM_g12, setM_g13, setM_g14, setM_g15, setM_11, setM_82])
      rw [hL]
      refine ev_icmp_ne 70 dX6_lookAt_66 rfl (fun h66 => ?_) (fun h66 => ?_)
      · exact absurd (by rw [show s = L by omega]) h66
      · exact ev_return dX6_lookAt_69 ⟨by rfl, by ((try simp only [setM_p12, setM_p13, setM_p14, setM_p15, setM_g12, setM_g13, setM_g14, setM_g15, setM_11, setM_82]); exact hr.symm)⟩
    have hsL : s < L := by omega
    have n66 : ¬ nI s = nI L := fun h => by have := (nI_eq (by omega) (by omega)).mp h; omega
    by_cases c1 : inR T 97 122 s = true
    ·
      have hb : btw (T s) 97 122 := by simpa [inR] using c1
      obtain ⟨g', hg'⟩ : ∃ g', s + g' = eorF (inR T 97 122) L s := ⟨eorF (inR T 97 122) L s - s, by have := eorF_ge (inR T 97 122) L s; omega⟩
      have hle := eorF_le (inR T 97 122) hs2
      have hr : R = setM σ (nI s) (nI g') 1 0 := by rw [hR2, tN, tK, tV, ← hs, if_neg e, if_neg e, if_neg e, if_pos c1, if_pos c1, if_pos c1, ← hg', Nat.add_sub_cancel_left]
      have he : eor (inR T 97 122) (L - s - 1) (s + 1) = s + g' := by
        rw [hg', eorF, show L - s = (L - s - 1) + 1 by omega, eor, if_pos c1, Nat.add_sub_cancel]
      refine ev_aload_0 dX6_lookAt_43 ?_
      refine ev_iconst_0 dX6_lookAt_44 ?_
      refine ev_put dX6_lookAt_45 fk_X6_241 (by first | assumption | decide) (by decide) rfl ?_
      refine ev_aload_0 dX6_lookAt_48 ?_
      refine ev_iconst_0 dX6_lookAt_49 ?_
      refine Ev.pc 50 rfl ?_
      refine ev_put dX6_lookAt_50 fk_X6_244 (by first | assumption | decide) (by decide) rfl ?_
      refine ev_aload_0 dX6_lookAt_53 ?_
      refine ev_iconst_0 dX6_lookAt_54 ?_
      refine ev_put dX6_lookAt_55 fk_X6_247 (by first | assumption | decide) (by decide) rfl ?_
      refine ev_aload_0 dX6_lookAt_58 ?_
      refine Ev.pc 59 rfl ?_
      refine ev_get dX6_lookAt_59 fk_X6_238 (by first | assumption | decide) (by decide) rfl ?_
      refine ev_aload_0 dX6_lookAt_62 ?_
      refine ev_get dX6_lookAt_63 fk_X6_226 (by first | assumption | decide) (by decide) rfl ?_
      (try simp only [setM_p12, setM_p13, setM_p14, setM_p15, setM_g12, setM_g13, setM_g14, setM_g15, setM_11, setM_82])
      rw [hL]
      refine ev_icmp_ne 70 dX6_lookAt_66 rfl (fun h66 => ?_) (fun h66 => ?_)
      · refine ev_aload_0 dX6_lookAt_70 ?_
        refine ev_get dX6_lookAt_71 fk_X6_39 (by first | assumption | decide) (by decide) rfl ?_
        refine ev_aload_0 dX6_lookAt_74 ?_
        refine ev_get dX6_lookAt_75 fk_X6_238 (by first | assumption | decide) (by decide) rfl ?_
        (try simp only [setM_p12, setM_p13, setM_p14, setM_p15, setM_g12, setM_g13, setM_g14, setM_g15, setM_11, setM_82])
        refine ev_aldN (k := s) dX6_lookAt_78 (by first | assumption | decide) (by first | rfl | (simp only [fa_lit, nI_add, pk_mul]; done) | (simp only [fa_lit, nI_add, pk_mul]; congr 1; omega)) (by have := xls; omega) ?_
        refine Ev.pc 79 rfl ?_
        (try simp only [setM_p12, setM_p13, setM_p14, setM_p15, setM_g12, setM_g13, setM_g14, setM_g15, setM_11, setM_82])
        rw [← hT]
        refine ev_istore_2 dX6_lookAt_79 rfl ?_
        refine ev_aload_0 dX6_lookAt_80 ?_
        refine ev_iload_2 dX6_lookAt_81 ?_
        refine ev_invS dX6_lookAt_82 ml_X6_250 mt_X6_isSmall (c_X6_isSmall d) rfl rfl (rm_ok (by omega)) (Nat.le_of_ble_eq_true rfl) ?_
        rw [← b2i_t hb]
        refine Ev.pc 85 rfl ?_
        refine ev_if_eq 92 dX6_lookAt_85 rfl (fun h85 => ?_) (fun h85 => ?_)
        · exact absurd h85 (by decide)
        · refine ev_iconst_1 dX6_lookAt_88 ?_
          refine ev_goto 114 dX6_lookAt_89 rfl ?_
          refine ev_put dX6_lookAt_114 fk_X6_244 (by first | assumption | decide) (by decide) rfl ?_
          refine ev_aload_0 dX6_lookAt_117 ?_
          refine ev_iconst_1 dX6_lookAt_118 ?_
          refine ev_put dX6_lookAt_119 fk_X6_241 (by first | assumption | decide) (by decide) rfl ?_
          refine Ev.pc 122 rfl ?_
          refine ev_aload_0 dX6_lookAt_122 ?_
          refine ev_get dX6_lookAt_123 fk_X6_244 (by first | assumption | decide) (by decide) rfl ?_
          (try simp only [setM_p12, setM_p13, setM_p14, setM_p15, setM_g12, setM_g13, setM_g14, setM_g15, setM_11, setM_82])
          refine ev_iconst_3 dX6_lookAt_126 ?_
          refine ev_icmp_ge 134 dX6_lookAt_127 rfl (fun h127 => ?_) (fun h127 => ?_)
          · exact absurd h127 (by decide)
          · refine ev_iconst_1 dX6_lookAt_130 ?_
            refine ev_goto 135 dX6_lookAt_131 rfl ?_
            refine ev_istore_3 dX6_lookAt_135 rfl ?_
            (try simp only [setM_p12, setM_p13, setM_p14, setM_p15, setM_g12, setM_g13, setM_g14, setM_g15, setM_11, setM_82])
            exact wd g' hg' (fun z4 z2 z3 => w215 g' 1 z4 z2 z3 (by decide) (by omega) hr) (L - s - 1) 1 _ _ (by omega) he
      · exact absurd h66 n66
    have hb1 : ¬ btw (T s) 97 122 := fun h => c1 (by simpa [inR] using h)
    by_cases c2 : inR T 48 57 s = true
    ·
      have hb : btw (T s) 48 57 := by simpa [inR] using c2
      obtain ⟨g', hg'⟩ : ∃ g', s + g' = eorF (inR T 48 57) L s := ⟨eorF (inR T 48 57) L s - s, by have := eorF_ge (inR T 48 57) L s; omega⟩
      have hle := eorF_le (inR T 48 57) hs2
      have hr : R = setM σ (nI s) (nI g') (if g' ≤ 2 then 2 else 4) (numF T s (min g' 2)) := by rw [hR2, tN, tK, tV, ← hs, if_neg e, if_neg e, if_neg e, if_neg c1, if_neg c1, if_neg c1, if_pos c2, if_pos c2, if_pos c2, ← hg', Nat.add_sub_cancel_left]
      have he : eor (inR T 48 57) (L - s - 1) (s + 1) = s + g' := by
        rw [hg', eorF, show L - s = (L - s - 1) + 1 by omega, eor, if_pos c2, Nat.add_sub_cancel]
      have K : ∀ (z4 : Option Value) (z2 z3 : Int32), Ev E (rm (d + 2)) RX6 cX6_lookAt 5 (fun v t => v = none ∧ t = R) 215 [some (.ref (E.1 73)), some (.int (nI a)), some (.int z2), some (.int z3), z4] [] (setM σ (nI s) (nI g') 2 0) := by
        intro z4 z2 z3
        refine ev_iconst_0 dX6_lookAt_215 ?_
        refine ev_istore_4 dX6_lookAt_216 rfl ?_
        exact num g' z2 z3 (by omega) hr (by omega) (min g' 2) 0 (by omega)
      refine ev_aload_0 dX6_lookAt_43 ?_
      refine ev_iconst_0 dX6_lookAt_44 ?_
      refine ev_put dX6_lookAt_45 fk_X6_241 (by first | assumption | decide) (by decide) rfl ?_
      refine ev_aload_0 dX6_lookAt_48 ?_
      refine ev_iconst_0 dX6_lookAt_49 ?_
      refine Ev.pc 50 rfl ?_
      refine ev_put dX6_lookAt_50 fk_X6_244 (by first | assumption | decide) (by decide) rfl ?_
      refine ev_aload_0 dX6_lookAt_53 ?_
      refine ev_iconst_0 dX6_lookAt_54 ?_
      refine ev_put dX6_lookAt_55 fk_X6_247 (by first | assumption | decide) (by decide) rfl ?_
      refine ev_aload_0 dX6_lookAt_58 ?_
      refine Ev.pc 59 rfl ?_
      refine ev_get dX6_lookAt_59 fk_X6_238 (by first | assumption | decide) (by decide) rfl ?_
      refine ev_aload_0 dX6_lookAt_62 ?_
      refine ev_get dX6_lookAt_63 fk_X6_226 (by first | assumption | decide) (by decide) rfl ?_
      (try simp only [setM_p12, setM_p13, setM_p14, setM_p15, setM_g12, setM_g13, setM_g14, setM_g15, setM_11, setM_82])
      rw [hL]
      refine ev_icmp_ne 70 dX6_lookAt_66 rfl (fun h66 => ?_) (fun h66 => ?_)
      · refine ev_aload_0 dX6_lookAt_70 ?_
        refine ev_get dX6_lookAt_71 fk_X6_39 (by first | assumption | decide) (by decide) rfl ?_
        refine ev_aload_0 dX6_lookAt_74 ?_
        refine ev_get dX6_lookAt_75 fk_X6_238 (by first | assumption | decide) (by decide) rfl ?_
        (try simp only [setM_p12, setM_p13, setM_p14, setM_p15, setM_g12, setM_g13, setM_g14, setM_g15, setM_11, setM_82])
        refine ev_aldN (k := s) dX6_lookAt_78 (by first | assumption | decide) (by first | rfl | (simp only [fa_lit, nI_add, pk_mul]; done) | (simp only [fa_lit, nI_add, pk_mul]; congr 1; omega)) (by have := xls; omega) ?_
        refine Ev.pc 79 rfl ?_
        (try simp only [setM_p12, setM_p13, setM_p14, setM_p15, setM_g12, setM_g13, setM_g14, setM_g15, setM_11, setM_82])
        rw [← hT]
        refine ev_istore_2 dX6_lookAt_79 rfl ?_
        refine ev_aload_0 dX6_lookAt_80 ?_
        refine ev_iload_2 dX6_lookAt_81 ?_
        refine ev_invS dX6_lookAt_82 ml_X6_250 mt_X6_isSmall (c_X6_isSmall d) rfl rfl (rm_ok (by omega)) (Nat.le_of_ble_eq_true rfl) ?_
        rw [← b2i_f hb1]
        refine Ev.pc 85 rfl ?_
        refine ev_if_eq 92 dX6_lookAt_85 rfl (fun h85 => ?_) (fun h85 => ?_)
        · refine ev_iload_2 dX6_lookAt_92 ?_
          refine ev_invS dX6_lookAt_93 ml_X6_253 mt_X6_isFigure (c_X6_isFigure d) rfl rfl (rm_ok (by omega)) (Nat.le_of_ble_eq_true rfl) ?_
          rw [← b2i_t hb]
          refine Ev.pc 96 rfl ?_
          refine ev_if_eq 103 dX6_lookAt_96 rfl (fun h96 => ?_) (fun h96 => ?_)
          · exact absurd h96 (by decide)
          · refine ev_iconst_2 dX6_lookAt_99 ?_
            refine ev_goto 114 dX6_lookAt_100 rfl ?_
            refine ev_put dX6_lookAt_114 fk_X6_244 (by first | assumption | decide) (by decide) rfl ?_
            refine ev_aload_0 dX6_lookAt_117 ?_
            refine ev_iconst_1 dX6_lookAt_118 ?_
            refine ev_put dX6_lookAt_119 fk_X6_241 (by first | assumption | decide) (by decide) rfl ?_
            refine Ev.pc 122 rfl ?_
            refine ev_aload_0 dX6_lookAt_122 ?_
            refine ev_get dX6_lookAt_123 fk_X6_244 (by first | assumption | decide) (by decide) rfl ?_
            (try simp only [setM_p12, setM_p13, setM_p14, setM_p15, setM_g12, setM_g13, setM_g14, setM_g15, setM_11, setM_82])
            refine ev_iconst_3 dX6_lookAt_126 ?_
            refine ev_icmp_ge 134 dX6_lookAt_127 rfl (fun h127 => ?_) (fun h127 => ?_)
            · exact absurd h127 (by decide)
            · refine ev_iconst_1 dX6_lookAt_130 ?_
              refine ev_goto 135 dX6_lookAt_131 rfl ?_
              refine ev_istore_3 dX6_lookAt_135 rfl ?_
              (try simp only [setM_p12, setM_p13, setM_p14, setM_p15, setM_g12, setM_g13, setM_g14, setM_g15, setM_11, setM_82])
              exact nb g' hg' K (L - s - 1) 1 _ _ (by omega) he
        · exact absurd rfl h85
      · exact absurd h66 n66
    have hb2 : ¬ btw (T s) 48 57 := fun h => c2 (by simpa [inR] using h)
    have hr : R = setM σ (nI s) (nI 1) (if T s = 59 then 3 else 4) 0 := by rw [hR2, tN, tK, tV, ← hs, if_neg e, if_neg e, if_neg e, if_neg c1, if_neg c1, if_neg c1, if_neg c2, if_neg c2, if_neg c2, Nat.add_sub_cancel_left]
    by_cases c3 : T s = 59
    ·
      rw [if_pos c3] at hr
      refine ev_aload_0 dX6_lookAt_43 ?_
      refine ev_iconst_0 dX6_lookAt_44 ?_
      refine ev_put dX6_lookAt_45 fk_X6_241 (by first | assumption | decide) (by decide) rfl ?_
      refine ev_aload_0 dX6_lookAt_48 ?_
      refine ev_iconst_0 dX6_lookAt_49 ?_
      refine Ev.pc 50 rfl ?_
      refine ev_put dX6_lookAt_50 fk_X6_244 (by first | assumption | decide) (by decide) rfl ?_
      refine ev_aload_0 dX6_lookAt_53 ?_
      refine ev_iconst_0 dX6_lookAt_54 ?_
      refine ev_put dX6_lookAt_55 fk_X6_247 (by first | assumption | decide) (by decide) rfl ?_
      refine ev_aload_0 dX6_lookAt_58 ?_
      refine Ev.pc 59 rfl ?_
      refine ev_get dX6_lookAt_59 fk_X6_238 (by first | assumption | decide) (by decide) rfl ?_
      refine ev_aload_0 dX6_lookAt_62 ?_
      refine ev_get dX6_lookAt_63 fk_X6_226 (by first | assumption | decide) (by decide) rfl ?_
      (try simp only [setM_p12, setM_p13, setM_p14, setM_p15, setM_g12, setM_g13, setM_g14, setM_g15, setM_11, setM_82])
      rw [hL]
      refine ev_icmp_ne 70 dX6_lookAt_66 rfl (fun h66 => ?_) (fun h66 => ?_)
      · refine ev_aload_0 dX6_lookAt_70 ?_
        refine ev_get dX6_lookAt_71 fk_X6_39 (by first | assumption | decide) (by decide) rfl ?_
        refine ev_aload_0 dX6_lookAt_74 ?_
        refine ev_get dX6_lookAt_75 fk_X6_238 (by first | assumption | decide) (by decide) rfl ?_
        (try simp only [setM_p12, setM_p13, setM_p14, setM_p15, setM_g12, setM_g13, setM_g14, setM_g15, setM_11, setM_82])
        refine ev_aldN (k := s) dX6_lookAt_78 (by first | assumption | decide) (by first | rfl | (simp only [fa_lit, nI_add, pk_mul]; done) | (simp only [fa_lit, nI_add, pk_mul]; congr 1; omega)) (by have := xls; omega) ?_
        refine Ev.pc 79 rfl ?_
        (try simp only [setM_p12, setM_p13, setM_p14, setM_p15, setM_g12, setM_g13, setM_g14, setM_g15, setM_11, setM_82])
        rw [← hT]
        refine ev_istore_2 dX6_lookAt_79 rfl ?_
        refine ev_aload_0 dX6_lookAt_80 ?_
        refine ev_iload_2 dX6_lookAt_81 ?_
        refine ev_invS dX6_lookAt_82 ml_X6_250 mt_X6_isSmall (c_X6_isSmall d) rfl rfl (rm_ok (by omega)) (Nat.le_of_ble_eq_true rfl) ?_
        rw [← b2i_f hb1]
        refine Ev.pc 85 rfl ?_
        refine ev_if_eq 92 dX6_lookAt_85 rfl (fun h85 => ?_) (fun h85 => ?_)
        · refine ev_iload_2 dX6_lookAt_92 ?_
          refine ev_invS dX6_lookAt_93 ml_X6_253 mt_X6_isFigure (c_X6_isFigure d) rfl rfl (rm_ok (by omega)) (Nat.le_of_ble_eq_true rfl) ?_
          rw [← b2i_f hb2]
          refine Ev.pc 96 rfl ?_
          refine ev_if_eq 103 dX6_lookAt_96 rfl (fun h96 => ?_) (fun h96 => ?_)
          · refine ev_iload_2 dX6_lookAt_103 ?_
            refine ev_bipush (59) dX6_lookAt_104 rfl ?_
            refine ev_icmp_ne 113 dX6_lookAt_106 rfl (fun h106 => ?_) (fun h106 => ?_)
            · exact absurd c3 h106
            · refine ev_iconst_3 dX6_lookAt_109 ?_
              refine ev_goto 114 dX6_lookAt_110 rfl ?_
              refine ev_put dX6_lookAt_114 fk_X6_244 (by first | assumption | decide) (by decide) rfl ?_
              refine ev_aload_0 dX6_lookAt_117 ?_
              refine ev_iconst_1 dX6_lookAt_118 ?_
              refine ev_put dX6_lookAt_119 fk_X6_241 (by first | assumption | decide) (by decide) rfl ?_
              refine Ev.pc 122 rfl ?_
              refine ev_aload_0 dX6_lookAt_122 ?_
              refine ev_get dX6_lookAt_123 fk_X6_244 (by first | assumption | decide) (by decide) rfl ?_
              (try simp only [setM_p12, setM_p13, setM_p14, setM_p15, setM_g12, setM_g13, setM_g14, setM_g15, setM_11, setM_82])
              refine ev_iconst_3 dX6_lookAt_126 ?_
              refine ev_icmp_ge 134 dX6_lookAt_127 rfl (fun h127 => ?_) (fun h127 => ?_)
              · refine ev_iconst_0 dX6_lookAt_134 ?_
                refine ev_istore_3 dX6_lookAt_135 rfl ?_
                (try simp only [setM_p12, setM_p13, setM_p14, setM_p15, setM_g12, setM_g13, setM_g14, setM_g15, setM_11, setM_82])
                refine ev_iload_3 dX6_lookAt_136 ?_
                refine ev_if_eq 215 dX6_lookAt_137 rfl (fun h => ?_) (fun h => absurd rfl h)
                exact w215 1 3 _ _ _ (by decide) (by omega) hr
              · exact absurd (by decide) h127
          · exact absurd rfl h96
        · exact absurd rfl h85
      · exact absurd h66 n66
    ·
      rw [if_neg c3] at hr
      refine ev_aload_0 dX6_lookAt_43 ?_
      refine ev_iconst_0 dX6_lookAt_44 ?_
      refine ev_put dX6_lookAt_45 fk_X6_241 (by first | assumption | decide) (by decide) rfl ?_
      refine ev_aload_0 dX6_lookAt_48 ?_
      refine ev_iconst_0 dX6_lookAt_49 ?_
      refine Ev.pc 50 rfl ?_
      refine ev_put dX6_lookAt_50 fk_X6_244 (by first | assumption | decide) (by decide) rfl ?_
      refine ev_aload_0 dX6_lookAt_53 ?_
      refine ev_iconst_0 dX6_lookAt_54 ?_
      refine ev_put dX6_lookAt_55 fk_X6_247 (by first | assumption | decide) (by decide) rfl ?_
      refine ev_aload_0 dX6_lookAt_58 ?_
      refine Ev.pc 59 rfl ?_
      refine ev_get dX6_lookAt_59 fk_X6_238 (by first | assumption | decide) (by decide) rfl ?_
      refine ev_aload_0 dX6_lookAt_62 ?_
      refine ev_get dX6_lookAt_63 fk_X6_226 (by first | assumption | decide) (by decide) rfl ?_
      (try simp only [setM_p12, setM_p13, setM_p14, setM_p15, setM_g12, setM_g13, setM_g14, setM_g15, setM_11, setM_82])
      rw [hL]
      refine ev_icmp_ne 70 dX6_lookAt_66 rfl (fun h66 => ?_) (fun h66 => ?_)
      · refine ev_aload_0 dX6_lookAt_70 ?_
        refine ev_get dX6_lookAt_71 fk_X6_39 (by first | assumption | decide) (by decide) rfl ?_
        refine ev_aload_0 dX6_lookAt_74 ?_
        refine ev_get dX6_lookAt_75 fk_X6_238 (by first | assumption | decide) (by decide) rfl ?_
        (try simp only [setM_p12, setM_p13, setM_p14, setM_p15, setM_g12, setM_g13, setM_g14, setM_g15, setM_11, setM_82])
        refine ev_aldN (k := s) dX6_lookAt_78 (by first | assumption | decide) (by first | rfl | (simp only [fa_lit, nI_add, pk_mul]; done) | (simp only [fa_lit, nI_add, pk_mul]; congr 1; omega)) (by have := xls; omega) ?_
        refine Ev.pc 79 rfl ?_
        (try simp only [setM_p12, setM_p13, setM_p14, setM_p15, setM_g12, setM_g13, setM_g14, setM_g15, setM_11, setM_82])
        rw [← hT]
        refine ev_istore_2 dX6_lookAt_79 rfl ?_
        refine ev_aload_0 dX6_lookAt_80 ?_
        refine ev_iload_2 dX6_lookAt_81 ?_
        refine ev_invS dX6_lookAt_82 ml_X6_250 mt_X6_isSmall (c_X6_isSmall d) rfl rfl (rm_ok (by omega)) (Nat.le_of_ble_eq_true rfl) ?_
        rw [← b2i_f hb1]
        refine Ev.pc 85 rfl ?_
        refine ev_if_eq 92 dX6_lookAt_85 rfl (fun h85 => ?_) (fun h85 => ?_)
        · refine ev_iload_2 dX6_lookAt_92 ?_
          refine ev_invS dX6_lookAt_93 ml_X6_253 mt_X6_isFigure (c_X6_isFigure d) rfl rfl (rm_ok (by omega)) (Nat.le_of_ble_eq_true rfl) ?_
          rw [← b2i_f hb2]
          refine Ev.pc 96 rfl ?_
          refine ev_if_eq 103 dX6_lookAt_96 rfl (fun h96 => ?_) (fun h96 => ?_)
          · refine ev_iload_2 dX6_lookAt_103 ?_
            refine ev_bipush (59) dX6_lookAt_104 rfl ?_
            refine ev_icmp_ne 113 dX6_lookAt_106 rfl (fun h106 => ?_) (fun h106 => ?_)
            · refine ev_iconst_4 dX6_lookAt_113 ?_
              refine ev_put dX6_lookAt_114 fk_X6_244 (by first | assumption | decide) (by decide) rfl ?_
              refine ev_aload_0 dX6_lookAt_117 ?_
              refine ev_iconst_1 dX6_lookAt_118 ?_
              refine ev_put dX6_lookAt_119 fk_X6_241 (by first | assumption | decide) (by decide) rfl ?_
              refine Ev.pc 122 rfl ?_
              refine ev_aload_0 dX6_lookAt_122 ?_
              refine ev_get dX6_lookAt_123 fk_X6_244 (by first | assumption | decide) (by decide) rfl ?_
              (try simp only [setM_p12, setM_p13, setM_p14, setM_p15, setM_g12, setM_g13, setM_g14, setM_g15, setM_11, setM_82])
              refine ev_iconst_3 dX6_lookAt_126 ?_
              refine ev_icmp_ge 134 dX6_lookAt_127 rfl (fun h127 => ?_) (fun h127 => ?_)
              · refine ev_iconst_0 dX6_lookAt_134 ?_
                refine ev_istore_3 dX6_lookAt_135 rfl ?_
                (try simp only [setM_p12, setM_p13, setM_p14, setM_p15, setM_g12, setM_g13, setM_g14, setM_g15, setM_11, setM_82])
                refine ev_iload_3 dX6_lookAt_136 ?_
                refine ev_if_eq 215 dX6_lookAt_137 rfl (fun h => ?_) (fun h => absurd rfl h)
                exact w215 1 4 _ _ _ (by decide) (by omega) hr
              · exact absurd (by decide) h127
            · exact absurd h106 c3
          · exact absurd rfl h96
        · exact absurd rfl h85
      · exact absurd h66 n66
  have sp : ∀ (n k : Nat), k + n = L → eor (inR T 32 32) n k = s → Ev E (rm (d + 2)) RX6 cX6_lookAt 5 (fun v t => v = none ∧ t = R) 5 [some (.ref (E.1 73)), some (.int (nI a)), none, none, none] [] (setM σ (nI k) l0 t0 v0) := by
    intro n
    induction n with
    | zero =>
      intro k hk he
      obtain rfl : k = s := by rw [eor] at he; exact he
      refine ev_aload_0 dX6_lookAt_5 ?_
      refine ev_get dX6_lookAt_6 fk_X6_238 (by first | assumption | decide) (by decide) rfl ?_
      refine ev_aload_0 dX6_lookAt_9 ?_
      refine ev_get dX6_lookAt_10 fk_X6_226 (by first | assumption | decide) (by decide) rfl ?_
      (try simp only [setM_p12, setM_p13, setM_p14, setM_p15, setM_g12, setM_g13, setM_g14, setM_g15, setM_11, setM_82])
      rw [hL]
      refine ev_icmp_ge 43 dX6_lookAt_13 rfl (fun h13 => ?_) (fun h13 => ?_)
      · exact k43
      · exact absurd (nI_le (by omega) (by omega)) h13
    | succ n ih =>
      intro k hk he
      rw [eor] at he
      by_cases q7 : inR T 32 32 k = true
      ·
        rw [if_pos q7] at he
        refine ev_aload_0 dX6_lookAt_5 ?_
        refine ev_get dX6_lookAt_6 fk_X6_238 (by first | assumption | decide) (by decide) rfl ?_
        refine ev_aload_0 dX6_lookAt_9 ?_
        refine ev_get dX6_lookAt_10 fk_X6_226 (by first | assumption | decide) (by decide) rfl ?_
        (try simp only [setM_p12, setM_p13, setM_p14, setM_p15, setM_g12, setM_g13, setM_g14, setM_g15, setM_11, setM_82])
        rw [hL]
        refine ev_icmp_ge 43 dX6_lookAt_13 rfl (fun h13 => ?_) (fun h13 => ?_)
        · exact absurd h13 (nI_ge (by omega) (by omega))
        · refine ev_aload_0 dX6_lookAt_16 ?_
          refine ev_get dX6_lookAt_17 fk_X6_39 (by first | assumption | decide) (by decide) rfl ?_
          refine ev_aload_0 dX6_lookAt_20 ?_
          refine ev_get dX6_lookAt_21 fk_X6_238 (by first | assumption | decide) (by decide) rfl ?_
          (try simp only [setM_p12, setM_p13, setM_p14, setM_p15, setM_g12, setM_g13, setM_g14, setM_g15, setM_11, setM_82])
          refine ev_aldN (k := k) dX6_lookAt_24 (by first | assumption | decide) (by first | rfl | (simp only [fa_lit, nI_add, pk_mul]; done) | (simp only [fa_lit, nI_add, pk_mul]; congr 1; omega)) (by have := xls; omega) ?_
          refine Ev.pc 25 rfl ?_
          (try simp only [setM_p12, setM_p13, setM_p14, setM_p15, setM_g12, setM_g13, setM_g14, setM_g15, setM_11, setM_82])
          rw [← hT]
          refine ev_bipush (32) dX6_lookAt_25 rfl ?_
          refine ev_icmp_ne 43 dX6_lookAt_27 rfl (fun h27 => ?_) (fun h27 => ?_)
          · exact absurd (inR_32.mp q7) h27
          · refine ev_aload_0 dX6_lookAt_30 ?_
            refine ev_dup dX6_lookAt_31 rfl ?_
            refine ev_get dX6_lookAt_32 fk_X6_238 (by first | assumption | decide) (by decide) rfl ?_
            refine ev_iconst_1 dX6_lookAt_35 ?_
            refine ev_iadd dX6_lookAt_36 ?_
            refine Ev.pc 37 rfl ?_
            refine ev_put dX6_lookAt_37 fk_X6_238 (by first | assumption | decide) (by decide) rfl ?_
            refine ev_goto 5 dX6_lookAt_40 rfl ?_
            (try simp only [setM_p12, setM_p13, setM_p14, setM_p15, setM_g12, setM_g13, setM_g14, setM_g15, setM_11, setM_82])
            rw [nI_1]
            exact ih (k + 1) (by omega) he
      ·
        rw [if_neg q7] at he
        subst he
        refine ev_aload_0 dX6_lookAt_5 ?_
        refine ev_get dX6_lookAt_6 fk_X6_238 (by first | assumption | decide) (by decide) rfl ?_
        refine ev_aload_0 dX6_lookAt_9 ?_
        refine ev_get dX6_lookAt_10 fk_X6_226 (by first | assumption | decide) (by decide) rfl ?_
        (try simp only [setM_p12, setM_p13, setM_p14, setM_p15, setM_g12, setM_g13, setM_g14, setM_g15, setM_11, setM_82])
        rw [hL]
        refine ev_icmp_ge 43 dX6_lookAt_13 rfl (fun h13 => ?_) (fun h13 => ?_)
        · exact absurd h13 (nI_ge (by omega) (by omega))
        · refine ev_aload_0 dX6_lookAt_16 ?_
          refine ev_get dX6_lookAt_17 fk_X6_39 (by first | assumption | decide) (by decide) rfl ?_
          refine ev_aload_0 dX6_lookAt_20 ?_
          refine ev_get dX6_lookAt_21 fk_X6_238 (by first | assumption | decide) (by decide) rfl ?_
          (try simp only [setM_p12, setM_p13, setM_p14, setM_p15, setM_g12, setM_g13, setM_g14, setM_g15, setM_11, setM_82])
          refine ev_aldN (k := k) dX6_lookAt_24 (by first | assumption | decide) (by first | rfl | (simp only [fa_lit, nI_add, pk_mul]; done) | (simp only [fa_lit, nI_add, pk_mul]; congr 1; omega)) (by have := xls; omega) ?_
          refine Ev.pc 25 rfl ?_
          (try simp only [setM_p12, setM_p13, setM_p14, setM_p15, setM_g12, setM_g13, setM_g14, setM_g15, setM_11, setM_82])
          rw [← hT]
          refine ev_bipush (32) dX6_lookAt_25 rfl ?_
          refine ev_icmp_ne 43 dX6_lookAt_27 rfl (fun h27 => ?_) (fun h27 => ?_)
          · exact k43
          · exact absurd (inR_32.mpr h27) q7
  have e0 : xu σ 73 12 (nI a) = setM σ (nI a) l0 t0 v0 := by
    rw [hl0, ht0, hv0]
    conv => lhs; rw [← setM_id σ]
    rw [setM_p12]
  refine Ct.of (by decide +kernel) (Nat.le_of_ble_eq_true rfl) rfl ?_
  show Ev E _ RX6 cX6_lookAt 5 _ 0 [some (.ref (E.1 73)), some (.int (nI a)), none, none, none] [] _
  refine ev_aload_0 dX6_lookAt_0 ?_
  refine ev_iload_1 dX6_lookAt_1 ?_
  refine ev_put dX6_lookAt_2 fk_X6_238 (by first | assumption | decide) (by decide) rfl ?_
  rw [e0]
  exact sp (L - a) a (by omega) (by rw [hs]; rfl)
