/-! both, call by call: which it was -/
theorem allB_congr {f g : Nat → Bool} : ∀ {n : Nat}, (∀ k, k < n → f k = g k) → allB f n = allB g n := by
  intro n
  induction n with
  | zero => intro _; rfl
  | succ n ih => intro h; rw [allB, allB, ih (fun k hk => h k (by omega)), h n (by omega)]
theorem good_eq (k : Int32) {v d : Int32} (hv : Sm 9 v) (hd : Sm 20000 d) : goodC k v d = goodM k v d := by
  obtain ⟨a, ha, rfl⟩ := hv
  obtain ⟨b, hb, rfl⟩ := hd
  rw [goodC_N k ha hb, goodM_N k ha hb]
theorem joy_eq (k : Int32) {w g : Int32} (hw : Sm 9 w) (hg : Sm 30 g) : joyC k w g = joyM k g w := by
  obtain ⟨a, ha, rfl⟩ := hw
  obtain ⟨b, hb, rfl⟩ := hg
  rw [joyC_N k ha hb, joyM_N k ha hb]
theorem ans_1 (σ : xS) (i s t : Int32) : ansC σ 1 i s t = goodC i s t := by rw [ansC, if_pos rfl]
theorem ans_2 (σ : xS) (i s t : Int32) : ansC σ 2 i s t = joyC i s t := by rw [ansC, if_neg (by decide), if_pos rfl]
theorem ans_0 (σ : xS) (i s t : Int32) : ansC σ 0 i s t = goodC (xat σ 3 i) (xat σ 4 i) t := by rw [ansC, if_neg (by decide), if_neg (by decide)]
theorem which_eq {σ : xS} {f : Nat → Int32} {P H B U S N M : Nat} (h : SX σ f P H B U S N M) : whichC σ P S = seenM f P S := by
  obtain ⟨hT, hU, hE, hN, hM⟩ := h
  rw [whichC, seenM]
  refine mkI_congr (fun p hp => allB_congr (fun k hk => ?_))
  obtain ⟨e1, e2, e3, e4⟩ := hE.2.2.2 k hk
  obtain ⟨a1, a2, -, -⟩ := hT.at town_now hp
  have a1 : xat σ 3 (nI p) = f (26 + p) := a1
  have a2 : xat σ 4 (nI p) = f (33 + p) := a2
  have s9 := (hT.1.2.2.2.1 p hp).2.2
  rw [agB, seenB, hintId0, ans_0, show σ.1 (12 + 1) (4 * k) = 0 from e1, show σ.1 (12 + 1) (4 * k + 2) = f (48 + 2 * k) from e2, show σ.1 (12 + 1) (4 * k + 3) = f (48 + 2 * k + 1) from e3, a1, a2, good_eq _ s9 (e4.mono (by omega)), decide_eq_true rfl, Bool.true_and, Bool.not_not]
theorem kind_eq {σ : xS} {f : Nat → Int32} {N : Nat} (h : zN σ 14 f 4 58 99 N) (p : Int32) : mkI (fun i => allB (agB σ 1 p (nI i)) N) 6 = kindP f p N := by
  rw [kindP]
  refine mkI_congr (fun i hi => allB_congr (fun k hk => ?_))
  obtain ⟨e1, e2, e3⟩ := h.2.2.2 k hk
  rw [agB, knB, hintId1, ans_1, show σ.1 (14 + 1) (4 * k) = f (58 + 4 * k) from e1 0 (by omega), e1 1 (by omega), e1 2 (by omega), e1 3 (by omega), good_eq _ e2 (e3.mono (by omega)), Bool.not_and, Bool.not_not]
theorem kinh_eq {σ : xS} {f : Nat → Int32} {M : Nat} (h : zN σ 16 f 5 82 30 M) (p : Int32) : mkI (fun i => allB (agB σ 2 p (nI i)) M) 6 = kindH f p M := by
  rw [kindH]
  refine mkI_congr (fun i hi => allB_congr (fun k hk => ?_))
  obtain ⟨e1, e2, e3⟩ := h.2.2.2 k hk
  rw [agB, kmB, hintId2, ans_2, show σ.1 (16 + 1) (4 * k) = f (82 + 4 * k) from e1 0 (by omega), e1 1 (by omega), e1 2 (by omega), e1 3 (by omega), joy_eq _ e2 e3, Bool.not_and, Bool.not_not]
theorem b_which {E : xE} {σ : xS} (h : Inv σ σ) : Both E yX5_which cX5_which 1 (some .int) yX6_which cX6_which 1 (some .int) [] σ := by
  obtain ⟨P, H, B, U, S, N, M, hx⟩ := h.x
  have hP := hx.1.1.1
  have hE := hx.2.2.1
  exact b_q h (c_X5_which 3 hP.1 hP.2.2 hE.1 hE.2.2.1) (c_X6_which 6 hP.2.1 hP.2.2 hE.2.1 hE.2.2.1) (congrArg Value.int (which_eq hx).symm)
theorem b_is {E : xE} {σ : xS} {p : Int32} (h : Inv σ σ) : Both E yX5_is cX5_is 2 (some .int) yX6_is cX6_is 2 (some .int) [.int p] σ := by
  obtain ⟨P, H, B, U, S, N, M, hx⟩ := h.x
  have hP := hx.1.1.1
  have hN := hx.2.2.2.1
  have hc := c_X5_is 3 (E := E) (p := p) hN.1 hN.2.2.1
  by_cases q1 : hasIn (σ.1 2 7) p
  · rw [isQ, if_pos q1] at hc
    exact b_q h hc (c_X6_is 6 hN.2.1 hN.2.2.1 (by rw [hP.2.1, ← hP.1]; exact q1)) (congrArg Value.int (kind_eq hN p).symm)
  · rw [isQ, if_neg q1] at hc
    refine b_bad h hc (c_X6_is_bad 6 (fun z => q1 ?_))
    rw [(cFr_bad σ).1 74 (by omega), hP.2.1] at z
    rw [hP.1]; exact z
theorem b_kinds {E : xE} {σ : xS} {p : Int32} (h : Inv σ σ) : Both E yX5_kinds cX5_kinds 2 (some .int) yX6_kinds cX6_kinds 2 (some .int) [.int p] σ := by
  obtain ⟨P, H, B, U, S, N, M, hx⟩ := h.x
  have hH := hx.1.1.2.1
  have hM := hx.2.2.2.2
  have hc := c_X5_kinds 3 (E := E) (p := p) hM.1 hM.2.2.1
  by_cases q1 : hasIn (σ.1 2 8) p
  · rw [kindsQ, if_pos q1] at hc
    exact b_q h hc (c_X6_kinds 6 hM.2.1 hM.2.2.1 (by rw [hH.2.1, ← hH.1]; exact q1)) (congrArg Value.int (kinh_eq hM p).symm)
  · rw [kindsQ, if_neg q1] at hc
    refine b_bad h hc (c_X6_kinds_bad 6 (fun z => q1 ?_))
    rw [(cFr_bad σ).1 74 (by omega), hH.2.1] at z
    rw [hH.1]; exact z
/-! what parts best -/
theorem cnC_N (f : Nat → Int32) (cand : Int32) (i : Nat) : ∀ n, ∃ m, m ≤ n ∧ cnC f cand i n = nI m := by
  intro n
  induction n with
  | zero => exact ⟨0, Nat.le_refl _, rfl⟩
  | succ n ih =>
    obtain ⟨m, h1, h2⟩ := ih
    rw [cnC_s, h2]
    split
    · split
      · exact ⟨m + 1, by omega, nI_1 m⟩
      · exact ⟨m, by omega, rfl⟩
    · exact ⟨m, by omega, rfl⟩
theorem crC_N (f : Nat → Int32) (cand : Int32) : ∀ n, ∃ m, m ≤ 7 ∧ crC f cand n = nI m := by
  intro n
  induction n with
  | zero => exact ⟨0, by omega, rfl⟩
  | succ n ih =>
    obtain ⟨m, h1, h2⟩ := ih
    obtain ⟨c, h3, h4⟩ := cnC_N f cand n 7
    rw [crC_s, h2, h4]
    split
    · exact ⟨max m c, by omega, xmax_N (by omega) (by omega)⟩
    · exact ⟨m, h1, rfl⟩
theorem cnC_cand {f g : Nat → Int32} {cand : Int32} {i : Nat} (h : ∀ p, p < 7 → hasI' cand p → f p = g p) (hi : f i = g i) : ∀ n, n ≤ 7 → cnC f cand i n = cnC g cand i n := by
  intro n
  induction n with
  | zero => intro _; rfl
  | succ n ih =>
    intro hn
    rw [cnC_s, cnC_s, ih (by omega)]
    by_cases q : hasI' cand n
    · rw [if_pos q, if_pos q, h n (by omega) q, hi]
    · rw [if_neg q, if_neg q]
theorem crC_cand {f g : Nat → Int32} {cand : Int32} (h : ∀ p, p < 7 → hasI' cand p → f p = g p) : ∀ n, n ≤ 7 → crC f cand n = crC g cand n := by
  intro n
  induction n with
  | zero => intro _; exact (show crC f cand 0 = 0 from rfl).trans (show (0 : Int32) = crC g cand 0 from rfl)
  | succ n ih =>
    intro hn
    rw [crC_s, crC_s, ih (by omega)]
    by_cases q : hasI' cand n
    · rw [if_pos q, if_pos q, cnC_cand h (h n (by omega) q) 7 (Nat.le_refl 7)]
    · rw [if_neg q, if_neg q]
theorem bpS_s (f : Nat → Nat → Int32) (cand : Int32) (t : Nat) : bpS f cand (t + 1) = if crC (f t) cand 7 < (bpS f cand t).2 then (nI t, crC (f t) cand 7) else bpS f cand t := rfl
theorem tlS_s (g : Nat → Int32) (a : Nat → Nat → Int32) (n : Nat) (cand : Int32) (t : Nat) : tlS g a n cand (t + 1) = if crC (rwM g a n (t + 1)) cand 7 < (tlS g a n cand t).2 then (nI t, crC (rwM g a n (t + 1)) cand 7) else tlS g a n cand t := by rw [tlS]
theorem part_eq {f : Nat → Nat → Int32} {g : Nat → Int32} {a : Nat → Nat → Int32} {n : Nat} {cand : Int32} : ∀ T, (∀ t, t < T → ∀ p, p < 7 → hasI' cand p → f t p = rwM g a n (t + 1) p) → (bpS f cand T).1 = (tlS g a n cand T).1 ∧ ((T = 0 ∧ (bpS f cand T).2 = 8 ∧ (tlS g a n cand T).2 = farM) ∨ (bpS f cand T).2 = (tlS g a n cand T).2) := by
  intro T
  induction T with
  | zero => intro _; exact ⟨rfl, Or.inl ⟨rfl, rfl, rfl⟩⟩
  | succ T ih =>
    intro h
    obtain ⟨i1, i2⟩ := ih (fun t ht => h t (by omega))
    have e := crC_cand (h T (by omega)) 7 (Nat.le_refl 7)
    obtain ⟨m, hm, em⟩ := crC_N (rwM g a n (T + 1)) cand 7
    rw [bpS_s, tlS_s, e]
    rcases i2 with ⟨-, h8, hf⟩ | h2
    · have hfar : farM = nI 1000000 := rfl
      rw [h8, hf, em, if_pos (show nI m < (8 : Int32) from nI_lt (b := 8) (by omega) (by omega)), hfar, if_pos (nI_lt (by omega) (by omega))]
      exact ⟨rfl, Or.inr rfl⟩
    · rw [h2]
      by_cases q : crC (rwM g a n (T + 1)) cand 7 < (tlS g a n cand T).2
      · rw [if_pos q, if_pos q]; exact ⟨rfl, Or.inr rfl⟩
      · rw [if_neg q, if_neg q]; exact ⟨i1, Or.inr h2⟩
theorem cFr_ans (σ : xS) (w s : Int32) (t j : Nat) : cFr σ (ansR σ w s t j) := ⟨fun i hi => ansR_f (by omega), rfl⟩
theorem cS_ans (σ : xS) (w s : Int32) (t j : Nat) : cSame σ (ansR σ w s t j) := ⟨fun i hi => ansR_f (by omega), ansR_f (by decide), by rw [ansR_f (by decide)], rfl⟩
theorem rS_row (σ : xS) {i : Nat} (f : Nat → Int32) (h : 78 ≤ i ∧ i ≤ 81 ∨ 83 ≤ i) : rSame σ (xrow σ i f) := ⟨fun j h1 h2 => xrow_ne _ _ (by omega), xrow_ne _ _ (by omega), by rw [xrow_ne _ _ (by omega)], rfl⟩
theorem b_tell {E : xE} {σ : xS} (h : Inv σ σ) : Both E yX5_tell cX5_tell 1 (some .int) yX6_tell cX6_tell 6 (some .int) [] σ := by
  obtain ⟨P, H, B, U, S, N, M, hx⟩ := h.x
  have hT := hx.1
  have hP := hx.1.1.1
  have hE := hx.2.2.1
  have hc := c_X5_tell 2 (E := E) hP.1 hP.2.2 hE.1 hE.2.2.1
  rw [which_eq hx] at hc
  by_cases q : seenM (σ.1 74) P S = 0
  · rw [bpQ, if_pos q] at hc
    have hr := c_X6_tell 6 (E := E) hP.2.1 hP.2.2 hE.2.1 hE.2.2.1
    rw [mTell, if_pos q] at hr
    exact b_q h hc hr rfl
  · rw [bpQ, if_neg q] at hc
    simp only [Nat.reduceAdd] at hc
    obtain ⟨σ1, e1⟩ : ∃ σ1, σ1 = ansR σ 0 0 31 0 := ⟨_, rfl⟩
    have e74 : σ1.1 74 = σ.1 74 := by rw [e1]; exact ansR_f (by decide)
    have hr := c_X6_tell 6 (E := E) (σ := σ1) (P := P) (S := S) (by rw [e74]; exact hP.2.1) hP.2.2 (by rw [e74]; exact hE.2.1) hE.2.2.1
    rw [mTell, e74, if_neg q] at hr
    dsimp only at hr
    refine b_same h hc (by rw [← e1]; exact hr) (cFr_ans _ _ _ _ _) (cS_ans _ _ _ _ _) (by rw [← e1]; exact (rFr.rf _).row (by omega)) (by rw [← e1]; exact rS_row _ _ (by omega)) (congrArg Value.int ?_)
    refine ((part_eq (f := fun t b => ansC σ 0 (nI b) 0 (nI t)) (g := σ1.1 80) (a := tlA (σ.1 74)) (n := P) (cand := seenM (σ.1 74) P S) 31 (fun t ht p hp hb => ?_)).1).symm
    have hpP : p < P := ((hasI_mk (f := fun p => allB (seenB (σ.1 74) p) S) (by omega) (by omega)).mp hb).1
    obtain ⟨a1, a2, -, -⟩ := hT.at town_now hpP
    have a1 : xat σ 3 (nI p) = σ.1 74 (26 + p) := a1
    have a2 : xat σ 4 (nI p) = σ.1 74 (33 + p) := a2
    have s9 := (hT.1.2.2.2.1 p hpP).2.2
    rw [rwM, tmF, if_pos hpP, tlA, ans_0, a1, a2]
    exact good_eq _ s9 ⟨t, by omega, rfl⟩
theorem b_look {E : xE} {σ : xS} {p : Int32} (h : Inv σ σ) : Both E yX5_look cX5_look 2 (some .int) yX6_look cX6_look 7 (some .int) [.int p] σ := by
  obtain ⟨P, H, B, U, S, N, M, hx⟩ := h.x
  have hT := hx.1
  have hP := hx.1.1.1
  have hN := hx.2.2.2.1
  have hc := c_X5_look 3 (E := E) (p := p) hN.1 hN.2.2.1
  by_cases q1 : hasIn (σ.1 2 7) p
  · obtain ⟨p', hp, rfl⟩ := hasIn_nI (by omega) (hP.1 ▸ q1)
    rw [lookQ, if_pos q1, kind_eq hN] at hc
    have hlz : kindP (σ.1 74) (nI p') N ≤ 0 ↔ kindP (σ.1 74) (nI p') N = 0 := mk6_le _
    by_cases q : kindP (σ.1 74) (nI p') N = 0
    · rw [bpQ, if_pos q] at hc
      have hr := c_X6_look 6 (E := E) (p := p') hN.2.1 hN.2.2.1 (by rw [hP.2.1, ← hP.1]; exact q1) (by omega)
      rw [mLook, if_pos (hlz.mpr q)] at hr
      exact b_q h hc hr rfl
    · rw [bpQ, if_neg q] at hc
      simp only [Nat.reduceAdd] at hc
      obtain ⟨σ1, e1⟩ : ∃ σ1, σ1 = ansR σ 1 (xat σ 4 (nI p')) 61 0 := ⟨_, rfl⟩
      have e74 : σ1.1 74 = σ.1 74 := by rw [e1]; exact ansR_f (by decide)
      have hr := c_X6_look 6 (E := E) (σ := σ1) (N := N) (p := p') (by rw [e74]; exact hN.2.1) hN.2.2.1 (by rw [e74, hP.2.1, ← hP.1]; exact q1) (by omega)
      rw [mLook, e74, if_neg (fun z => q (hlz.mp z))] at hr
      dsimp only at hr
      refine b_same h hc (by rw [← e1]; exact hr) (cFr_ans _ _ _ _ _) (cS_ans _ _ _ _ _) (by rw [← e1]; exact (rFr.rf _).row (by omega)) (by rw [← e1]; exact rS_row _ _ (by omega)) (congrArg Value.int ?_)
      refine ((part_eq (f := fun t b => ansC σ 1 (nI b) (xat σ 4 (nI p')) (nI t)) (g := σ1.1 80) (a := fun t k => goodM (nI k) (σ.1 74 (33 + p')) (nI t)) (n := 6) (cand := kindP (σ.1 74) (nI p') N) 61 (fun t ht k hk hb => ?_)).1).symm
      have hk6 : k < 6 := ((hasI_mk (f := fun i => allB (knB (σ.1 74) (nI p') (nI i)) N) (n := 6) (by omega) (by omega)).mp hb).1
      obtain ⟨-, a2, -, -⟩ := hT.at town_now hp
      have a2 : xat σ 4 (nI p') = σ.1 74 (33 + p') := a2
      have s9 := (hT.1.2.2.2.1 p' hp).2.2
      rw [rwM, tmF, if_pos hk6, ans_1, a2]
      exact good_eq _ s9 ⟨t, by omega, rfl⟩
  · rw [lookQ, if_neg q1] at hc
    refine b_bad h hc (c_X6_look_bad 6 (fun z => q1 ?_))
    rw [(cFr_bad σ).1 74 (by omega), hP.2.1] at z
    rw [hP.1]; exact z
theorem b_ask {E : xE} {σ : xS} {p : Int32} (h : Inv σ σ) : Both E yX5_ask cX5_ask 2 (some .int) yX6_ask cX6_ask 7 (some .int) [.int p] σ := by
  obtain ⟨P, H, B, U, S, N, M, hx⟩ := h.x
  have hT := hx.1
  have hH := hx.1.1.2.1
  have hM := hx.2.2.2.2
  have hc := c_X5_ask 3 (E := E) (p := p) hM.1 hM.2.2.1
  by_cases q1 : hasIn (σ.1 2 8) p
  · obtain ⟨p', hp, rfl⟩ := hasIn_nI (by omega) (hH.1 ▸ q1)
    rw [askQ, if_pos q1, kinh_eq hM] at hc
    have hlz : kindH (σ.1 74) (nI p') M ≤ 0 ↔ kindH (σ.1 74) (nI p') M = 0 := mk6_le _
    by_cases q : kindH (σ.1 74) (nI p') M = 0
    · rw [bpQ, if_pos q] at hc
      have hr := c_X6_ask 6 (E := E) (p := p') hM.2.1 hM.2.2.1 (by rw [hH.2.1, ← hH.1]; exact q1) (by omega)
      rw [mAsk, if_pos (hlz.mpr q)] at hr
      exact b_q h hc hr rfl
    · rw [bpQ, if_neg q] at hc
      simp only [Nat.reduceAdd] at hc
      obtain ⟨σ1, e1⟩ : ∃ σ1, σ1 = ansR σ 2 (xat σ 8 (nI p')) 31 0 := ⟨_, rfl⟩
      have e74 : σ1.1 74 = σ.1 74 := by rw [e1]; exact ansR_f (by decide)
      have hr := c_X6_ask 6 (E := E) (σ := σ1) (N := M) (p := p') (by rw [e74]; exact hM.2.1) hM.2.2.1 (by rw [e74, hH.2.1, ← hH.1]; exact q1) (by omega)
      rw [mAsk, e74, if_neg (fun z => q (hlz.mp z))] at hr
      dsimp only at hr
      refine b_same h hc (by rw [← e1]; exact hr) (cFr_ans _ _ _ _ _) (cS_ans _ _ _ _ _) (by rw [← e1]; exact (rFr.rf _).row (by omega)) (by rw [← e1]; exact rS_row _ _ (by omega)) (congrArg Value.int ?_)
      refine ((part_eq (f := fun t b => ansC σ 2 (nI b) (xat σ 8 (nI p')) (nI t)) (g := σ1.1 80) (a := fun t k => joyM (nI k) (nI t) (σ.1 74 (44 + p'))) (n := 6) (cand := kindH (σ.1 74) (nI p') M) 31 (fun t ht k hk hb => ?_)).1).symm
      have hk6 : k < 6 := ((hasI_mk (f := fun i => allB (kmB (σ.1 74) (nI p') (nI i)) M) (n := 6) (by omega) (by omega)).mp hb).1
      obtain ⟨-, a2⟩ := hT.ath town_now hp
      have a2 : xat σ 8 (nI p') = σ.1 74 (44 + p') := a2
      have s9 := (hT.1.2.2.2.2 p' hp).2.2
      rw [rwM, tmF, if_pos hk6, ans_2, a2]
      exact joy_eq _ s9 ⟨t, by omega, rfl⟩
  · rw [askQ, if_neg q1] at hc
    refine b_bad h hc (c_X6_ask_bad 6 (fun z => q1 ?_))
    rw [(cFr_bad σ).1 74 (by omega), hH.2.1] at z
    rw [hH.1]; exact z
