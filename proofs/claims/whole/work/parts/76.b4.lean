/-! both, call by call: images, hints -/
theorem cqF_in {g r : Nat → Int32} {t s n k : Nat} (h : t ≤ k ∧ k < t + n) : cqF g r t s n k = r (k - t + s) := by rw [cqF, if_pos h]
theorem cqF_out {g r : Nat → Int32} {t s n k : Nat} (h : ¬ (t ≤ k ∧ k < t + n)) : cqF g r t s n k = g k := by rw [cqF, if_neg h]
theorem cFr_cpShop (σ : xS) {b c : Nat} (hb : b + 17 ≤ 73) : cFr σ (cpShop σ b c) := ⟨fun i hi => cpShop_o (by omega), rfl⟩
theorem b_image {E : xE} {σ : xS} {i : Int32} (h : Inv σ σ) : Both E yX5_image cX5_image 3 (some .int) yX6_image cX6_image 3 (some .int) [.int i] σ := by
  have hc := c_X5_image 3 (E := E) (σ := σ) (i := i)
  by_cases q1 : btw i 0 1
  · obtain ⟨k, hk, rfl⟩ := btw_k (n := 1) rfl q1
    rw [imageQ, if_pos q1] at hc
    rcases (show k = 0 ∨ k = 1 by omega) with rfl | rfl
    · rw [show imgId (nI 0) = 18 from rfl] at hc
      obtain ⟨σ1, e1⟩ : ∃ σ1, σ1 = xu (cpShop σ 18 1) 18 5 1 := ⟨_, rfl⟩
      have hc : Ct E 8 yX5_image cX5_image 3 (some .int) [.ref (E.1 0), .int (nI 0)] σ (some (.int 1)) σ1 := by rw [e1]; exact hc
      have cf : cFr σ σ1 := by rw [e1]; exact (cFr_cpShop σ (by omega)).xu (by omega)
      refine mkB h hc (c_X6_image 7 (i := 0) (by omega)) cf (((rFr.rf _).row (by omega)).xu (by omega)) (fun hi => ⟨rfl, ?_⟩)
      have o1 : ∀ i, i < 18 ∨ 35 ≤ i → σ1.1 i = σ.1 i := fun i hi => by rw [e1, xu_f (by omega), cpShop_o (by omega)]
      obtain ⟨i1, ⟨i2, i3⟩, ⟨i4, i5⟩, i6, i10, i12, i15⟩ := hi
      have b1 : ∀ i, 74 ≤ i → i ≠ 75 → i ≠ 76 → (xu (xrow σ1 75 (cqF (σ1.1 75) (σ1.1 74) (258 * 0) 0 258)) 76 0 1).1 i = σ1.1 i := fun i h1 h2 h3 => by rw [xu_f (by omega), xrow_ne _ _ h2]
      have e75 : (xu (xrow σ1 75 (cqF (σ1.1 75) (σ1.1 74) (258 * 0) 0 258)) 76 0 1).1 75 = cqF (σ1.1 75) (σ1.1 74) (258 * 0) 0 258 := by rw [xu_f (by omega), xrow_at]
      have e76 : (xu (xrow σ1 75 (cqF (σ1.1 75) (σ1.1 74) (258 * 0) 0 258)) 76 0 1).1 76 1 = σ1.1 76 1 := by rw [xu_o (by omega), xrow_ne _ _ (by decide)]
      have e73 : (xu (xrow σ1 75 (cqF (σ1.1 75) (σ1.1 74) (258 * 0) 0 258)) 76 0 1).1 73 = σ1.1 73 := by rw [xu_f (by omega), xrow_ne _ _ (by decide)]
      rw [Inv, b1 74 (by omega) (by omega) (by omega), b1 77 (by omega) (by omega) (by omega), b1 82 (by omega) (by omega) (by omega), e75, e76, e73, xu_s, o1 35 (by omega), o1 53 (by omega), o1 52 (by omega), o1 0 (by omega), o1 12 (by omega), o1 14 (by omega), o1 16 (by omega)]
      refine ⟨i1.o (fun i _ _ => o1 i (by omega)) (fun _ _ => rfl), ⟨?_, fun _ => ?_⟩, ⟨i4, fun z => (i5 z).o (fun i _ _ => o1 i (by omega)) (fun k _ => cqF_out (by omega))⟩, i6, ?_, i12, i15⟩
      · rw [e1, xu_s]
      · refine (SR_cp i1 shop_18 shop_1 (by omega)).o (fun i h1 h2 => ?_) (fun k hk => ?_)
        · rw [e1, xu_f (by omega)]
        · rw [cqF_in (by omega), show k - 258 * 0 + 0 = k by omega]
      · rw [e1] at i10 ⊢; exact i10
    · rw [show imgId (nI 1) = 35 from rfl] at hc
      obtain ⟨σ1, e1⟩ : ∃ σ1, σ1 = xu (cpShop σ 35 1) 35 5 1 := ⟨_, rfl⟩
      have hc : Ct E 8 yX5_image cX5_image 3 (some .int) [.ref (E.1 0), .int (nI 1)] σ (some (.int 1)) σ1 := by rw [e1]; exact hc
      have cf : cFr σ σ1 := by rw [e1]; exact (cFr_cpShop σ (by omega)).xu (by omega)
      refine mkB h hc (c_X6_image 7 (i := 1) (by omega)) cf (((rFr.rf _).row (by omega)).xu (by omega)) (fun hi => ⟨rfl, ?_⟩)
      have o1 : ∀ i, i < 35 ∨ 52 ≤ i → σ1.1 i = σ.1 i := fun i hi => by rw [e1, xu_f (by omega), cpShop_o (by omega)]
      obtain ⟨i1, ⟨i2, i3⟩, ⟨i4, i5⟩, i6, i10, i12, i15⟩ := hi
      have b1 : ∀ i, 74 ≤ i → i ≠ 75 → i ≠ 76 → (xu (xrow σ1 75 (cqF (σ1.1 75) (σ1.1 74) (258 * 1) 0 258)) 76 1 1).1 i = σ1.1 i := fun i h1 h2 h3 => by rw [xu_f (by omega), xrow_ne _ _ h2]
      have e75 : (xu (xrow σ1 75 (cqF (σ1.1 75) (σ1.1 74) (258 * 1) 0 258)) 76 1 1).1 75 = cqF (σ1.1 75) (σ1.1 74) (258 * 1) 0 258 := by rw [xu_f (by omega), xrow_at]
      have e76 : (xu (xrow σ1 75 (cqF (σ1.1 75) (σ1.1 74) (258 * 1) 0 258)) 76 1 1).1 76 0 = σ1.1 76 0 := by rw [xu_o (by omega), xrow_ne _ _ (by decide)]
      have e73 : (xu (xrow σ1 75 (cqF (σ1.1 75) (σ1.1 74) (258 * 1) 0 258)) 76 1 1).1 73 = σ1.1 73 := by rw [xu_f (by omega), xrow_ne _ _ (by decide)]
      rw [Inv, b1 74 (by omega) (by omega) (by omega), b1 77 (by omega) (by omega) (by omega), b1 82 (by omega) (by omega) (by omega), e75, e76, e73, xu_s, o1 18 (by omega), o1 53 (by omega), o1 52 (by omega), o1 0 (by omega), o1 12 (by omega), o1 14 (by omega), o1 16 (by omega)]
      refine ⟨i1.o (fun i _ _ => o1 i (by omega)) (fun _ _ => rfl), ⟨i2, fun z => (i3 z).o (fun i _ _ => o1 i (by omega)) (fun k _ => cqF_out (by omega))⟩, ⟨?_, fun _ => ?_⟩, i6, ?_, i12, i15⟩
      · rw [e1, xu_s]
      · refine (SR_cp i1 shop_35 shop_1 (by omega)).o (fun i h1 h2 => ?_) (fun k hk => ?_)
        · rw [e1, xu_f (by omega)]
        · rw [cqF_in (by omega), show 258 + k - 258 * 1 + 0 = k by omega]
      · rw [e1] at i10 ⊢; exact i10
  · rw [imageQ, if_neg q1] at hc
    exact b_bad h hc (c_X6_image_bad 7 q1)
theorem cpShop_h (σ : xS) {c : Nat} : (cpShop σ 1 c).1 12 0 = σ.1 12 0 ∧ (cpShop σ 1 c).1 14 0 = σ.1 14 0 ∧ (cpShop σ 1 c).1 16 0 = σ.1 16 0 := by
  refine ⟨?_, ?_, ?_⟩
  all_goals
    simp only [cpShop]
    (repeat first | rw [cpF_o (by omega)] | rw [cpRow_o (by omega)])
    rw [cpTown_o (by omega)]
theorem b_from {E : xE} {σ : xS} {i : Int32} (h : Inv σ σ) : Both E yX5_from cX5_from 3 (some .int) yX6_from cX6_from 3 (some .int) [.int i] σ := by
  have hc := c_X5_from 3 (E := E) (σ := σ) (i := i)
  by_cases q1 : btw i 0 1
  · obtain ⟨k, hk, rfl⟩ := btw_k (n := 1) rfl q1
    rw [fromQ, if_pos q1] at hc
    rcases (show k = 0 ∨ k = 1 by omega) with rfl | rfl
    · rw [show imgId (nI 0) = 18 from rfl] at hc
      have h76 := h.2.1.1
      by_cases q2 : σ.1 18 5 = 0
      · rw [if_pos q2] at hc
        exact b_no h hc (c_X6_from_no 7 (i := 0) (by omega) (by rw [(cFr_no σ).1 76 (by omega), h76]; exact q2))
      · rw [if_neg q2] at hc
        have cf : cFr σ (cpShop σ 1 18) := cFr_cpShop σ (by omega)
        refine mkB h hc (c_X6_from 7 (i := 0) (by omega) (by rw [cf.1 76 (by omega), h76]; exact q2)) cf ((rFr.rf _).row (by omega)) (fun hi => ⟨rfl, hi.sh (fun i hi => cpShop_o (by omega)) (cpShop_h σ) rfl ?_⟩)
        refine (SR_cp (hi.2.1.2 q2) shop_1 shop_18 (by omega)).o (fun _ _ _ => rfl) (fun k hk => ?_)
        rw [cqF_in (by omega), show k - 0 + 258 * 0 = k by omega]
    · rw [show imgId (nI 1) = 35 from rfl] at hc
      have h76 := h.2.2.1.1
      by_cases q2 : σ.1 35 5 = 0
      · rw [if_pos q2] at hc
        exact b_no h hc (c_X6_from_no 7 (i := 1) (by omega) (by rw [(cFr_no σ).1 76 (by omega), h76]; exact q2))
      · rw [if_neg q2] at hc
        have cf : cFr σ (cpShop σ 1 35) := cFr_cpShop σ (by omega)
        refine mkB h hc (c_X6_from 7 (i := 1) (by omega) (by rw [cf.1 76 (by omega), h76]; exact q2)) cf ((rFr.rf _).row (by omega)) (fun hi => ⟨rfl, hi.sh (fun i hi => cpShop_o (by omega)) (cpShop_h σ) rfl ?_⟩)
        refine (SR_cp (hi.2.2.1.2 q2) shop_1 shop_35 (by omega)).o (fun _ _ _ => rfl) (fun k hk => ?_)
        rw [cqF_in (by omega), show k - 0 + 258 * 1 = 258 + k by omega]
  · rw [fromQ, if_neg q1] at hc
    exact b_bad h hc (c_X6_from_bad 7 q1)
/-! hints that come -/
theorem addH_o (σ : xS) {i n a b : Nat} {w s t v : Int32} (h1 : a ≠ i ∨ b ≠ 2) (h2 : a ≠ i + 1 ∨ b < 4 * n ∨ 4 * n + 4 ≤ b) : (addH σ i n w s t v).1 a b = σ.1 a b := by
  rw [addH]; repeat rw [xu_o (by omega)]
theorem addH_i (σ : xS) (i n : Nat) (w s t v : Int32) : (addH σ i n w s t v).1 i 2 = nI (n + 1) ∧ (addH σ i n w s t v).1 (i + 1) (4 * n) = w ∧ (addH σ i n w s t v).1 (i + 1) (4 * n + 1) = s ∧ (addH σ i n w s t v).1 (i + 1) (4 * n + 2) = t ∧ (addH σ i n w s t v).1 (i + 1) (4 * n + 3) = v := by
  rw [addH]
  refine ⟨by rw [xu_s], ?_, ?_, ?_, ?_⟩
  all_goals
    (repeat rw [xu_o (by omega)])
    rw [xu_s]
theorem cFr_addH (σ : xS) {i n : Nat} {w s t v : Int32} (h : i + 1 < 73) : cFr σ (addH σ i n w s t v) := by
  rw [addH]; repeat (first | exact cFr.rf _ | refine cFr.xu ?_ (by omega))
theorem zN_add {σ : xS} {i : Nat} {f f' : Nat → Int32} {c s D N : Nat} {p v d x : Int32} (h : zN σ i f c s D N) (hN : N < 6) (hv : Sm 9 v) (hd : Sm D d) (hc : f' c = nI (N + 1)) (hn : f' (s + 4 * N) = p ∧ f' (s + 4 * N + 1) = v ∧ f' (s + 4 * N + 2) = d ∧ f' (s + 4 * N + 3) = x) (ho : ∀ k, s ≤ k → k < s + 4 * N → f' k = f k) : zN (addH σ i N p v d x) i f' c s D (N + 1) := by
  obtain ⟨s1, s2, s3, s4⟩ := h
  obtain ⟨a1, a2, a3, a4, a5⟩ := addH_i σ i N p v d x
  obtain ⟨n1, n2, n3, n4⟩ := hn
  refine ⟨a1, hc, by omega, fun k hk => ?_⟩
  by_cases e : k = N
  · subst e
    refine ⟨fun j hj => ?_, by rw [n2]; exact hv, by rw [n3]; exact hd⟩
    rcases (show j = 0 ∨ j = 1 ∨ j = 2 ∨ j = 3 by omega) with rfl | rfl | rfl | rfl
    · exact a2.trans n1.symm
    · exact a3.trans n2.symm
    · exact a4.trans n3.symm
    · exact a5.trans n4.symm
  · obtain ⟨r1, r2, r3⟩ := s4 k (by omega)
    refine ⟨fun j hj => ?_, ?_, ?_⟩
    · rw [addH_o σ (by omega) (by omega), ho (s + 4 * k + j) (by omega) (by omega)]; exact r1 j hj
    · rw [ho (s + 4 * k + 1) (by omega) (by omega)]; exact r2
    · rw [ho (s + 4 * k + 2) (by omega) (by omega)]; exact r3
theorem addH_2 (σ : xS) (i n : Nat) (w s t v : Int32) : (addH σ i n w s t v).2 = σ.2 := rfl
theorem mFour_i (f : Nat → Int32) (k : Nat) (a b c e : Int32) : mFour f k a b c e k = a ∧ mFour f k a b c e (k + 1) = b ∧ mFour f k a b c e (k + 2) = c ∧ mFour f k a b c e (k + 3) = e := by
  rw [mFour]
  refine ⟨?_, ?_, ?_, ?_⟩
  all_goals
    (repeat rw [upd_ne _ _ (by omega)])
    rw [upd_at]
theorem mFour_o (f : Nat → Int32) {k j : Nat} (a b c e : Int32) (h : j < k ∨ k + 4 ≤ j) : mFour f k a b c e j = f j := by
  rw [mFour]
  repeat rw [upd_ne _ _ (by omega)]
theorem b_seen {E : xE} {σ : xS} {d x : Int32} (h : Inv σ σ) : Both E yX5_seen cX5_seen 3 (some .int) yX6_seen cX6_seen 3 (some .int) [.int d, .int x] σ := by
  obtain ⟨P, H, B, U, S, N, M, hx⟩ := h.x
  obtain ⟨hT, hU, hE, hN, hM⟩ := id hx
  have hm := h.2.2.2.2.2.2
  have hc := c_X5_seen 6 (E := E) (a := d) (x := x) hm.1 hE.1 hE.2.2.1
  by_cases q1 : btw d 0 99
  · by_cases q2 : btw x 0 30
    · by_cases q3 : S = 5
      · rw [seenQ, if_pos q1, if_pos q2, if_pos (by omega)] at hc
        have hr := c_X6_seen 7 (E := E) (σ := fullS σ) (S := S) (a := d) (x := x) (by rw [(cFr_full σ).1 74 (by omega)]; exact hE.2.1) hE.2.2.1
        rw [mSeen, if_pos q1, if_pos q2, if_pos q3] at hr
        exact b_full h hc hr
      · rw [seenQ, if_pos q1, if_pos q2, if_neg (by have := hE.2.2.1; omega)] at hc
        obtain ⟨σ1, e1⟩ : ∃ σ1, σ1 = addH σ 12 S 0 0 d x := ⟨_, rfl⟩
        have hc : Ct E 8 yX5_seen cX5_seen 3 (some .int) [.ref (E.1 0), .int d, .int x] σ (some (.int (nI (S + 1)))) σ1 := by rw [e1]; exact hc
        have cf : cFr σ σ1 := by rw [e1]; exact cFr_addH σ (by omega)
        have hr := c_X6_seen 7 (E := E) (σ := σ1) (S := S) (a := d) (x := x) (by rw [cf.1 74 (by omega)]; exact hE.2.1) hE.2.2.1
        rw [mSeen, if_pos q1, if_pos q2, if_neg q3, cf.1 74 (by omega)] at hr
        have hS := hE.2.2.1
        obtain ⟨g, hg⟩ : ∃ g, g = upd (upd (upd (σ.1 74) (48 + 2 * S) d) (48 + 2 * S + 1) x) 3 (nI (S + 1)) := ⟨_, rfl⟩
        rw [← hg] at hr
        have g0 : ∀ k, k ≠ 3 → (k < 48 + 2 * S ∨ 48 + 2 * S + 2 ≤ k) → g k = σ.1 74 k := fun k h1 h2 => by rw [hg]; repeat rw [upd_ne _ _ (by omega)]
        have g1 : g (48 + 2 * S) = d := by rw [hg]; repeat rw [upd_ne _ _ (by omega)]
                                           rw [upd_at]
        have g2 : g (48 + 2 * S + 1) = x := by rw [hg]; repeat rw [upd_ne _ _ (by omega)]
                                               rw [upd_at]
        have g3 : g 3 = nI (S + 1) := by rw [hg, upd_at]
        have o1 : ∀ a, a ≠ 12 → a ≠ 13 → σ1.1 a = σ.1 a := fun a h1 h2 => by funext b; rw [e1]; exact addH_o σ (by omega) (by omega)
        refine mkB h hc hr cf ((rFr.rf _).row (by omega)) (fun hi => ⟨rfl, hi.sh (fun i hi => o1 i (by omega) (by omega)) ⟨by rw [e1]; exact addH_o σ (by omega) (by omega), by rw [o1 14 (by omega) (by omega)], by rw [o1 16 (by omega) (by omega)]⟩ (by rw [e1]; rfl) ?_⟩)
        obtain ⟨a1, a2, a3, a4, a5⟩ := addH_i σ 12 S 0 0 d x
        rw [← e1] at a1 a2 a3 a4 a5
        refine ⟨P, H, B, U, S + 1, N, M, hT.o (fun b => by rw [o1 2 (by omega) (by omega)]) (fun i h1 h2 => o1 i (by omega) (by omega)) (fun k hk => g0 k (by omega) (by omega)), hU.mv hT.1.1.2.2 hT.1.2.2.1.2.2 (by rw [o1 10 (by omega) (by omega)]) (fun k _ => by rw [o1 (10 + 1) (by omega) (by omega)]) (fun k hk => g0 k (by omega) (by omega)), ⟨a1, g3, by omega, fun k hk => ?_⟩, hN.mv (by rw [o1 14 (by omega) (by omega)]) (fun k _ => by rw [o1 (14 + 1) (by omega) (by omega)]) (fun k hk => g0 k (by omega) (by omega)), hM.mv (by rw [o1 16 (by omega) (by omega)]) (fun k _ => by rw [o1 (16 + 1) (by omega) (by omega)]) (fun k hk => g0 k (by omega) (by omega))⟩
        by_cases e : k = S
        · subst e; exact ⟨a2, a4.trans g1.symm, a5.trans g2.symm, by rw [g1]; exact Sm_of rfl q1.1 q1.2⟩
        · have oo : ∀ j, j < 4 * S → σ1.1 (1 + 11 + 1) j = σ.1 13 j := fun j hj => by rw [e1]; exact addH_o σ (by omega) (by omega)
          rw [oo (4 * k) (by omega), oo (4 * k + 2) (by omega), oo (4 * k + 3) (by omega), g0 (48 + 2 * k) (by omega) (by omega), g0 (48 + 2 * k + 1) (by omega) (by omega)]
          exact hE.2.2.2 k (by omega)
    · rw [seenQ, if_pos q1, if_neg q2] at hc
      have hr := c_X6_seen 7 (E := E) (σ := badS σ) (S := S) (a := d) (x := x) (by rw [(cFr_bad σ).1 74 (by omega)]; exact hE.2.1) hE.2.2.1
      rw [mSeen, if_pos q1, if_neg q2] at hr
      exact b_bad h hc hr
  · rw [seenQ, if_neg q1] at hc
    have hr := c_X6_seen 7 (E := E) (σ := badS σ) (S := S) (a := d) (x := x) (by rw [(cFr_bad σ).1 74 (by omega)]; exact hE.2.1) hE.2.2.1
    rw [mSeen, if_neg q1] at hr
    exact b_bad h hc hr
theorem b_note {E : xE} {σ : xS} {p v d x : Int32} (h : Inv σ σ) : Both E yX5_note cX5_note 5 (some .int) yX6_note cX6_note 5 (some .int) [.int p, .int v, .int d, .int x] σ := by
  obtain ⟨P, H, B, U, S, N, M, hx⟩ := h.x
  obtain ⟨hT, hU, hE, hN, hM⟩ := id hx
  have hP := hT.1.1
  have hm := h.2.2.2.2.2.2
  have hc := c_X5_note 6 (E := E) (p := p) (v := v) (a := d) (x := x) hm.2.1 hN.1 hN.2.2.1
  by_cases q : hasIn (σ.1 2 7) p ∧ btw v 1 9 ∧ btw d 0 99 ∧ btw x 0 30
  · obtain ⟨q1, q2, q3, q4⟩ := q
    by_cases q5 : N = 6
    · rw [noteQ, if_pos q1, if_pos q2, if_pos q3, if_pos q4, if_pos (by omega)] at hc
      have hr := c_X6_note 6 (E := E) (σ := fullS σ) (N := N) (p := p) (v := v) (a := d) (x := x) (by rw [(cFr_full σ).1 74 (by omega)]; exact hN.2.1) hN.2.2.1 (by rw [(cFr_full σ).1 74 (by omega), hP.2.1, ← hP.1]; exact q1) q2 q3 q4
      rw [mNote, if_pos q5] at hr
      exact b_full h hc hr
    · rw [noteQ, if_pos q1, if_pos q2, if_pos q3, if_pos q4, if_neg (by have := hN.2.2.1; omega)] at hc
      obtain ⟨σ1, e1⟩ : ∃ σ1, σ1 = addH σ 14 N p v d x := ⟨_, rfl⟩
      have hc : Ct E 8 yX5_note cX5_note 5 (some .int) [.ref (E.1 0), .int p, .int v, .int d, .int x] σ (some (.int (nI (N + 1)))) σ1 := by rw [e1]; exact hc
      have cf : cFr σ σ1 := by rw [e1]; exact cFr_addH σ (by omega)
      have hr := c_X6_note 6 (E := E) (σ := σ1) (N := N) (p := p) (v := v) (a := d) (x := x) (by rw [cf.1 74 (by omega)]; exact hN.2.1) hN.2.2.1 (by rw [cf.1 74 (by omega), hP.2.1, ← hP.1]; exact q1) q2 q3 q4
      rw [mNote, if_neg q5, cf.1 74 (by omega)] at hr
      have hN6 := hN.2.2.1
      obtain ⟨g, hg⟩ : ∃ g, g = upd (mFour (σ.1 74) (58 + 4 * N) p v d x) 4 (nI (N + 1)) := ⟨_, rfl⟩
      rw [← hg] at hr
      have g0 : ∀ k, k ≠ 4 → (k < 58 + 4 * N ∨ 58 + 4 * N + 4 ≤ k) → g k = σ.1 74 k := fun k h1 h2 => by rw [hg, upd_ne _ _ h1]; exact mFour_o _ _ _ _ _ h2
      have g1 : ∀ k, k ≠ 4 → g k = mFour (σ.1 74) (58 + 4 * N) p v d x k := fun k h1 => by rw [hg, upd_ne _ _ h1]
      obtain ⟨m1, m2, m3, m4⟩ := mFour_i (σ.1 74) (58 + 4 * N) p v d x
      have o1 : ∀ a, a ≠ 14 → a ≠ 15 → σ1.1 a = σ.1 a := fun a h1 h2 => by funext b; rw [e1]; exact addH_o σ (by omega) (by omega)
      refine mkB h hc hr cf ((rFr.rf _).row (by omega)) (fun hi => ⟨rfl, hi.sh (fun i hi => o1 i (by omega) (by omega)) ⟨by rw [o1 12 (by omega) (by omega)], by rw [e1]; exact addH_o σ (by omega) (by omega), by rw [o1 16 (by omega) (by omega)]⟩ (by rw [e1]; rfl) ?_⟩)
      refine ⟨P, H, B, U, S, N + 1, M, hT.o (fun b => by rw [o1 2 (by omega) (by omega)]) (fun i h1 h2 => o1 i (by omega) (by omega)) (fun k hk => g0 k (by omega) (by omega)), hU.mv hT.1.1.2.2 hT.1.2.2.1.2.2 (by rw [o1 10 (by omega) (by omega)]) (fun k _ => by rw [o1 (10 + 1) (by omega) (by omega)]) (fun k hk => g0 k (by omega) (by omega)), hE.mv (by rw [o1 12 (by omega) (by omega)]) (fun k _ => by rw [o1 (12 + 1) (by omega) (by omega)]) (fun k hk => g0 k (by omega) (by omega)), ?_, hM.mv (by rw [o1 16 (by omega) (by omega)]) (fun k _ => by rw [o1 (16 + 1) (by omega) (by omega)]) (fun k hk => g0 k (by omega) (by omega))⟩
      rw [e1]
      exact zN_add hN (by omega) (Sm_1 rfl q2) (Sm_of rfl q3.1 q3.2) (by rw [hg, upd_at]) ⟨(g1 _ (by omega)).trans m1, (g1 _ (by omega)).trans m2, (g1 _ (by omega)).trans m3, (g1 _ (by omega)).trans m4⟩ (fun k h1 h2 => g0 k (by omega) (by omega))
  · have e : noteQ σ N p v d x = (-2, badS σ) := by
      rw [noteQ]
      repeat' split
      all_goals first | rfl | exact absurd ⟨‹_›, ‹_›, ‹_›, ‹_›⟩ q
    rw [e] at hc
    refine b_bad h hc (c_X6_note_bad 6 (fun z => q ?_))
    rw [(cFr_bad σ).1 74 (by omega), hP.2.1] at z
    rw [hP.1]; exact z
theorem b_mark {E : xE} {σ : xS} {p v d x : Int32} (h : Inv σ σ) : Both E yX5_mark cX5_mark 5 (some .int) yX6_mark cX6_mark 5 (some .int) [.int p, .int v, .int d, .int x] σ := by
  obtain ⟨P, H, B, U, S, N, M, hx⟩ := h.x
  obtain ⟨hT, hU, hE, hN, hM⟩ := id hx
  have hP := hT.1.2.1
  have hm := h.2.2.2.2.2.2
  have hc := c_X5_mark 6 (E := E) (p := p) (v := v) (a := d) (x := x) hm.2.2 hM.1 hM.2.2.1
  by_cases q : hasIn (σ.1 2 8) p ∧ btw v 1 9 ∧ btw d 0 30 ∧ btw x 0 20
  · obtain ⟨q1, q2, q3, q4⟩ := q
    by_cases q5 : M = 6
    · rw [markQ, if_pos q1, if_pos q2, if_pos q3, if_pos q4, if_pos (by omega)] at hc
      have hr := c_X6_mark 6 (E := E) (σ := fullS σ) (N := M) (p := p) (v := v) (a := d) (x := x) (by rw [(cFr_full σ).1 74 (by omega)]; exact hM.2.1) hM.2.2.1 (by rw [(cFr_full σ).1 74 (by omega), hP.2.1, ← hP.1]; exact q1) q2 q3 q4
      rw [mMark, if_pos q5] at hr
      exact b_full h hc hr
    · rw [markQ, if_pos q1, if_pos q2, if_pos q3, if_pos q4, if_neg (by have := hM.2.2.1; omega)] at hc
      obtain ⟨σ1, e1⟩ : ∃ σ1, σ1 = addH σ 16 M p v d x := ⟨_, rfl⟩
      have hc : Ct E 8 yX5_mark cX5_mark 5 (some .int) [.ref (E.1 0), .int p, .int v, .int d, .int x] σ (some (.int (nI (M + 1)))) σ1 := by rw [e1]; exact hc
      have cf : cFr σ σ1 := by rw [e1]; exact cFr_addH σ (by omega)
      have hr := c_X6_mark 6 (E := E) (σ := σ1) (N := M) (p := p) (v := v) (a := d) (x := x) (by rw [cf.1 74 (by omega)]; exact hM.2.1) hM.2.2.1 (by rw [cf.1 74 (by omega), hP.2.1, ← hP.1]; exact q1) q2 q3 q4
      rw [mMark, if_neg q5, cf.1 74 (by omega)] at hr
      have hN6 := hM.2.2.1
      obtain ⟨g, hg⟩ : ∃ g, g = upd (mFour (σ.1 74) (82 + 4 * M) p v d x) 5 (nI (M + 1)) := ⟨_, rfl⟩
      rw [← hg] at hr
      have g0 : ∀ k, k ≠ 5 → (k < 82 + 4 * M ∨ 82 + 4 * M + 4 ≤ k) → g k = σ.1 74 k := fun k h1 h2 => by rw [hg, upd_ne _ _ h1]; exact mFour_o _ _ _ _ _ h2
      have g1 : ∀ k, k ≠ 5 → g k = mFour (σ.1 74) (82 + 4 * M) p v d x k := fun k h1 => by rw [hg, upd_ne _ _ h1]
      obtain ⟨m1, m2, m3, m4⟩ := mFour_i (σ.1 74) (82 + 4 * M) p v d x
      have o1 : ∀ a, a ≠ 16 → a ≠ 17 → σ1.1 a = σ.1 a := fun a h1 h2 => by funext b; rw [e1]; exact addH_o σ (by omega) (by omega)
      refine mkB h hc hr cf ((rFr.rf _).row (by omega)) (fun hi => ⟨rfl, hi.sh (fun i hi => o1 i (by omega) (by omega)) ⟨by rw [o1 12 (by omega) (by omega)], by rw [o1 14 (by omega) (by omega)], by rw [e1]; exact addH_o σ (by omega) (by omega)⟩ (by rw [e1]; rfl) ?_⟩)
      refine ⟨P, H, B, U, S, N, M + 1, hT.o (fun b => by rw [o1 2 (by omega) (by omega)]) (fun i h1 h2 => o1 i (by omega) (by omega)) (fun k hk => g0 k (by omega) (by omega)), hU.mv hT.1.1.2.2 hT.1.2.2.1.2.2 (by rw [o1 10 (by omega) (by omega)]) (fun k _ => by rw [o1 (10 + 1) (by omega) (by omega)]) (fun k hk => g0 k (by omega) (by omega)), hE.mv (by rw [o1 12 (by omega) (by omega)]) (fun k _ => by rw [o1 (12 + 1) (by omega) (by omega)]) (fun k hk => g0 k (by omega) (by omega)), hN.mv (by rw [o1 14 (by omega) (by omega)]) (fun k _ => by rw [o1 (14 + 1) (by omega) (by omega)]) (fun k hk => g0 k (by omega) (by omega)), ?_⟩
      rw [e1]
      exact zN_add hM (by omega) (Sm_1 rfl q2) (Sm_of rfl q3.1 q3.2) (by rw [hg, upd_at]) ⟨(g1 _ (by omega)).trans m1, (g1 _ (by omega)).trans m2, (g1 _ (by omega)).trans m3, (g1 _ (by omega)).trans m4⟩ (fun k h1 h2 => g0 k (by omega) (by omega))
  · have e : markQ σ M p v d x = (-2, badS σ) := by
      rw [markQ]
      repeat' split
      all_goals first | rfl | exact absurd ⟨‹_›, ‹_›, ‹_›, ‹_›⟩ q
    rw [e] at hc
    refine b_bad h hc (c_X6_mark_bad 6 (fun z => q ?_))
    rw [(cFr_bad σ).1 74 (by omega), hP.2.1] at z
    rw [hP.1]; exact z
theorem b_forget {E : xE} {σ : xS} {w : Int32} (h : Inv σ σ) : Both E yX5_forget cX5_forget 4 (some .int) yX6_forget cX6_forget 3 (some .int) [.int w] σ := by
  obtain ⟨P, H, B, U, S, N, M, hx⟩ := h.x
  obtain ⟨hT, hU, hE, hN, hM⟩ := id hx
  have hc := c_X5_forget 6 (E := E) (σ := σ) (w := w)
  by_cases q1 : btw w 0 2
  · obtain ⟨k, hk, rfl⟩ := btw_k (n := 2) rfl q1
    rw [forgetQ, if_pos q1] at hc
    have hr := c_X6_forget 7 (E := E) (σ := xu σ (hintId (nI k)) 2 0) (k := k) (by omega)
    have common : ∀ i, (i = 12 ∨ i = 14 ∨ i = 16) → hintId (nI k) = i → σ.1 i 2 = σ.1 74 (3 + k) → zE (xu σ i 2 0) 12 (upd (σ.1 74) (3 + k) 0) (if k = 0 then 0 else S) → zN (xu σ i 2 0) 14 (upd (σ.1 74) (3 + k) 0) 4 58 99 (if k = 1 then 0 else N) → zN (xu σ i 2 0) 16 (upd (σ.1 74) (3 + k) 0) 5 82 30 (if k = 2 then 0 else M) → Both E yX5_forget cX5_forget 4 (some .int) yX6_forget cX6_forget 3 (some .int) [.int (nI k)] σ := by
      intro i hi hid hv zE' zN' zM'
      rw [hid] at hc hr
      have cf : cFr σ (xu σ i 2 0) := (cFr.rf _).xu (by omega)
      rw [cf.1 74 (by omega)] at hr
      refine mkB h hc hr cf ((rFr.rf _).row (by omega)) (fun hi' => ⟨congrArg Value.int hv.symm, hi'.sh (fun j hj => xu_f (by omega)) ⟨xu_o (by omega), xu_o (by omega), xu_o (by omega)⟩ rfl ?_⟩)
      exact ⟨P, H, B, U, _, _, _, hT.o (fun b => xu_o (by omega)) (fun j h1 h2 => xu_f (by omega)) (fun j hj => upd_ne _ _ (by omega)), hU.mv hT.1.1.2.2 hT.1.2.2.1.2.2 (xu_o (by omega)) (fun j _ => xu_o (by omega)) (fun j hj => upd_ne _ _ (by omega)), zE', zN', zM'⟩
    rcases (show k = 0 ∨ k = 1 ∨ k = 2 by omega) with rfl | rfl | rfl
    · refine common 12 (by omega) rfl (hE.1.trans hE.2.1.symm) ⟨xu_s _ _ _ _, upd_at _ _ _, Nat.zero_le _, fun k hk => absurd hk (Nat.not_lt_zero k)⟩ (hN.mv (xu_o (by omega)) (fun j _ => xu_o (by omega)) (fun j hj => upd_ne _ _ (by omega))) (hM.mv (xu_o (by omega)) (fun j _ => xu_o (by omega)) (fun j hj => upd_ne _ _ (by omega)))
    · refine common 14 (by omega) rfl (hN.1.trans hN.2.1.symm) (hE.mv (xu_o (by omega)) (fun j _ => xu_o (by omega)) (fun j hj => upd_ne _ _ (by omega))) ⟨xu_s _ _ _ _, upd_at _ _ _, Nat.zero_le _, fun k hk => absurd hk (Nat.not_lt_zero k)⟩ (hM.mv (xu_o (by omega)) (fun j _ => xu_o (by omega)) (fun j hj => upd_ne _ _ (by omega)))
    · refine common 16 (by omega) rfl (hM.1.trans hM.2.1.symm) (hE.mv (xu_o (by omega)) (fun j _ => xu_o (by omega)) (fun j hj => upd_ne _ _ (by omega))) (hN.mv (xu_o (by omega)) (fun j _ => xu_o (by omega)) (fun j hj => upd_ne _ _ (by omega))) ⟨xu_s _ _ _ _, upd_at _ _ _, Nat.zero_le _, fun k hk => absurd hk (Nat.not_lt_zero k)⟩
  · rw [forgetQ, if_neg q1] at hc
    exact b_bad h hc (c_X6_forget_bad 7 q1)
