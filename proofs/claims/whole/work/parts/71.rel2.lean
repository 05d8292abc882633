/-! the relation: buying, keeping, days, what may be undone -/
theorem W_sell {σ : xS} {t : Nat} {f : Nat → Int32} {D P H B b p : Nat} (h : zT σ t f D P H B) (hD : D ≤ 19000) (ht : TownAt t) (hb : b < B) (hp : p < P) (hm : mayF f b p) : zT (xput (xput σ (t + 7) (nI b) (xat σ (t + 7) (nI b) - prB σ t (nI p))) (t + 4) (nI p) (1 + nI b)) t (mGoBuy f b p) D P H B := by
  obtain ⟨h1, h2⟩ := h.pr hD ht hp
  obtain ⟨⟨⟨a1, a2, a3⟩, ⟨b1, b2, b3⟩, ⟨c1, c2, c3⟩, d, e⟩, D0, d0, m0, m1, m2, m3, m4, m5⟩ := h
  obtain ⟨-, -, -, -, -, -, -, -, l1, l2, l3, l4, l5, l6, l7⟩ := ht
  dsimp only [ct5, mt5] at m0 m1 m2 m3 m4 m5
  rw [xat_nI (by omega), xput_nI (by omega), xput_nI (by omega), h1, show (1 : Int32) + nI b = nI (1 + b) from nI_add 1 b]
  obtain ⟨τ, hτ⟩ : ∃ τ, τ = xu (xu σ (t + 7) b (σ.1 (t + 7) b - nI (Cf f p))) (t + 4) p (nI (1 + b)) := ⟨_, rfl⟩
  obtain ⟨g, hg⟩ : ∃ g, g = mGoBuy f b p := ⟨_, rfl⟩
  rw [← hτ, ← hg]
  have cell : ∀ k, τ.1 t k = σ.1 t k := fun k => by rw [hτ]; repeat rw [xu_o (by omega)]
  have rowr : ∀ i, 0 < i → i ≠ 4 → i ≠ 7 → τ.1 (t + i) = σ.1 (t + i) := fun i h0 h4 h7 => by funext k; rw [hτ]; repeat rw [xu_o (by omega)]
  have r4 : ∀ k, k ≠ p → τ.1 (t + 4) k = σ.1 (t + 4) k := fun k hk => by rw [hτ]; repeat rw [xu_o (by omega)]
  have r7 : ∀ k, k ≠ b → τ.1 (t + 7) k = σ.1 (t + 7) k := fun k hk => by rw [hτ]; repeat rw [xu_o (by omega)]
  have w4 : τ.1 (t + 4) p = nI (1 + b) := by rw [hτ, xu_s]
  have w7 : τ.1 (t + 7) b = σ.1 (t + 7) b - nI (Cf f p) := by rw [hτ, xu_o (by omega), xu_s]
  have ml : ∀ j, j ≠ 21 + b → j ≠ 7 + p → g j = f j := fun j q1 q2 => by rw [hg, mGoBuy]; repeat rw [upd_ne _ _ (by omega)]
  have n4 : g (7 + p) = nI (1 + b) := by rw [hg, mGoBuy, upd_at]
  have n7 : g (21 + b) = f (21 + b) - nI (Cf f p) := by rw [hg, mGoBuy, upd_ne _ _ (by omega), upd_at, h2]
  refine ⟨⟨⟨(cell 7).trans a1, (ml 0 (by omega) (by omega)).trans a2, a3⟩, ⟨(cell 8).trans b1, (ml 1 (by omega) (by omega)).trans b2, b3⟩, ⟨(cell 9).trans c1, (ml 2 (by omega) (by omega)).trans c2, c3⟩, fun k hk => ?_, fun k hk => ?_⟩, D0, d0, ?_, ?_, ?_, fun k hk => ?_, fun k hk => ?_, fun k hk => ?_⟩
  · rw [rowr 1 (by omega) (by omega) (by omega), rowr 2 (by omega) (by omega) (by omega), ml (26 + k) (by omega) (by omega), ml (33 + k) (by omega) (by omega)]
    exact d k hk
  · rw [rowr 5 (by omega) (by omega) (by omega), rowr 6 (by omega) (by omega) (by omega), ml (40 + k) (by omega) (by omega), ml (44 + k) (by omega) (by omega)]
    exact e k hk
  · exact (ml 25 (by omega) (by omega)).trans m0
  · dsimp only [ct5, mt5]; rw [cell 10, ml 25 (by omega) (by omega)]; exact m1
  · dsimp only [ct5, mt5]; rw [cell 11, ml 24 (by omega) (by omega)]; exact m2
  · dsimp only [ct5, mt5]
    by_cases q : k = p
    · subst q; rw [w4, n4]; exact ⟨rfl, Or.inr (Or.inl ⟨b, by omega, rfl⟩)⟩
    · rw [r4 k q, ml (7 + k) (by omega) (by omega)]; exact m3 k hk
  · dsimp only [ct5, mt5]; rw [rowr 3 (by omega) (by omega) (by omega), ml (14 + k) (by omega) (by omega)]; exact m4 k hk
  · dsimp only [ct5, mt5]
    by_cases q : k = b
    · subst q
      obtain ⟨p1, v, v1, v2⟩ := m5 k hk
      rw [w7, n7, p1]
      refine ⟨rfl, v - Cf f p, by omega, ?_⟩
      have := hm.2
      rw [h2, v2] at this
      rw [v2, pk_sub]
      rcases Nat.lt_or_ge v (Cf f p) with z | z
      · exact absurd this (nI_ge z (by have := Cf_le f p; omega))
      · exact z
    · rw [r7 k q, ml (21 + k) (by omega) (by omega)]; exact m5 k hk
theorem W_give {σ : xS} {t : Nat} {f : Nat → Int32} {D P H B p h' : Nat} (h : zT σ t f D P H B) (hD : D ≤ 19000) (ht : TownAt t) (hp : p < P) (hh : h' < H) : zT (xput (xu σ t 11 (σ.1 t 11 + jB σ t (nI p) (nI h'))) (t + 4) (nI p) (10 + nI h')) t (mGoKeep f p h') D P H B := by
  obtain ⟨h1, h2⟩ := h.jo hD ht hp hh
  obtain ⟨⟨⟨a1, a2, a3⟩, ⟨b1, b2, b3⟩, ⟨c1, c2, c3⟩, d, e⟩, D0, d0, m0, m1, m2, m3, m4, m5⟩ := h
  obtain ⟨-, -, -, -, -, -, -, -, l1, l2, l3, l4, l5, l6, l7⟩ := ht
  dsimp only [ct5, mt5] at m0 m1 m2 m3 m4 m5
  rw [xput_nI (by omega), h1, show (10 : Int32) + nI h' = nI (10 + h') from nI_add 10 h']
  obtain ⟨τ, hτ⟩ : ∃ τ, τ = xu (xu σ t 11 (σ.1 t 11 + nI (Jf f h' p))) (t + 4) p (nI (10 + h')) := ⟨_, rfl⟩
  obtain ⟨g, hg⟩ : ∃ g, g = mGoKeep f p h' := ⟨_, rfl⟩
  rw [← hτ, ← hg]
  have cell : ∀ k, k ≠ 11 → τ.1 t k = σ.1 t k := fun k hk => by rw [hτ]; repeat rw [xu_o (by omega)]
  have rowr : ∀ i, 0 < i → i ≠ 4 → τ.1 (t + i) = σ.1 (t + i) := fun i h0 h4 => by funext k; rw [hτ]; repeat rw [xu_o (by omega)]
  have r4 : ∀ k, k ≠ p → τ.1 (t + 4) k = σ.1 (t + 4) k := fun k hk => by rw [hτ]; repeat rw [xu_o (by omega)]
  have w4 : τ.1 (t + 4) p = nI (10 + h') := by rw [hτ, xu_s]
  have w11 : τ.1 t 11 = σ.1 t 11 + nI (Jf f h' p) := by rw [hτ, xu_o (by omega), xu_s]
  have ml : ∀ j, j ≠ 24 → j ≠ 7 + p → g j = f j := fun j q1 q2 => by rw [hg, mGoKeep]; repeat rw [upd_ne _ _ (by omega)]
  have n4 : g (7 + p) = nI (10 + h') := by rw [hg, mGoKeep, upd_at]
  have n24 : g 24 = f 24 + nI (Jf f h' p) := by rw [hg, mGoKeep, upd_ne _ _ (by omega), upd_at, h2]
  refine ⟨⟨⟨(cell 7 (by omega)).trans a1, (ml 0 (by omega) (by omega)).trans a2, a3⟩, ⟨(cell 8 (by omega)).trans b1, (ml 1 (by omega) (by omega)).trans b2, b3⟩, ⟨(cell 9 (by omega)).trans c1, (ml 2 (by omega) (by omega)).trans c2, c3⟩, fun k hk => ?_, fun k hk => ?_⟩, D0, d0, ?_, ?_, ?_, fun k hk => ?_, fun k hk => ?_, fun k hk => ?_⟩
  · rw [rowr 1 (by omega) (by omega), rowr 2 (by omega) (by omega), ml (26 + k) (by omega) (by omega), ml (33 + k) (by omega) (by omega)]
    exact d k hk
  · rw [rowr 5 (by omega) (by omega), rowr 6 (by omega) (by omega), ml (40 + k) (by omega) (by omega), ml (44 + k) (by omega) (by omega)]
    exact e k hk
  · exact (ml 25 (by omega) (by omega)).trans m0
  · dsimp only [ct5, mt5]; rw [cell 10 (by omega), ml 25 (by omega) (by omega)]; exact m1
  · dsimp only [ct5, mt5]; rw [w11, n24, m2]
  · dsimp only [ct5, mt5]
    by_cases q : k = p
    · subst q; rw [w4, n4]; exact ⟨rfl, Or.inr (Or.inr ⟨h', hh, rfl⟩)⟩
    · rw [r4 k q, ml (7 + k) (by omega) (by omega)]; exact m3 k hk
  · dsimp only [ct5, mt5]; rw [rowr 3 (by omega) (by omega), ml (14 + k) (by omega) (by omega)]; exact m4 k hk
  · dsimp only [ct5, mt5]; rw [rowr 7 (by omega) (by omega), ml (21 + k) (by omega) (by omega)]; exact m5 k hk
/-- m days on a row -/
def agF (f : Nat → Int32) (P m : Nat) : Nat → Int32 := fun k => if 14 ≤ k ∧ k < 14 + P ∧ f (k - 7) = 0 then f k + nI m else if k = 25 then f 25 + nI m else f k
theorem agF_o (f : Nat → Int32) (P m : Nat) {k : Nat} (hP : P ≤ 7) (h : k < 14 ∨ (21 ≤ k ∧ k ≠ 25)) : agF f P m k = f k := by
  rw [agF, if_neg (by omega), if_neg (by omega)]
theorem agF_25 (f : Nat → Int32) (P m : Nat) (hP : P ≤ 7) : agF f P m 25 = f 25 + nI m := by
  rw [agF, if_neg (by omega), if_pos rfl]
theorem agF_l (f : Nat → Int32) {P m p : Nat} (hp : p < P) (hP : P ≤ 7) : agF f P m (14 + p) = if f (7 + p) = 0 then f (14 + p) + nI m else f (14 + p) := by
  rw [agF, show 14 + p - 7 = 7 + p by omega]
  by_cases q : f (7 + p) = 0
  · rw [if_pos q, if_pos ⟨by omega, by omega, q⟩]
  · rw [if_neg q, if_neg (fun z => q z.2.2), if_neg (by omega)]
theorem W_days {σ : xS} {t : Nat} {f : Nat → Int32} {D D' P H B m : Nat} (h : zT σ t f D P H B) (hm : ∀ D0, f 25 = nI D0 → D0 ≤ D → D0 + m ≤ D') : zT (xu (daysTo σ t P (nI m)) t 10 (σ.1 t 10 + nI m)) t (agF f P m) D' P H B := by
  obtain ⟨⟨⟨a1, a2, a3⟩, ⟨b1, b2, b3⟩, ⟨c1, c2, c3⟩, d, e⟩, D0, d0, m0, m1, m2, m3, m4, m5⟩ := h
  dsimp only [ct5, mt5] at m0 m1 m2 m3 m4 m5
  obtain ⟨τ, hτ⟩ : ∃ τ, τ = xu (daysTo σ t P (nI m)) t 10 (σ.1 t 10 + nI m) := ⟨_, rfl⟩
  rw [← hτ]
  have dt : ∀ a b, a ≠ t + 3 → (daysTo σ t P (nI m)).1 a b = σ.1 a b := fun a b ha => by
    show (if a = t + 3 ∧ b < P ∧ σ.1 (t + 4) b = 0 then _ else _) = _
    rw [if_neg (fun z => ha z.1)]
  have cell : ∀ k, k ≠ 10 → τ.1 t k = σ.1 t k := fun k hk => by rw [hτ, xu_o (by omega), dt t k (by omega)]
  have rowr : ∀ i, 0 < i → i ≠ 3 → τ.1 (t + i) = σ.1 (t + i) := fun i h0 h3 => by funext k; rw [hτ, xu_o (by omega), dt _ k (by omega)]
  have w10 : τ.1 t 10 = σ.1 t 10 + nI m := by rw [hτ, xu_s]
  have w3 : ∀ p, p < P → τ.1 (t + 3) p = if σ.1 (t + 4) p = 0 then σ.1 (t + 3) p + nI m else σ.1 (t + 3) p := fun p hp => by
    rw [hτ, xu_o (by omega)]
    show (if t + 3 = t + 3 ∧ p < P ∧ σ.1 (t + 4) p = 0 then _ else _) = _
    by_cases q : σ.1 (t + 4) p = 0
    · rw [if_pos q, if_pos ⟨rfl, hp, q⟩]
    · rw [if_neg q, if_neg (fun z => q z.2.2)]
  have ml : ∀ j, j < 14 ∨ (21 ≤ j ∧ j ≠ 25) → agF f P m j = f j := fun j hj => agF_o f P m a3 hj
  refine ⟨⟨⟨(cell 7 (by omega)).trans a1, (ml 0 (by omega)).trans a2, a3⟩, ⟨(cell 8 (by omega)).trans b1, (ml 1 (by omega)).trans b2, b3⟩, ⟨(cell 9 (by omega)).trans c1, (ml 2 (by omega)).trans c2, c3⟩, fun k hk => ?_, fun k hk => ?_⟩, D0 + m, hm D0 m0 d0, ?_, ?_, ?_, fun k hk => ?_, fun k hk => ?_, fun k hk => ?_⟩
  · rw [rowr 1 (by omega) (by omega), rowr 2 (by omega) (by omega), ml (26 + k) (by omega), ml (33 + k) (by omega)]
    exact d k hk
  · rw [rowr 5 (by omega) (by omega), rowr 6 (by omega) (by omega), ml (40 + k) (by omega), ml (44 + k) (by omega)]
    exact e k hk
  · show agF f P m 25 = _
    rw [agF_25 f P m a3, m0, nI_add]
  · dsimp only [ct5, mt5]; rw [w10, agF_25 f P m a3, m1]
  · dsimp only [ct5, mt5]; rw [cell 11 (by omega), ml 24 (by omega)]; exact m2
  · dsimp only [ct5, mt5]; rw [rowr 4 (by omega) (by omega), ml (7 + k) (by omega)]; exact m3 k hk
  · dsimp only [ct5, mt5]
    obtain ⟨k1, l, l1, l2⟩ := m4 k hk
    rw [w3 k hk, agF_l f hk a3, (m3 k hk).1, k1]
    refine ⟨rfl, ?_⟩
    split
    · exact ⟨l + m, by omega, by rw [l2, nI_add]⟩
    · exact ⟨l, by omega, l2⟩
  · dsimp only [ct5, mt5]; rw [rowr 7 (by omega) (by omega), ml (21 + k) (by omega)]; exact m5 k hk
theorem mDay_ag (f : Nat → Int32) {P : Nat} (hP : P ≤ 7) : mDay f P = agF f P 1 := by
  funext k
  by_cases e : k = 25
  · subst e; rw [mDay, upd_at, agF_25 f P 1 hP]; rfl
  · rw [mDay, upd_ne _ _ e, ageF, agF, if_neg e]
    by_cases q : 14 ≤ k ∧ k < 14 + P
    · rw [if_pos q]
      by_cases z : f (k - 7) = 0
      · rw [if_pos ⟨q.1, q.2, z⟩, ← b2i_t z]; rfl
      · rw [if_neg (fun y => z y.2.2), ← b2i_f z, Int32.add_zero]
    · rw [if_neg q, if_neg (fun y => q ⟨y.1, y.2.1⟩)]
theorem agF_ag (f : Nat → Int32) {P : Nat} (hP : P ≤ 7) (a b : Nat) : agF (agF f P a) P b = agF f P (a + b) := by
  funext k
  by_cases e : k = 25
  · subst e; rw [agF_25 _ P b hP, agF_25 f P a hP, agF_25 f P (a + b) hP, Int32.add_assoc, nI_add]
  · have u1 : ∀ (g : Nat → Int32) (m : Nat), agF g P m k = if 14 ≤ k ∧ k < 14 + P ∧ g (k - 7) = 0 then g k + nI m else g k := fun g m => by rw [agF, if_neg e]
    rw [u1, u1 f (a + b)]
    by_cases q : 14 ≤ k ∧ k < 14 + P
    · rw [agF_o f P a hP (k := k - 7) (by omega)]
      by_cases z : f (k - 7) = 0
      · rw [if_pos ⟨q.1, q.2, z⟩, if_pos ⟨q.1, q.2, z⟩, u1, if_pos ⟨q.1, q.2, z⟩, Int32.add_assoc, nI_add]
      · rw [if_neg (fun y => z y.2.2), if_neg (fun y => z y.2.2), u1, if_neg (fun y => z y.2.2)]
    · rw [if_neg (fun y => q ⟨y.1, y.2.1⟩), if_neg (fun y => q ⟨y.1, y.2.1⟩), u1, if_neg (fun y => q ⟨y.1, y.2.1⟩)]
theorem agF_0 (f : Nat → Int32) (P : Nat) : agF f P 0 = f := by
  funext k
  have e : ∀ x : Int32, x + nI 0 = x := fun x => Int32.add_zero x
  rw [agF]
  split
  · exact e _
  · split
    · rename_i q; rw [q]; exact e _
    · rfl
theorem mDays_ag {P : Nat} (hP : P ≤ 7) : ∀ (n : Nat) (f : Nat → Int32) (D0 : Nat), f 25 = nI D0 → D0 ≤ 9999 → mDays P n f = agF f P (min n (9999 - D0)) := by
  intro n
  induction n with
  | zero => intro f D0 _ _; rw [Nat.zero_min]; exact (agF_0 f P).symm
  | succ n ih =>
    intro f D0 h1 h2
    rw [mDays]
    by_cases q : D0 < 9999
    · rw [if_pos (show f 25 < 9999 by rw [h1]; exact (show nI D0 < nI 9999 from nI_lt q (by omega))), mDay_ag f hP, ih (agF f P 1) (D0 + 1) (by rw [agF_25 f P 1 hP, h1, nI_add]) (by omega), agF_ag f hP]
      congr 1; omega
    · rw [if_neg (show ¬ f 25 < 9999 by rw [h1]; exact (show ¬ nI D0 < nI 9999 from nI_nlt (by omega) (by omega))), show min (n + 1) (9999 - D0) = 0 by omega]
      exact (agF_0 f P).symm
/-! what may be undone -/
def zP (σ : xS) (q : Nat) (f : Nat → Int32) (P H B U : Nat) : Prop := σ.1 q 1 = nI U ∧ f 6 = nI U ∧ U ≤ 8 ∧ ∀ u, u < U → zM 9999 P H B (cs5 σ (q + 1) u) (ms5 f u)
theorem saveAt_i (σ : xS) (u : Nat) : eq5 (cs5 (saveAt σ u) 11 u) (ct5 σ 2) := by
  refine ⟨fun p hp => ?_, fun p hp => ?_, fun p hp => ?_, ?_, ?_⟩
  · show (saveAt σ u).1 11 (19 * u + p) = σ.1 6 p
    unfold saveAt
    rw [xu_o (by omega), xu_o (by omega), xu_o (by omega), xrow_at, pk_cpy_out (by omega), xrow_at, pk_cpy_out (by omega), xrow_at, pk_cpy_in (by omega) (by omega), show 0 + (19 * u + p - 19 * u) = p by omega]
  · show (saveAt σ u).1 11 (19 * u + 7 + p) = σ.1 5 p
    unfold saveAt
    rw [xu_o (by omega), xu_o (by omega), xu_o (by omega), xrow_at, pk_cpy_out (by omega), xrow_at, pk_cpy_in (by omega) (by omega), show 0 + (19 * u + 7 + p - (19 * u + 7)) = p by omega, xrow_ne _ _ (by decide)]
  · show (saveAt σ u).1 11 (19 * u + 14 + p) = σ.1 9 p
    unfold saveAt
    rw [xu_o (by omega), xu_o (by omega), xu_o (by omega), xrow_at, pk_cpy_in (by omega) (by omega), show 0 + (19 * u + 14 + p - (19 * u + 14)) = p by omega, xrow_ne _ _ (by decide), xrow_ne _ _ (by decide)]
  · show (saveAt σ u).1 11 (19 * u + 17) = σ.1 2 11
    unfold saveAt
    rw [xu_o (by omega), xu_o (by omega), xu_s]
  · show (saveAt σ u).1 11 (19 * u + 18) = σ.1 2 10
    unfold saveAt
    rw [xu_o (by omega), xu_s]
theorem saveAt_o (σ : xS) (u : Nat) {k : Nat} (h : k < 19 * u) : (saveAt σ u).1 11 k = σ.1 11 k := by
  unfold saveAt
  rw [xu_o (by omega), xu_o (by omega), xu_o (by omega), xrow_at, pk_cpy_out (by omega), xrow_at, pk_cpy_out (by omega), xrow_at, pk_cpy_out (by omega)]
theorem putF_i (f : Nat → Int32) (u : Nat) (x : Int32) : eq5 (ms5 (upd (putF f u 19) 6 x) u) (mt5 f) := by
  have key : ∀ j i, j < 19 → i = 106 + 19 * u + j → upd (putF f u 19) 6 x i = f (7 + j) := fun j i hj hi => by
    rw [upd_ne _ _ (by omega), putF, if_pos (by omega), show i - (106 + 19 * u) + 7 = 7 + j by omega]
  refine ⟨fun p hp => key p _ (by omega) rfl, fun p hp => ?_, fun p hp => ?_, key 17 _ (by omega) rfl, key 18 _ (by omega) rfl⟩
  · show upd (putF f u 19) 6 x (106 + 19 * u + 7 + p) = f (14 + p)
    rw [key (7 + p) _ (by omega) (by omega), show 7 + (7 + p) = 14 + p by omega]
  · show upd (putF f u 19) 6 x (106 + 19 * u + 14 + p) = f (21 + p)
    rw [key (14 + p) _ (by omega) (by omega), show 7 + (14 + p) = 21 + p by omega]
theorem ms5_eq {f g : Nat → Int32} {u v : Nat} (h : ∀ j, j < 19 → f (106 + 19 * u + j) = g (106 + 19 * v + j)) : eq5 (ms5 f u) (ms5 g v) := by
  refine ⟨fun p hp => h p (by omega), fun p hp => ?_, fun p hp => ?_, h 17 (by omega), h 18 (by omega)⟩
  · show f (106 + 19 * u + 7 + p) = g (106 + 19 * v + 7 + p)
    rw [show 106 + 19 * u + 7 + p = 106 + 19 * u + (7 + p) by omega, show 106 + 19 * v + 7 + p = 106 + 19 * v + (7 + p) by omega]; exact h (7 + p) (by omega)
  · show f (106 + 19 * u + 14 + p) = g (106 + 19 * v + 14 + p)
    rw [show 106 + 19 * u + 14 + p = 106 + 19 * u + (14 + p) by omega, show 106 + 19 * v + 14 + p = 106 + 19 * v + (14 + p) by omega]; exact h (14 + p) (by omega)
theorem cs5_eq {σ τ : xS} {q r u v : Nat} (h : ∀ j, j < 19 → σ.1 q (19 * u + j) = τ.1 r (19 * v + j)) : eq5 (cs5 σ q u) (cs5 τ r v) := by
  refine ⟨fun p hp => h p (by omega), fun p hp => ?_, fun p hp => ?_, h 17 (by omega), h 18 (by omega)⟩
  · show σ.1 q (19 * u + 7 + p) = τ.1 r (19 * v + 7 + p)
    rw [show 19 * u + 7 + p = 19 * u + (7 + p) by omega, show 19 * v + 7 + p = 19 * v + (7 + p) by omega]; exact h (7 + p) (by omega)
  · show σ.1 q (19 * u + 14 + p) = τ.1 r (19 * v + 14 + p)
    rw [show 19 * u + 14 + p = 19 * u + (14 + p) by omega, show 19 * v + 14 + p = 19 * v + (14 + p) by omega]; exact h (14 + p) (by omega)
theorem W_save {σ : xS} {f : Nat → Int32} {P H B U : Nat} (hT : zT σ 2 f 9999 P H B) (hU : zP σ 10 f P H B U) : zP (saveC σ U) 10 (mSave f U) P H B (if U = 8 then 8 else U + 1) := by
  obtain ⟨u1, u2, u3, u4⟩ := hU
  have hP := hT.1.1.2.2
  have hB := hT.1.2.2.1.2.2
  by_cases q : U = 8
  · subst q
    have e1 : saveC σ 8 = saveAt (xu (xrow σ 11 (va_cpy (σ.1 11) (σ.1 11) 19 0 133)) 10 1 7) 7 := by rw [saveC, if_pos rfl]
    have e2 : mSave f 8 = upd (putF (upd (shF f 133) 6 7) 7 19) 6 8 := by rw [mSave, if_pos rfl]
    rw [if_pos rfl, e1, e2]
    obtain ⟨σ8, h8⟩ : ∃ σ8, σ8 = xu (xrow σ 11 (va_cpy (σ.1 11) (σ.1 11) 19 0 133)) 10 1 7 := ⟨_, rfl⟩
    rw [← h8]
    have e8 : ∀ i, i ≠ 10 → i ≠ 11 → σ8.1 i = σ.1 i := fun i a b => by funext k; rw [h8, xu_o (by omega), xrow_ne _ _ b]
    refine ⟨?_, ?_, by omega, fun u hu => ?_⟩
    · unfold saveAt; rw [xu_s]
    · rw [upd_at]; rfl
    · by_cases z : u = 7
      · subst z
        refine hT.2.eq hP hB ((saveAt_i σ8 7).tr ?_) ((putF_i _ 7 8).tr (mt5_eq (fun k hk => ?_)))
        · exact ct5_eq (e8 5 (by decide) (by decide)) (e8 6 (by decide) (by decide)) (e8 9 (by decide) (by decide)) (by rw [e8 2 (by decide) (by decide)]) (by rw [e8 2 (by decide) (by decide)])
        · rw [upd_ne _ _ (by omega), shF, if_neg (by omega)]
      · refine (u4 (u + 1) (by omega)).eq hP hB (cs5_eq (fun j hj => ?_)) (ms5_eq (fun j hj => ?_))
        · rw [saveAt_o σ8 7 (by omega), h8, xu_o (by omega), xrow_at, pk_cpy_in (by omega) (by omega), show 19 + (19 * u + j - 0) = 19 * (u + 1) + j by omega]
        · rw [upd_ne _ _ (by omega), putF, if_neg (by omega), upd_ne _ _ (by omega), shF, if_pos (by omega), show 106 + 19 * u + j + 19 = 106 + 19 * (u + 1) + j by omega]
  · have e1 : saveC σ U = saveAt σ U := by rw [saveC, if_neg q]
    have e2 : mSave f U = upd (putF f U 19) 6 (nI (U + 1)) := by rw [mSave, if_neg q]
    rw [if_neg q, e1, e2]
    refine ⟨?_, by rw [upd_at], by omega, fun u hu => ?_⟩
    · unfold saveAt; rw [xu_s]
    · by_cases z : u = U
      · subst z
        exact hT.2.eq hP hB (saveAt_i σ u) (putF_i f u _)
      · refine (u4 u (by omega)).eq hP hB (cs5_eq (fun j hj => ?_)) (ms5_eq (fun j hj => ?_))
        · exact saveAt_o σ U (by omega)
        · rw [upd_ne _ _ (by omega), putF, if_neg (by omega)]
theorem backAt_i (σ : xS) (u : Nat) : eq5 (ct5 (backAt σ u) 2) (cs5 σ 11 u) := by
  refine ⟨fun p hp => ?_, fun p hp => ?_, fun p hp => ?_, ?_, ?_⟩
  · show (backAt σ u).1 6 p = σ.1 11 (19 * u + p)
    unfold backAt
    rw [xu_o (by omega), xu_o (by omega), xrow_ne _ _ (by decide), xrow_ne _ _ (by decide), xrow_at, pk_cpy_in (by omega) (by omega), xu_o (by omega), show 19 * u + (p - 0) = 19 * u + p by omega]
  · show (backAt σ u).1 5 p = σ.1 11 (19 * u + 7 + p)
    unfold backAt
    rw [xu_o (by omega), xu_o (by omega), xrow_ne _ _ (by decide), xrow_at, pk_cpy_in (by omega) (by omega), xrow_ne _ _ (by decide), xu_o (by omega), show 19 * u + 7 + (p - 0) = 19 * u + 7 + p by omega]
  · show (backAt σ u).1 9 p = σ.1 11 (19 * u + 14 + p)
    unfold backAt
    rw [xu_o (by omega), xu_o (by omega), xrow_at, pk_cpy_in (by omega) (by omega), xrow_ne _ _ (by decide), xrow_ne _ _ (by decide), xu_o (by omega), show 19 * u + 14 + (p - 0) = 19 * u + 14 + p by omega]
  · show (backAt σ u).1 2 11 = σ.1 11 (19 * u + 17)
    unfold backAt
    rw [xu_o (by omega), xu_s]
  · show (backAt σ u).1 2 10 = σ.1 11 (19 * u + 18)
    unfold backAt
    rw [xu_s]
theorem backAt_o (σ : xS) (u : Nat) {a b : Nat} (h5 : a ≠ 5) (h6 : a ≠ 6) (h9 : a ≠ 9) (h2 : a ≠ 2 ∨ b ≠ 10 ∧ b ≠ 11) (h10 : a ≠ 10 ∨ b ≠ 1) : (backAt σ u).1 a b = σ.1 a b := by
  unfold backAt
  rw [xu_o (by omega), xu_o (by omega), xrow_ne _ _ h9, xrow_ne _ _ h5, xrow_ne _ _ h6, xu_o (by omega)]
theorem mBack_o (f : Nat → Int32) (U : Nat) {k : Nat} (h : k < 6 ∨ k = 26 ∨ 26 ≤ k) : mBack f U k = f k := by
  rw [mBack, backF, if_neg (by omega), upd_ne _ _ (by omega)]
theorem mBack_i (f : Nat → Int32) (u : Nat) : eq5 (mt5 (mBack f (u + 1))) (ms5 f u) := by
  have key : ∀ j i, j < 19 → i = 7 + j → mBack f (u + 1) i = f (106 + 19 * u + j) := fun j i hj hi => by
    rw [mBack, Nat.add_sub_cancel, backF, if_pos (by omega), upd_ne _ _ (by omega), show i - 7 + (106 + 19 * u) = 106 + 19 * u + j by omega]
  refine ⟨fun p hp => key p _ (by omega) rfl, fun p hp => ?_, fun p hp => ?_, key 17 _ (by omega) rfl, key 18 _ (by omega) rfl⟩
  · show mBack f (u + 1) (14 + p) = f (106 + 19 * u + 7 + p)
    rw [key (7 + p) _ (by omega) (by omega), show 106 + 19 * u + (7 + p) = 106 + 19 * u + 7 + p by omega]
  · show mBack f (u + 1) (21 + p) = f (106 + 19 * u + 14 + p)
    rw [key (14 + p) _ (by omega) (by omega), show 106 + 19 * u + (14 + p) = 106 + 19 * u + 14 + p by omega]
theorem W_back {σ : xS} {f : Nat → Int32} {P H B u : Nat} (hS : zS σ 2 f P H B) (hU : zP σ 10 f P H B (u + 1)) : zT (backAt σ u) 2 (mBack f (u + 1)) 9999 P H B ∧ zP (backAt σ u) 10 (mBack f (u + 1)) P H B u := by
  obtain ⟨u1, u2, u3, u4⟩ := hU
  have hP := hS.1.2.2
  have hB := hS.2.2.1.2.2
  have rr : ∀ i, i ≠ 5 → i ≠ 6 → i ≠ 9 → i ≠ 2 → i ≠ 10 → (backAt σ u).1 i = σ.1 i := fun i a b c d e => by funext k; exact backAt_o σ u a b c (by omega) (by omega)
  refine ⟨⟨hS.o (fun b hb => backAt_o σ u (by decide) (by decide) (by decide) (by omega) (by omega)) (rr _ (by decide) (by decide) (by decide) (by decide) (by decide)) (rr _ (by decide) (by decide) (by decide) (by decide) (by decide)) (rr _ (by decide) (by decide) (by decide) (by decide) (by decide)) (rr _ (by decide) (by decide) (by decide) (by decide) (by decide)) (fun k hk => mBack_o f _ (by omega)),
    (u4 u (by omega)).eq hP hB (backAt_i σ u) (mBack_i f u)⟩, ?_, ?_, by omega, fun v hv => ?_⟩
  · unfold backAt
    rw [xu_o (by omega), xu_o (by omega), xrow_ne _ _ (by decide), xrow_ne _ _ (by decide), xrow_ne _ _ (by decide), xu_s]
  · rw [mBack, backF, if_neg (by omega), upd_at, Nat.add_sub_cancel]
  · refine (u4 v (by omega)).eq hP hB (cs5_eq (fun j hj => ?_)) (ms5_eq (fun j hj => ?_))
    · rw [rr 11 (by decide) (by decide) (by decide) (by decide) (by decide)]
    · exact mBack_o f _ (by omega)
