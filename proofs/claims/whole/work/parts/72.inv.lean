/-! the relation: hints, shops, all -/
def zE (σ : xS) (i : Nat) (f : Nat → Int32) (S : Nat) : Prop := σ.1 i 2 = nI S ∧ f 3 = nI S ∧ S ≤ 5 ∧ ∀ k, k < S → σ.1 (i + 1) (4 * k) = 0 ∧ σ.1 (i + 1) (4 * k + 2) = f (48 + 2 * k) ∧ σ.1 (i + 1) (4 * k + 3) = f (48 + 2 * k + 1) ∧ Sm 99 (f (48 + 2 * k))
def zN (σ : xS) (i : Nat) (f : Nat → Int32) (c s D N : Nat) : Prop := σ.1 i 2 = nI N ∧ f c = nI N ∧ N ≤ 6 ∧ ∀ k, k < N → (∀ j, j < 4 → σ.1 (i + 1) (4 * k + j) = f (s + 4 * k + j)) ∧ Sm 9 (f (s + 4 * k + 1)) ∧ Sm D (f (s + 4 * k + 2))
def SR (σ : xS) (b : Nat) (f : Nat → Int32) : Prop := ∃ P H B U S N M, zT σ (b + 1) f 9999 P H B ∧ zP σ (b + 9) f P H B U ∧ zE σ (b + 11) f S ∧ zN σ (b + 13) f 4 58 99 N ∧ zN σ (b + 15) f 5 82 30 M
def lenT (i : Nat) : Nat := if i ≤ 4 then 7 else if i ≤ 6 then 4 else 3
theorem zT.mv {σ σ' : xS} {t s : Nat} {f f' : Nat → Int32} {D P H B : Nat} (h : zT σ s f D P H B) (hT : ∀ k, 7 ≤ k → k ≤ 11 → σ'.1 t k = σ.1 s k) (hR : ∀ i, 1 ≤ i → i ≤ 7 → ∀ k, k < lenT i → σ'.1 (t + i) k = σ.1 (s + i) k) (hf : ∀ k, k < 48 → f' k = f k) : zT σ' t f' D P H B := by
  obtain ⟨⟨⟨a1, a2, a3⟩, ⟨b1, b2, b3⟩, ⟨c1, c2, c3⟩, d, e⟩, m⟩ := h
  have r1 := fun k (hk : k < 7) => hR 1 (by omega) (by omega) k hk
  have r2 := fun k (hk : k < 7) => hR 2 (by omega) (by omega) k hk
  have r3 := fun k (hk : k < 7) => hR 3 (by omega) (by omega) k hk
  have r4 := fun k (hk : k < 7) => hR 4 (by omega) (by omega) k hk
  have r5 := fun k (hk : k < 4) => hR 5 (by omega) (by omega) k hk
  have r6 := fun k (hk : k < 4) => hR 6 (by omega) (by omega) k hk
  have r7 := fun k (hk : k < 3) => hR 7 (by omega) (by omega) k hk
  refine ⟨⟨⟨(hT 7 (by omega) (by omega)).trans a1, (hf 0 (by omega)).trans a2, a3⟩, ⟨(hT 8 (by omega) (by omega)).trans b1, (hf 1 (by omega)).trans b2, b3⟩, ⟨(hT 9 (by omega) (by omega)).trans c1, (hf 2 (by omega)).trans c2, c3⟩, fun p hp => ?_, fun k hk => ?_⟩, m.eq a3 c3 ⟨fun p hp => r4 p hp, fun p hp => r3 p hp, fun p hp => r7 p hp, hT 11 (by omega) (by omega), hT 10 (by omega) (by omega)⟩ (mt5_eq (fun k hk => hf k (by omega)))⟩
  · rw [r1 p (by omega), r2 p (by omega), hf (26 + p) (by omega), hf (33 + p) (by omega)]; exact d p hp
  · rw [r5 k (by omega), r6 k (by omega), hf (40 + k) (by omega), hf (44 + k) (by omega)]; exact e k hk
theorem zP.mv {σ σ' : xS} {q r : Nat} {f f' : Nat → Int32} {P H B U : Nat} (h : zP σ r f P H B U) (hP : P ≤ 7) (hB : B ≤ 3) (h1 : σ'.1 q 1 = σ.1 r 1) (hc : ∀ k, k < 152 → σ'.1 (q + 1) k = σ.1 (r + 1) k) (hf : ∀ k, k = 6 ∨ (106 ≤ k ∧ k < 258) → f' k = f k) : zP σ' q f' P H B U := by
  obtain ⟨u1, u2, u3, u4⟩ := h
  exact ⟨h1.trans u1, (hf 6 (by omega)).trans u2, u3, fun u hu => (u4 u hu).eq hP hB (cs5_eq (fun j hj => hc _ (by omega))) (ms5_eq (fun j hj => hf _ (by omega)))⟩
theorem zE.mv {σ σ' : xS} {i j : Nat} {f f' : Nat → Int32} {S : Nat} (h : zE σ j f S) (h1 : σ'.1 i 2 = σ.1 j 2) (hc : ∀ k, k < 20 → σ'.1 (i + 1) k = σ.1 (j + 1) k) (hf : ∀ k, k = 3 ∨ (48 ≤ k ∧ k < 58) → f' k = f k) : zE σ' i f' S := by
  obtain ⟨s1, s2, s3, s4⟩ := h
  refine ⟨h1.trans s1, (hf 3 (by omega)).trans s2, s3, fun k hk => ?_⟩
  rw [hc (4 * k) (by omega), hc (4 * k + 2) (by omega), hc (4 * k + 3) (by omega), hf (48 + 2 * k) (by omega), hf (48 + 2 * k + 1) (by omega)]
  exact s4 k hk
theorem zN.mv {σ σ' : xS} {i j : Nat} {f f' : Nat → Int32} {c s D N : Nat} (h : zN σ j f c s D N) (h1 : σ'.1 i 2 = σ.1 j 2) (hc : ∀ k, k < 24 → σ'.1 (i + 1) k = σ.1 (j + 1) k) (hf : ∀ k, k = c ∨ (s ≤ k ∧ k < s + 24) → f' k = f k) : zN σ' i f' c s D N := by
  obtain ⟨s1, s2, s3, s4⟩ := h
  refine ⟨h1.trans s1, (hf c (by omega)).trans s2, s3, fun k hk => ⟨fun j hj => ?_, ?_⟩⟩
  · rw [hc (4 * k + j) (by omega), hf (s + 4 * k + j) (by omega)]; exact (s4 k hk).1 j hj
  · rw [hf (s + 4 * k + 1) (by omega), hf (s + 4 * k + 2) (by omega)]; exact (s4 k hk).2
theorem SR.mv {σ σ' : xS} {b c : Nat} {f f' : Nat → Int32} (h : SR σ c f) (hT : ∀ k, 7 ≤ k → k ≤ 11 → σ'.1 (b + 1) k = σ.1 (c + 1) k) (hR : ∀ i, 1 ≤ i → i ≤ 7 → ∀ k, k < lenT i → σ'.1 (b + 1 + i) k = σ.1 (c + 1 + i) k) (hp : σ'.1 (b + 9) 1 = σ.1 (c + 9) 1) (hpc : ∀ k, k < 152 → σ'.1 (b + 9 + 1) k = σ.1 (c + 9 + 1) k)
    (e1 : σ'.1 (b + 11) 2 = σ.1 (c + 11) 2) (e2 : ∀ k, k < 20 → σ'.1 (b + 11 + 1) k = σ.1 (c + 11 + 1) k) (n1 : σ'.1 (b + 13) 2 = σ.1 (c + 13) 2) (n2 : ∀ k, k < 24 → σ'.1 (b + 13 + 1) k = σ.1 (c + 13 + 1) k) (m1 : σ'.1 (b + 15) 2 = σ.1 (c + 15) 2) (m2 : ∀ k, k < 24 → σ'.1 (b + 15 + 1) k = σ.1 (c + 15 + 1) k) (hf : ∀ k, k < 258 → f' k = f k) : SR σ' b f' := by
  obtain ⟨P, H, B, U, S, N, M, t, p, e, n, m⟩ := h
  exact ⟨P, H, B, U, S, N, M, t.mv hT hR (fun k hk => hf k (by omega)), p.mv t.1.1.2.2 t.1.2.2.1.2.2 hp hpc (fun k hk => hf k (by omega)), e.mv e1 e2 (fun k hk => hf k (by omega)), n.mv n1 n2 (fun k hk => hf k (by omega)), m.mv m1 m2 (fun k hk => hf k (by omega))⟩
theorem SR.o {σ σ' : xS} {b : Nat} {f f' : Nat → Int32} (h : SR σ b f) (hc : ∀ i, b < i → i ≤ b + 16 → σ'.1 i = σ.1 i) (hf : ∀ k, k < 258 → f' k = f k) : SR σ' b f' := by
  refine h.mv ?_ ?_ ?_ ?_ ?_ ?_ ?_ ?_ ?_ ?_ hf
  · intro k _ _; rw [hc _ (by omega) (by omega)]
  · intro i _ _ k _; rw [hc _ (by omega) (by omega)]
  · rw [hc _ (by omega) (by omega)]
  · intro k _; rw [hc _ (by omega) (by omega)]
  · rw [hc _ (by omega) (by omega)]
  · intro k _; rw [hc _ (by omega) (by omega)]
  · rw [hc _ (by omega) (by omega)]
  · intro k _; rw [hc _ (by omega) (by omega)]
  · rw [hc _ (by omega) (by omega)]
  · intro k _; rw [hc _ (by omega) (by omega)]
/-! copies -/
theorem cpRow_at {σ : xS} {r1 r2 b : Nat} (h : b < xlen r1) : (cpRow σ r1 r2).1 r2 b = σ.1 r1 b := by rw [cpRow_1, if_pos rfl, if_pos h]
theorem cpRow_o {σ : xS} {r1 r2 a b : Nat} (h : a ≠ r2) : (cpRow σ r1 r2).1 a b = σ.1 a b := by rw [cpRow_1, if_neg h]
theorem cpF_o {σ : xS} {s t k a b : Nat} (h : a ≠ t ∨ b ≠ k) : (cpF σ s t k).1 a b = σ.1 a b := by rw [cpF_1, if_neg (fun z => h.elim (fun q => q z.1) (fun q => q z.2))]
theorem cpF_s (σ : xS) (s t k : Nat) : (cpF σ s t k).1 t k = σ.1 s k := by rw [cpF_1, if_pos ⟨rfl, rfl⟩]
theorem cpTown_i {σ : xS} {t s : Nat} (hs : TownAt s) (ha : t + 8 ≤ s ∨ s + 8 ≤ t) : ∀ i, 1 ≤ i → i ≤ 7 → ∀ k, k < lenT i → (cpTown σ t s).1 (t + i) k = σ.1 (s + i) k := by
  obtain ⟨-, -, -, -, -, -, -, -, l1, l2, l3, l4, l5, l6, l7⟩ := hs
  intro i h1 h7 k hk
  simp only [cpTown]
  rcases (show i = 1 ∨ i = 2 ∨ i = 3 ∨ i = 4 ∨ i = 5 ∨ i = 6 ∨ i = 7 by omega) with rfl | rfl | rfl | rfl | rfl | rfl | rfl
  all_goals
    (repeat rw [cpF_o (by omega)])
    (repeat rw [cpRow_o (by omega)])
    rw [cpRow_at (by simp [lenT] at hk; omega)]
    (repeat rw [cpRow_o (by omega)])
theorem cpTown_c {σ : xS} {t s : Nat} (ha : t + 8 ≤ s ∨ s + 8 ≤ t) : ∀ k, 7 ≤ k → k ≤ 11 → (cpTown σ t s).1 t k = σ.1 s k := by
  intro k h7 h11
  simp only [cpTown]
  rcases (show k = 7 ∨ k = 8 ∨ k = 9 ∨ k = 10 ∨ k = 11 by omega) with rfl | rfl | rfl | rfl | rfl
  all_goals
    (repeat rw [cpF_o (by omega)])
    rw [cpF_s]
    (repeat rw [cpF_o (by omega)])
    (repeat rw [cpRow_o (by omega)])
theorem cpTown_o {σ : xS} {t s a : Nat} (ha : a < t ∨ t + 8 ≤ a) : (cpTown σ t s).1 a = σ.1 a := by
  funext b
  simp only [cpTown]
  (repeat rw [cpF_o (by omega)])
  (repeat rw [cpRow_o (by omega)])
theorem zT_cp {σ : xS} {t s : Nat} {f : Nat → Int32} {D P H B : Nat} (h : zT σ s f D P H B) (hs : TownAt s) (ha : t + 8 ≤ s ∨ s + 8 ≤ t) : zT (cpTown σ t s) t f D P H B :=
  h.mv (cpTown_c ha) (cpTown_i hs ha) (fun _ _ => rfl)
theorem cpShop_o {σ : xS} {b c a : Nat} (ha : a ≤ b ∨ b + 17 ≤ a) : (cpShop σ b c).1 a = σ.1 a := by
  funext k
  simp only [cpShop]
  (repeat first | rw [cpF_o (by omega)] | rw [cpRow_o (by omega)])
  rw [cpTown_o (by omega)]
theorem SR_cp {σ : xS} {b c : Nat} {f : Nat → Int32} (h : SR σ c f) (hb : ShopAt b) (hc : ShopAt c) (ha : b + 17 ≤ c ∨ c + 17 ≤ b) : SR (cpShop σ b c) b f := by
  obtain ⟨-, t0, ⟨-, -, p1⟩, -, -, -, l1, l2, l3⟩ := hc
  refine h.mv ?_ ?_ ?_ ?_ ?_ ?_ ?_ ?_ ?_ ?_ (fun _ _ => rfl)
  · intro k h7 h11
    simp only [cpShop]
    (repeat first | rw [cpF_o (by omega)] | rw [cpRow_o (by omega)])
    exact cpTown_c (by omega) k h7 h11
  · intro i h1 h7 k hk
    simp only [cpShop]
    (repeat first | rw [cpF_o (by omega)] | rw [cpRow_o (by omega)])
    exact cpTown_i t0 (by omega) i h1 h7 k hk
  · simp only [cpShop]
    (repeat first | rw [cpF_o (by omega)] | rw [cpRow_o (by omega)])
    rw [cpF_s, cpRow_o (by omega), cpTown_o (by omega)]
  · intro k hk
    simp only [cpShop]
    (repeat first | rw [cpF_o (by omega)] | rw [cpRow_o (by omega)])
    rw [cpRow_at (by rw [show c + 10 = c + 9 + 1 by omega, p1]; exact hk), cpTown_o (by omega)]
  · simp only [cpShop]
    (repeat first | rw [cpF_o (by omega)] | rw [cpRow_o (by omega)])
    rw [cpF_s]
    (repeat first | rw [cpF_o (by omega)] | rw [cpRow_o (by omega)])
    rw [cpTown_o (by omega)]
  · intro k hk
    simp only [cpShop]
    (repeat first | rw [cpF_o (by omega)] | rw [cpRow_o (by omega)])
    rw [cpRow_at (by rw [l1]; exact hk)]
    (repeat first | rw [cpF_o (by omega)] | rw [cpRow_o (by omega)])
    rw [cpTown_o (by omega)]
  · simp only [cpShop]
    (repeat first | rw [cpF_o (by omega)] | rw [cpRow_o (by omega)])
    rw [cpF_s]
    (repeat first | rw [cpF_o (by omega)] | rw [cpRow_o (by omega)])
    rw [cpTown_o (by omega)]
  · intro k hk
    simp only [cpShop]
    (repeat first | rw [cpF_o (by omega)] | rw [cpRow_o (by omega)])
    rw [cpRow_at (by rw [l2]; exact hk)]
    (repeat first | rw [cpF_o (by omega)] | rw [cpRow_o (by omega)])
    rw [cpTown_o (by omega)]
  · simp only [cpShop]
    rw [cpF_s]
    (repeat first | rw [cpF_o (by omega)] | rw [cpRow_o (by omega)])
    rw [cpTown_o (by omega)]
  · intro k hk
    simp only [cpShop]
    rw [cpF_o (by omega), cpRow_at (by rw [l3]; exact hk)]
    (repeat first | rw [cpF_o (by omega)] | rw [cpRow_o (by omega)])
    rw [cpTown_o (by omega)]
/-! all of class (σ) and reference (ρ) -/
def Inv (σ ρ : xS) : Prop := SR σ 1 (ρ.1 74) ∧ (ρ.1 76 0 = σ.1 18 5 ∧ (¬ σ.1 18 5 = 0 → SR σ 18 (ρ.1 75))) ∧ (ρ.1 76 1 = σ.1 35 5 ∧ (¬ σ.1 35 5 = 0 → SR σ 35 (fun k => ρ.1 75 (258 + k)))) ∧ (σ.1 53 = ρ.1 82 ∧ ∃ L, L ≤ 150 ∧ σ.1 52 2 = nI L ∧ ρ.1 73 11 = nI L) ∧
  (σ.2 0 8 = ρ.2 73 4 ∧ σ.2 0 9 = ρ.2 73 5) ∧ (σ.1 0 10 = ρ.1 77 0 ∧ σ.1 0 11 = ρ.1 77 1 ∧ σ.1 0 12 = ρ.1 77 2) ∧ (σ.1 12 0 = 5 ∧ σ.1 14 0 = 6 ∧ σ.1 16 0 = 6)
/-- what is seen of the class, of the reference, stays -/
def cSame (σ σ' : xS) : Prop := (∀ i, i < 52 → σ'.1 i = σ.1 i) ∧ σ'.1 53 = σ.1 53 ∧ σ'.1 52 2 = σ.1 52 2 ∧ σ'.2 0 = σ.2 0
def rSame (ρ ρ' : xS) : Prop := (∀ i, 74 ≤ i → i ≤ 77 → ρ'.1 i = ρ.1 i) ∧ ρ'.1 82 = ρ.1 82 ∧ ρ'.1 73 11 = ρ.1 73 11 ∧ ρ'.2 73 = ρ.2 73
theorem cSame.rf (σ : xS) : cSame σ σ := ⟨fun _ _ => rfl, rfl, rfl, rfl⟩
theorem rSame.rf (σ : xS) : rSame σ σ := ⟨fun _ _ _ => rfl, rfl, rfl, rfl⟩
theorem Inv.o {σ σ' ρ ρ' : xS} (h : Inv σ ρ) (hc : cSame σ σ') (hr : rSame ρ ρ') : Inv σ' ρ' := by
  obtain ⟨c1, c2, c3, c4⟩ := hc
  obtain ⟨r1, r2, r3, r4⟩ := hr
  obtain ⟨h1, ⟨h2, h3⟩, ⟨h4, h5⟩, ⟨h6, L, h7, h8, h9⟩, ⟨h10, h11⟩, ⟨h12, h13, h14⟩, h15, h16, h17⟩ := h
  rw [Inv, r1 74 (by omega) (by omega), r1 75 (by omega) (by omega), r1 76 (by omega) (by omega), r1 77 (by omega) (by omega), r2, r3, r4, c1 18 (by omega), c1 35 (by omega), c2, c3, c4, c1 0 (by omega), c1 12 (by omega), c1 14 (by omega), c1 16 (by omega)]
  exact ⟨h1.o (fun i _ _ => c1 i (by omega)) (fun _ _ => rfl), ⟨h2, fun z => (h3 z).o (fun i _ _ => c1 i (by omega)) (fun _ _ => rfl)⟩, ⟨h4, fun z => (h5 z).o (fun i _ _ => c1 i (by omega)) (fun _ _ => rfl)⟩, ⟨h6, L, h7, h8, h9⟩, ⟨h10, h11⟩, ⟨h12, h13, h14⟩, h15, h16, h17⟩
/-- only the shop at hand changes -/
theorem Inv.shop {σ σ' ρ ρ' : xS} (h : Inv σ ρ) (hc : ∀ i, (i = 0 ∨ 17 < i ∧ i < 54) → σ'.1 i = σ.1 i) (hc2 : σ'.2 0 = σ.2 0) (hr : ∀ i, 75 ≤ i → i ≤ 77 → ρ'.1 i = ρ.1 i) (hr82 : ρ'.1 82 = ρ.1 82) (hr73 : ρ'.1 73 11 = ρ.1 73 11) (hr2 : ρ'.2 73 = ρ.2 73) (hm : σ'.1 12 0 = 5 ∧ σ'.1 14 0 = 6 ∧ σ'.1 16 0 = 6) (hs : SR σ' 1 (ρ'.1 74)) : Inv σ' ρ' := by
  obtain ⟨h1, ⟨h2, h3⟩, ⟨h4, h5⟩, ⟨h6, L, h7, h8, h9⟩, ⟨h10, h11⟩, ⟨h12, h13, h14⟩, -⟩ := h
  rw [Inv, hr 75 (by omega) (by omega), hr 76 (by omega) (by omega), hr 77 (by omega) (by omega), hr82, hr73, hr2, hc 18 (by omega), hc 35 (by omega), hc 53 (by omega), hc 52 (by omega), hc2, hc 0 (by omega)]
  exact ⟨hs, ⟨h2, fun z => (h3 z).o (fun i _ _ => hc i (by omega)) (fun _ _ => rfl)⟩, ⟨h4, fun z => (h5 z).o (fun i _ _ => hc i (by omega)) (fun _ _ => rfl)⟩, ⟨h6, L, h7, h8, h9⟩, ⟨h10, h11⟩, ⟨h12, h13, h14⟩, hm⟩
/-- a refusal -/
theorem Inv.cnt {σ σ' ρ ρ' : xS} (h : Inv σ ρ) (hc : ∀ i, i ≠ 0 → σ'.1 i = σ.1 i) (hc2 : σ'.2 = σ.2) (hr : ∀ i, i ≠ 77 → ρ'.1 i = ρ.1 i) (hr2 : ρ'.2 = ρ.2) (hs : σ'.1 0 10 = ρ'.1 77 0 ∧ σ'.1 0 11 = ρ'.1 77 1 ∧ σ'.1 0 12 = ρ'.1 77 2) : Inv σ' ρ' := by
  obtain ⟨h1, ⟨h2, h3⟩, ⟨h4, h5⟩, ⟨h6, L, h7, h8, h9⟩, ⟨h10, h11⟩, -, h15, h16, h17⟩ := h
  rw [Inv, hr 74 (by omega), hr 75 (by omega), hr 76 (by omega), hr 82 (by omega), hr 73 (by omega), hr2, hc 18 (by omega), hc 35 (by omega), hc 53 (by omega), hc 52 (by omega), hc2, hc 12 (by omega), hc 14 (by omega), hc 16 (by omega)]
  exact ⟨h1.o (fun i _ _ => hc i (by omega)) (fun _ _ => rfl), ⟨h2, fun z => (h3 z).o (fun i _ _ => hc i (by omega)) (fun _ _ => rfl)⟩, ⟨h4, fun z => (h5 z).o (fun i _ _ => hc i (by omega)) (fun _ _ => rfl)⟩, ⟨h6, L, h7, h8, h9⟩, ⟨h10, h11⟩, hs, h15, h16, h17⟩
theorem xu_f {σ : xS} {i k a : Nat} {v : Int32} (h : a ≠ i) : (xu σ i k v).1 a = σ.1 a := xu_ne σ k v h
theorem Inv.bad {σ ρ : xS} (h : Inv σ ρ) : Inv (badS σ) (mBad ρ) := by
  obtain ⟨s1, s2, s3⟩ := h.2.2.2.2.2.1
  refine h.cnt (fun i hi => xu_f hi) rfl (fun i hi => xrow_ne _ _ hi) rfl ⟨?_, ?_, ?_⟩
  · rw [badS, xu_s, mBad, xrow_at, upd_at, s1]
  · rw [badS, xu_o (by omega), mBad, xrow_at, upd_ne _ _ (by omega), s2]
  · rw [badS, xu_o (by omega), mBad, xrow_at, upd_ne _ _ (by omega), s3]
theorem Inv.no {σ ρ : xS} (h : Inv σ ρ) : Inv (noS σ) (mNo ρ) := by
  obtain ⟨s1, s2, s3⟩ := h.2.2.2.2.2.1
  refine h.cnt (fun i hi => xu_f hi) rfl (fun i hi => xrow_ne _ _ hi) rfl ⟨?_, ?_, ?_⟩
  · rw [noS, xu_o (by omega), mNo, xrow_at, upd_ne _ _ (by omega), s1]
  · rw [noS, xu_s, mNo, xrow_at, upd_at, s2]
  · rw [noS, xu_o (by omega), mNo, xrow_at, upd_ne _ _ (by omega), s3]
theorem Inv.full {σ ρ : xS} (h : Inv σ ρ) : Inv (fullS σ) (mFull ρ) := by
  obtain ⟨s1, s2, s3⟩ := h.2.2.2.2.2.1
  refine h.cnt (fun i hi => xu_f hi) rfl (fun i hi => xrow_ne _ _ hi) rfl ⟨?_, ?_, ?_⟩
  · rw [fullS, xu_o (by omega), mFull, xrow_at, upd_ne _ _ (by omega), s1]
  · rw [fullS, xu_o (by omega), mFull, xrow_at, upd_ne _ _ (by omega), s2]
  · rw [fullS, xu_s, mFull, xrow_at, upd_at, s3]
/-! frames: what the class leaves of the reference, the reference of the class -/
def cFr (σ σ' : xS) : Prop := (∀ i, 73 ≤ i → σ'.1 i = σ.1 i) ∧ σ'.2 73 = σ.2 73
def rFr (ρ ρ' : xS) : Prop := (∀ i, i < 73 → ρ'.1 i = ρ.1 i) ∧ ρ'.2 0 = ρ.2 0
theorem cFr.r {σ σ' : xS} (h : cFr σ σ') : rSame σ σ' := ⟨fun i h1 _ => h.1 i (by omega), h.1 82 (by omega), by rw [h.1 73 (by omega)], h.2⟩
theorem rFr.c {σ σ' : xS} (h : rFr σ σ') : cSame σ σ' := ⟨fun i h1 => h.1 i (by omega), h.1 53 (by omega), by rw [h.1 52 (by omega)], h.2⟩
/-- a call of both, one behind the other, in one world -/
theorem Inv.pair {σ σ1 σ2 : xS} (h : Inv σ σ) (hc : cFr σ σ1) (hr : rFr σ1 σ2) (k : Inv σ σ1 → Inv σ1 σ2) : Inv σ2 σ2 :=
  (k (h.o (cSame.rf σ) hc.r)).o hr.c (rSame.rf σ2)
