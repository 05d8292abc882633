/-! the relation: a town of the class and a row of the reference -/
theorem xu_o {σ : xS} {i k a b : Nat} {v : Int32} (h : a ≠ i ∨ b ≠ k) : (xu σ i k v).1 a b = σ.1 a b := by
  rw [xu_1, if_neg (fun z => h.elim (fun q => q z.1) (fun q => q z.2))]
theorem xu_s (σ : xS) (i k : Nat) (v : Int32) : (xu σ i k v).1 i k = v := by rw [xu_1, if_pos ⟨rfl, rfl⟩]
/-- where a promise is -/
def PlOK (H : Nat) (x : Int32) : Prop := x = 0 ∨ (∃ b, b < 3 ∧ x = nI (1 + b)) ∨ ∃ h, h < H ∧ x = nI (10 + h)
theorem PlOK.mono {H H' : Nat} {x : Int32} (h : PlOK H x) (hH : H ≤ H') : PlOK H' x := by
  rcases h with h | h | ⟨k, h1, h2⟩
  · exact Or.inl h
  · exact Or.inr (Or.inl h)
  · exact Or.inr (Or.inr ⟨k, by omega, h2⟩)
/-- what days, buying, keeping change: places, lain, purses, joy, the day -/
abbrev V5 : Type := (Nat → Int32) × (Nat → Int32) × (Nat → Int32) × Int32 × Int32
def ct5 (σ : xS) (t : Nat) : V5 := (σ.1 (t + 4), σ.1 (t + 3), σ.1 (t + 7), σ.1 t 11, σ.1 t 10)
def mt5 (f : Nat → Int32) : V5 := (fun p => f (7 + p), fun p => f (14 + p), fun b => f (21 + b), f 24, f 25)
def cs5 (σ : xS) (q u : Nat) : V5 := (fun p => σ.1 q (19 * u + p), fun p => σ.1 q (19 * u + 7 + p), fun b => σ.1 q (19 * u + 14 + b), σ.1 q (19 * u + 17), σ.1 q (19 * u + 18))
def ms5 (f : Nat → Int32) (u : Nat) : V5 := (fun p => f (106 + 19 * u + p), fun p => f (106 + 19 * u + 7 + p), fun b => f (106 + 19 * u + 14 + b), f (106 + 19 * u + 17), f (106 + 19 * u + 18))
def zM (D P H B : Nat) (x y : V5) : Prop := ∃ D0, D0 ≤ D ∧ y.2.2.2.2 = nI D0 ∧ x.2.2.2.2 = y.2.2.2.2 ∧ x.2.2.2.1 = y.2.2.2.1 ∧ (∀ p, p < P → x.1 p = y.1 p ∧ PlOK H (y.1 p)) ∧ (∀ p, p < P → x.2.1 p = y.2.1 p ∧ Sm D0 (y.2.1 p)) ∧ ∀ b, b < B → x.2.2.1 b = y.2.2.1 b ∧ Sm 999 (y.2.2.1 b)
def eq5 (x y : V5) : Prop := (∀ p, p < 7 → x.1 p = y.1 p) ∧ (∀ p, p < 7 → x.2.1 p = y.2.1 p) ∧ (∀ b, b < 3 → x.2.2.1 b = y.2.2.1 b) ∧ x.2.2.2.1 = y.2.2.2.1 ∧ x.2.2.2.2 = y.2.2.2.2
theorem eq5.rf (x : V5) : eq5 x x := ⟨fun _ _ => rfl, fun _ _ => rfl, fun _ _ => rfl, rfl, rfl⟩
theorem eq5.tr {x y z : V5} (h : eq5 x y) (h2 : eq5 y z) : eq5 x z := ⟨fun p hp => (h.1 p hp).trans (h2.1 p hp), fun p hp => (h.2.1 p hp).trans (h2.2.1 p hp), fun p hp => (h.2.2.1 p hp).trans (h2.2.2.1 p hp), h.2.2.2.1.trans h2.2.2.2.1, h.2.2.2.2.trans h2.2.2.2.2⟩
theorem zM.eq {D P H B : Nat} {x y x' y' : V5} (h : zM D P H B x y) (hP : P ≤ 7) (hB : B ≤ 3) (hx : eq5 x' x) (hy : eq5 y' y) : zM D P H B x' y' := by
  obtain ⟨D0, h1, h2, h3, h4, h5, h6, h7⟩ := h
  refine ⟨D0, h1, hy.2.2.2.2.trans h2, by rw [hx.2.2.2.2, hy.2.2.2.2]; exact h3, by rw [hx.2.2.2.1, hy.2.2.2.1]; exact h4, fun p hp => ?_, fun p hp => ?_, fun b hb => ?_⟩
  · rw [hx.1 p (by omega), hy.1 p (by omega)]; exact h5 p hp
  · rw [hx.2.1 p (by omega), hy.2.1 p (by omega)]; exact h6 p hp
  · rw [hx.2.2.1 b (by omega), hy.2.2.1 b (by omega)]; exact h7 b hb
theorem zM.mono {D D' P H B : Nat} {x y : V5} (h : zM D P H B x y) (hD : D ≤ D') : zM D' P H B x y := by
  obtain ⟨D0, h1, h2⟩ := h
  exact ⟨D0, by omega, h2⟩
/-- counts, kinds, worths, hearers -/
def zS (σ : xS) (t : Nat) (f : Nat → Int32) (P H B : Nat) : Prop :=
  (σ.1 t 7 = nI P ∧ f 0 = nI P ∧ P ≤ 7) ∧ (σ.1 t 8 = nI H ∧ f 1 = nI H ∧ H ≤ 4) ∧ (σ.1 t 9 = nI B ∧ f 2 = nI B ∧ B ≤ 3) ∧
  (∀ p, p < P → σ.1 (t + 1) p = f (26 + p) ∧ σ.1 (t + 2) p = f (33 + p) ∧ Sm 9 (f (33 + p))) ∧ (∀ h, h < H → σ.1 (t + 5) h = f (40 + h) ∧ σ.1 (t + 6) h = f (44 + h) ∧ Sm 9 (f (44 + h)))
def zT (σ : xS) (t : Nat) (f : Nat → Int32) (D P H B : Nat) : Prop := zS σ t f P H B ∧ zM D P H B (ct5 σ t) (mt5 f)
theorem zT.mono {σ : xS} {t : Nat} {f : Nat → Int32} {D D' P H B : Nat} (h : zT σ t f D P H B) (hD : D ≤ D') : zT σ t f D' P H B := ⟨h.1, h.2.mono hD⟩
theorem zS.o {σ σ' : xS} {t : Nat} {f f' : Nat → Int32} {P H B : Nat} (h : zS σ t f P H B) (hc : ∀ b, b = 7 ∨ b = 8 ∨ b = 9 → σ'.1 t b = σ.1 t b) (h1 : σ'.1 (t + 1) = σ.1 (t + 1)) (h2 : σ'.1 (t + 2) = σ.1 (t + 2)) (h5 : σ'.1 (t + 5) = σ.1 (t + 5)) (h6 : σ'.1 (t + 6) = σ.1 (t + 6))
    (hf : ∀ k, k < 3 ∨ (26 ≤ k ∧ k < 48) → f' k = f k) : zS σ' t f' P H B := by
  obtain ⟨⟨a1, a2, a3⟩, ⟨b1, b2, b3⟩, ⟨c1, c2, c3⟩, d, e⟩ := h
  refine ⟨⟨(hc 7 (by omega)).trans a1, (hf 0 (by omega)).trans a2, a3⟩, ⟨(hc 8 (by omega)).trans b1, (hf 1 (by omega)).trans b2, b3⟩, ⟨(hc 9 (by omega)).trans c1, (hf 2 (by omega)).trans c2, c3⟩, fun p hp => ?_, fun h hh => ?_⟩
  · rw [h1, h2, hf (26 + p) (by omega), hf (33 + p) (by omega)]; exact d p hp
  · rw [h5, h6, hf (40 + h) (by omega), hf (44 + h) (by omega)]; exact e h hh
theorem mt5_eq {f f' : Nat → Int32} (hf : ∀ k, 7 ≤ k ∧ k < 26 → f' k = f k) : eq5 (mt5 f') (mt5 f) :=
  ⟨fun p hp => hf _ (by omega), fun p hp => hf _ (by omega), fun b hb => hf _ (by omega), hf 24 (by omega), hf 25 (by omega)⟩
theorem ct5_eq {σ σ' : xS} {t : Nat} (h3 : σ'.1 (t + 3) = σ.1 (t + 3)) (h4 : σ'.1 (t + 4) = σ.1 (t + 4)) (h7 : σ'.1 (t + 7) = σ.1 (t + 7)) (h11 : σ'.1 t 11 = σ.1 t 11) (h10 : σ'.1 t 10 = σ.1 t 10) : eq5 (ct5 σ' t) (ct5 σ t) := by
  unfold ct5; rw [h3, h4, h7, h11, h10]; exact eq5.rf _
theorem zT.o {σ σ' : xS} {t : Nat} {f f' : Nat → Int32} {D P H B : Nat} (h : zT σ t f D P H B) (hc : ∀ b, σ'.1 t b = σ.1 t b) (hr : ∀ i, t < i → i ≤ t + 7 → σ'.1 i = σ.1 i) (hf : ∀ k, k < 3 ∨ (7 ≤ k ∧ k < 48) → f' k = f k) : zT σ' t f' D P H B :=
  ⟨h.1.o (fun b _ => hc b) (hr _ (by omega) (by omega)) (hr _ (by omega) (by omega)) (hr _ (by omega) (by omega)) (hr _ (by omega) (by omega)) (fun k hk => hf k (by omega)),
   h.2.eq h.1.1.2.2 h.1.2.2.1.2.2 (ct5_eq (hr _ (by omega) (by omega)) (hr _ (by omega) (by omega)) (hr _ (by omega) (by omega)) (hc 11) (hc 10)) (mt5_eq (fun k hk => hf k (by omega)))⟩
/-! what is asked of a town -/
def gF (f : Nat → Int32) (p m : Nat) : Nat := gN (f (26 + p)) (f (33 + p)).toNatClampNeg ((f (14 + p)).toNatClampNeg + (if f (7 + p) = 0 then m else 0))
def Jf (f : Nat → Int32) (h p : Nat) : Nat := jN (f (40 + h)) (f (44 + h)).toNatClampNeg (gF f p 0)
def Cf (f : Nat → Int32) (p : Nat) : Nat := min 60 (2 * gF f p 0 + 1)
theorem Jf_le (f : Nat → Int32) (h p : Nat) : Jf f h p ≤ 12 := jN_le _ _ _
theorem Cf_le (f : Nat → Int32) (p : Nat) : Cf f p ≤ 60 := Nat.min_le_left _ _
theorem zT.gb {σ : xS} {t : Nat} {f : Nat → Int32} {D P H B : Nat} (h : zT σ t f D P H B) (hD : D ≤ 19000) (ht : TownAt t) {p m : Nat} (hp : p < P) (hm : m ≤ 60) : gB σ t (nI p) (nI m) = nI (gF f p m) ∧ gbF f p (nI m) = nI (gF f p m) ∧ gF f p m ≤ 25 := by
  obtain ⟨⟨⟨a1, a2, a3⟩, -, -, d, -⟩, D0, d0, -, -, -, m1, m2, -⟩ := h
  obtain ⟨-, -, -, -, -, -, -, -, l1, l2, l3, l4, l5, l6, l7⟩ := ht
  obtain ⟨d1, d2, v, v1, v2⟩ := d p hp
  obtain ⟨m1, -⟩ := m1 p hp
  obtain ⟨m2, l, e1, e2⟩ := m2 p hp
  dsimp only [ct5, mt5] at m1 m2 e2
  have ev : (f (33 + p)).toNatClampNeg = v := by rw [v2, nI_clamp (by omega)]
  have el : (f (14 + p)).toNatClampNeg = l := by rw [e2, nI_clamp (by omega)]
  have es : (nI l + if f (7 + p) = 0 then nI m else 0) = nI (l + (if f (7 + p) = 0 then m else 0)) := by
    split
    · exact nI_add _ _
    · exact nI_add l 0
  have hlm : l + (if f (7 + p) = 0 then m else 0) ≤ 20000 := by split <;> omega
  refine ⟨?_, ?_, ?_⟩
  · rw [gB, xat_nI (by omega), xat_nI (by omega), xat_nI (by omega), xat_nI (by omega), d1, d2, m1, m2, gF, ev, el, v2, e2, es]
    exact goodC_N _ v1 hlm
  · rw [gbF, gF, ev, el, v2, e2]
    have : (if f (7 + p) = 0 then nI l + nI m else nI l) = nI (l + (if f (7 + p) = 0 then m else 0)) := by
      rw [← es]; split
      · rfl
      · exact (Int32.add_zero _).symm
    rw [this]
    exact goodM_N _ v1 hlm
  · rw [gF, ev]; exact gN_le _ _ v1
theorem zT.good {σ : xS} {t : Nat} {f : Nat → Int32} {D P H B : Nat} (h : zT σ t f D P H B) (hD : D ≤ 19000) (ht : TownAt t) {p : Nat} (hp : p < P) : gB σ t (nI p) 0 = nI (gF f p 0) ∧ goodF f p = nI (gF f p 0) ∧ gF f p 0 ≤ 25 := by
  obtain ⟨h1, h2, h3⟩ := h.gb hD ht hp (m := 0) (by omega)
  refine ⟨h1, ?_, h3⟩
  rw [← h2, gbF, goodF]
  congr 1
  split
  · exact (Int32.add_zero _).symm
  · rfl
theorem zT.pr {σ : xS} {t : Nat} {f : Nat → Int32} {D P H B : Nat} (h : zT σ t f D P H B) (hD : D ≤ 19000) (ht : TownAt t) {p : Nat} (hp : p < P) : prB σ t (nI p) = nI (Cf f p) ∧ priceF f p = nI (Cf f p) := by
  obtain ⟨h1, h2, h3⟩ := h.good hD ht hp
  have e : (2 : Int32) * nI (gF f p 0) + 1 = nI (Cf f p) := by
    rw [show (2 : Int32) * nI (gF f p 0) = nI (2 * gF f p 0) from pk_mul 2 _, nI_1, Cf, Nat.min_eq_right (by omega)]
  exact ⟨by rw [prB, h1, e], by rw [priceF, h2, e]⟩
theorem zT.jo {σ : xS} {t : Nat} {f : Nat → Int32} {D P H B : Nat} (h : zT σ t f D P H B) (hD : D ≤ 19000) (ht : TownAt t) {p h' : Nat} (hp : p < P) (hh : h' < H) : jB σ t (nI p) (nI h') = nI (Jf f h' p) ∧ joyF f p h' = nI (Jf f h' p) := by
  obtain ⟨h1, h2, h3⟩ := h.good hD ht hp
  obtain ⟨⟨-, ⟨b1, b2, b3⟩, -, -, e⟩, -⟩ := h
  obtain ⟨-, -, -, -, -, -, -, -, l1, l2, l3, l4, l5, l6, l7⟩ := ht
  obtain ⟨e1, e2, w, w1, w2⟩ := e h' hh
  have ew : (f (44 + h')).toNatClampNeg = w := by rw [w2, nI_clamp (by omega)]
  refine ⟨?_, ?_⟩
  · rw [jB, xat_nI (by omega), xat_nI (by omega), e1, e2, h1, Jf, ew, w2]
    exact joyC_N _ w1 (by omega)
  · rw [joyF, h2, Jf, ew, w2]
    exact joyM_N _ w1 (by omega)
/-! what changes a town -/
theorem W_addP {σ : xS} {t : Nat} {f : Nat → Int32} {D P H B : Nat} {k w : Int32} (h : zT σ t f D P H B) (hP : P < 7) (hw : Sm 9 w) : zT (addPr σ t P k w) t (mLay f P k w) D (P + 1) H B := by
  obtain ⟨⟨⟨a1, a2, a3⟩, ⟨b1, b2, b3⟩, ⟨c1, c2, c3⟩, d, e⟩, D0, d0, m0, m1, m2, m3, m4, m5⟩ := h
  dsimp only [ct5, mt5] at m0 m1 m2 m3 m4 m5
  have cell : ∀ b, b ≠ 7 → (addPr σ t P k w).1 t b = σ.1 t b := fun b hb => by
    rw [addPr]; repeat rw [xu_o (by omega)]
  have rowr : ∀ i, 5 ≤ i → (addPr σ t P k w).1 (t + i) = σ.1 (t + i) := fun i hi => by
    funext b; rw [addPr]; repeat rw [xu_o (by omega)]
  have row : ∀ i b, 0 < i → b ≠ P → (addPr σ t P k w).1 (t + i) b = σ.1 (t + i) b := fun i b h0 hb => by
    rw [addPr]; repeat rw [xu_o (by omega)]
  have ml : ∀ j, j ≠ 0 → j ≠ 26 + P → j ≠ 33 + P → j ≠ 7 + P → j ≠ 14 + P → mLay f P k w j = f j := fun j h0 h1 h2 h3 h4 => by
    rw [mLay]; repeat rw [upd_ne _ _ (by omega)]
  have w7 : (addPr σ t P k w).1 t 7 = nI (P + 1) := by rw [addPr, xu_s]
  have w1 : (addPr σ t P k w).1 (t + 1) P = k := by rw [addPr]; repeat rw [xu_o (by omega)]
                                                    rw [xu_s]
  have w2 : (addPr σ t P k w).1 (t + 2) P = w := by rw [addPr]; repeat rw [xu_o (by omega)]
                                                    rw [xu_s]
  have w3 : (addPr σ t P k w).1 (t + 3) P = 0 := by rw [addPr]; repeat rw [xu_o (by omega)]
                                                    rw [xu_s]
  have w4 : (addPr σ t P k w).1 (t + 4) P = 0 := by rw [addPr]; repeat rw [xu_o (by omega)]
                                                    rw [xu_s]
  have n0 : mLay f P k w 0 = nI (P + 1) := by rw [mLay, upd_at]
  have n1 : mLay f P k w (26 + P) = k := by rw [mLay]; repeat rw [upd_ne _ _ (by omega)]
                                            rw [upd_at]
  have n2 : mLay f P k w (33 + P) = w := by rw [mLay]; repeat rw [upd_ne _ _ (by omega)]
                                            rw [upd_at]
  have n3 : mLay f P k w (14 + P) = 0 := by rw [mLay]; repeat rw [upd_ne _ _ (by omega)]
                                            rw [upd_at]
  have n4 : mLay f P k w (7 + P) = 0 := by rw [mLay]; repeat rw [upd_ne _ _ (by omega)]
                                           rw [upd_at]
  refine ⟨⟨⟨w7, n0, by omega⟩, ⟨(cell 8 (by omega)).trans b1, (ml 1 (by omega) (by omega) (by omega) (by omega) (by omega)).trans b2, b3⟩, ⟨(cell 9 (by omega)).trans c1, (ml 2 (by omega) (by omega) (by omega) (by omega) (by omega)).trans c2, c3⟩, fun p hp => ?_, fun h hh => ?_⟩, D0, d0, ?_, ?_, ?_, fun p hp => ?_, fun p hp => ?_, fun b hb => ?_⟩
  · by_cases q : p = P
    · subst q; rw [w1, w2, n1, n2]; exact ⟨rfl, rfl, hw⟩
    · rw [row 1 p (by omega) q, row 2 p (by omega) q, ml (26 + p) (by omega) (by omega) (by omega) (by omega) (by omega), ml (33 + p) (by omega) (by omega) (by omega) (by omega) (by omega)]
      exact d p (by omega)
  · rw [rowr 5 (by omega), rowr 6 (by omega), ml (40 + h) (by omega) (by omega) (by omega) (by omega) (by omega), ml (44 + h) (by omega) (by omega) (by omega) (by omega) (by omega)]
    exact e h hh
  · exact (ml 25 (by omega) (by omega) (by omega) (by omega) (by omega)).trans m0
  · dsimp only [ct5, mt5]; rw [cell 10 (by omega), ml 25 (by omega) (by omega) (by omega) (by omega) (by omega)]; exact m1
  · dsimp only [ct5, mt5]; rw [cell 11 (by omega), ml 24 (by omega) (by omega) (by omega) (by omega) (by omega)]; exact m2
  · dsimp only [ct5, mt5]
    by_cases q : p = P
    · subst q; rw [w4, n4]; exact ⟨rfl, Or.inl rfl⟩
    · rw [row 4 p (by omega) q, ml (7 + p) (by omega) (by omega) (by omega) (by omega) (by omega)]; exact m3 p (by omega)
  · dsimp only [ct5, mt5]
    by_cases q : p = P
    · subst q; rw [w3, n3]; exact ⟨rfl, 0, by omega, rfl⟩
    · rw [row 3 p (by omega) q, ml (14 + p) (by omega) (by omega) (by omega) (by omega) (by omega)]; exact m4 p (by omega)
  · dsimp only [ct5, mt5]; rw [rowr 7 (by omega), ml (21 + b) (by omega) (by omega) (by omega) (by omega) (by omega)]; exact m5 b hb
theorem W_addH {σ : xS} {t : Nat} {f : Nat → Int32} {D P H B : Nat} {k w : Int32} (h : zT σ t f D P H B) (hH : H < 4) (hw : Sm 9 w) : zT (addHe σ t H k w) t (upd (upd (upd f (40 + H) k) (44 + H) w) 1 (nI (H + 1))) D P (H + 1) B := by
  obtain ⟨⟨⟨a1, a2, a3⟩, ⟨b1, b2, b3⟩, ⟨c1, c2, c3⟩, d, e⟩, D0, d0, m0, m1, m2, m3, m4, m5⟩ := h
  dsimp only [ct5, mt5] at m0 m1 m2 m3 m4 m5
  obtain ⟨g, hg⟩ : ∃ g, g = upd (upd (upd f (40 + H) k) (44 + H) w) 1 (nI (H + 1)) := ⟨_, rfl⟩
  have cell : ∀ b, b ≠ 8 → (addHe σ t H k w).1 t b = σ.1 t b := fun b hb => by
    rw [addHe]; repeat rw [xu_o (by omega)]
  have rowr : ∀ i, 0 < i → i ≠ 5 → i ≠ 6 → (addHe σ t H k w).1 (t + i) = σ.1 (t + i) := fun i h0 h5 h6 => by
    funext b; rw [addHe]; repeat rw [xu_o (by omega)]
  have row : ∀ i b, 0 < i → b ≠ H → (addHe σ t H k w).1 (t + i) b = σ.1 (t + i) b := fun i b h0 hb => by
    rw [addHe]; repeat rw [xu_o (by omega)]
  have ml : ∀ j, j ≠ 1 → j ≠ 40 + H → j ≠ 44 + H → g j = f j := fun j h0 h1 h2 => by
    rw [hg]; repeat rw [upd_ne _ _ (by omega)]
  have w8 : (addHe σ t H k w).1 t 8 = nI (H + 1) := by rw [addHe, xu_s]
  have w5 : (addHe σ t H k w).1 (t + 5) H = k := by rw [addHe]; repeat rw [xu_o (by omega)]
                                                    rw [xu_s]
  have w6 : (addHe σ t H k w).1 (t + 6) H = w := by rw [addHe]; repeat rw [xu_o (by omega)]
                                                    rw [xu_s]
  have n0 : g 1 = nI (H + 1) := by rw [hg, upd_at]
  have n1 : g (40 + H) = k := by rw [hg]; repeat rw [upd_ne _ _ (by omega)]
                                 rw [upd_at]
  have n2 : g (44 + H) = w := by rw [hg]; repeat rw [upd_ne _ _ (by omega)]
                                 rw [upd_at]
  rw [← hg]
  refine ⟨⟨⟨(cell 7 (by omega)).trans a1, (ml 0 (by omega) (by omega) (by omega)).trans a2, a3⟩, ⟨w8, n0, by omega⟩, ⟨(cell 9 (by omega)).trans c1, (ml 2 (by omega) (by omega) (by omega)).trans c2, c3⟩, fun p hp => ?_, fun h hh => ?_⟩, D0, d0, ?_, ?_, ?_, fun p hp => ?_, fun p hp => ?_, fun b hb => ?_⟩
  · rw [rowr 1 (by omega) (by omega) (by omega), rowr 2 (by omega) (by omega) (by omega), ml (26 + p) (by omega) (by omega) (by omega), ml (33 + p) (by omega) (by omega) (by omega)]
    exact d p (by omega)
  · by_cases q : h = H
    · subst q; rw [w5, w6, n1, n2]; exact ⟨rfl, rfl, hw⟩
    · rw [row 5 h (by omega) q, row 6 h (by omega) q, ml (40 + h) (by omega) (by omega) (by omega), ml (44 + h) (by omega) (by omega) (by omega)]
      exact e h (by omega)
  · exact (ml 25 (by omega) (by omega) (by omega)).trans m0
  · dsimp only [ct5, mt5]; rw [cell 10 (by omega), ml 25 (by omega) (by omega) (by omega)]; exact m1
  · dsimp only [ct5, mt5]; rw [cell 11 (by omega), ml 24 (by omega) (by omega) (by omega)]; exact m2
  · dsimp only [ct5, mt5]; rw [rowr 4 (by omega) (by omega) (by omega), ml (7 + p) (by omega) (by omega) (by omega)]
    exact ⟨(m3 p hp).1, (m3 p hp).2.mono (by omega)⟩
  · dsimp only [ct5, mt5]; rw [rowr 3 (by omega) (by omega) (by omega), ml (14 + p) (by omega) (by omega) (by omega)]; exact m4 p hp
  · dsimp only [ct5, mt5]; rw [rowr 7 (by omega) (by omega) (by omega), ml (21 + b) (by omega) (by omega) (by omega)]; exact m5 b hb
theorem W_addB {σ : xS} {t : Nat} {f : Nat → Int32} {D P H B : Nat} {k : Int32} (h : zT σ t f D P H B) (hB : B < 3) (hw : Sm 999 k) : zT (addBu σ t B k) t (upd (upd f (21 + B) k) 2 (nI (B + 1))) D P H (B + 1) := by
  obtain ⟨⟨⟨a1, a2, a3⟩, ⟨b1, b2, b3⟩, ⟨c1, c2, c3⟩, d, e⟩, D0, d0, m0, m1, m2, m3, m4, m5⟩ := h
  dsimp only [ct5, mt5] at m0 m1 m2 m3 m4 m5
  obtain ⟨g, hg⟩ : ∃ g, g = upd (upd f (21 + B) k) 2 (nI (B + 1)) := ⟨_, rfl⟩
  have cell : ∀ b, b ≠ 9 → (addBu σ t B k).1 t b = σ.1 t b := fun b hb => by
    rw [addBu]; repeat rw [xu_o (by omega)]
  have rowr : ∀ i, 0 < i → i ≠ 7 → (addBu σ t B k).1 (t + i) = σ.1 (t + i) := fun i h0 h5 => by
    funext b; rw [addBu]; repeat rw [xu_o (by omega)]
  have row : ∀ i b, 0 < i → b ≠ B → (addBu σ t B k).1 (t + i) b = σ.1 (t + i) b := fun i b h0 hb => by
    rw [addBu]; repeat rw [xu_o (by omega)]
  have ml : ∀ j, j ≠ 2 → j ≠ 21 + B → g j = f j := fun j h0 h1 => by
    rw [hg]; repeat rw [upd_ne _ _ (by omega)]
  have w9 : (addBu σ t B k).1 t 9 = nI (B + 1) := by rw [addBu, xu_s]
  have w7 : (addBu σ t B k).1 (t + 7) B = k := by rw [addBu]; repeat rw [xu_o (by omega)]
                                                  rw [xu_s]
  have n0 : g 2 = nI (B + 1) := by rw [hg, upd_at]
  have n1 : g (21 + B) = k := by rw [hg]; repeat rw [upd_ne _ _ (by omega)]
                                 rw [upd_at]
  rw [← hg]
  refine ⟨⟨⟨(cell 7 (by omega)).trans a1, (ml 0 (by omega) (by omega)).trans a2, a3⟩, ⟨(cell 8 (by omega)).trans b1, (ml 1 (by omega) (by omega)).trans b2, b3⟩, ⟨w9, n0, by omega⟩, fun p hp => ?_, fun h hh => ?_⟩, D0, d0, ?_, ?_, ?_, fun p hp => ?_, fun p hp => ?_, fun b hb => ?_⟩
  · rw [rowr 1 (by omega) (by omega), rowr 2 (by omega) (by omega), ml (26 + p) (by omega) (by omega), ml (33 + p) (by omega) (by omega)]
    exact d p (by omega)
  · rw [rowr 5 (by omega) (by omega), rowr 6 (by omega) (by omega), ml (40 + h) (by omega) (by omega), ml (44 + h) (by omega) (by omega)]
    exact e h hh
  · exact (ml 25 (by omega) (by omega)).trans m0
  · dsimp only [ct5, mt5]; rw [cell 10 (by omega), ml 25 (by omega) (by omega)]; exact m1
  · dsimp only [ct5, mt5]; rw [cell 11 (by omega), ml 24 (by omega) (by omega)]; exact m2
  · dsimp only [ct5, mt5]; rw [rowr 4 (by omega) (by omega), ml (7 + p) (by omega) (by omega)]; exact m3 p hp
  · dsimp only [ct5, mt5]; rw [rowr 3 (by omega) (by omega), ml (14 + p) (by omega) (by omega)]; exact m4 p hp
  · dsimp only [ct5, mt5]
    by_cases q : b = B
    · subst q; rw [w7, n1]; exact ⟨rfl, hw⟩
    · rw [row 7 b (by omega) q, ml (21 + b) (by omega) (by omega)]; exact m5 b (by omega)
