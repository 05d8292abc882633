/-! reading as places: what is read of a text from a place on, told alike for both -/
theorem scanI_or (f : Nat → Bool) : ∀ (n k : Nat), (scanI f n k = -1 ∧ ∀ i, i < n → f (k + i) = false) ∨ ∃ i, i < n ∧ f (k + i) = true ∧ (∀ j, j < i → f (k + j) = false) ∧ scanI f n k = nI (k + i) := by
  intro n
  induction n with
  | zero => intro k; exact Or.inl ⟨rfl, fun i h => absurd h (Nat.not_lt_zero i)⟩
  | succ n ih =>
    intro k
    by_cases hk : f k = true
    · exact Or.inr ⟨0, Nat.zero_lt_succ n, hk, fun j h => absurd h (Nat.not_lt_zero j), by rw [scanI, if_pos hk]; rfl⟩
    · have hk' : f k = false := by simpa using hk
      rcases ih (k + 1) with ⟨h1, h2⟩ | ⟨i, h1, h2, h3, h4⟩
      · refine Or.inl ⟨by rw [scanI, if_neg hk]; exact h1, fun i hi => ?_⟩
        cases i with
        | zero => exact hk'
        | succ i => rw [show k + (i + 1) = k + 1 + i by omega]; exact h2 i (by omega)
      · refine Or.inr ⟨i + 1, by omega, by rw [show k + (i + 1) = k + 1 + i by omega]; exact h2, fun j hj => ?_, by rw [scanI, if_neg hk, h4, show k + 1 + i = k + (i + 1) by omega]⟩
        cases j with
        | zero => exact hk'
        | succ j => rw [show k + (j + 1) = k + 1 + j by omega]; exact h3 j (by omega)
/-- word k stands behind place a -/
def aW (T : Nat → Int32) (L a k : Nat) : Prop := tK T L a = 1 ∧ tN T L a - tS T L a = xsLen.getD k 0 ∧ allB (fun i => decide (T (tS T L a + i) = xch k i)) (xsLen.getD k 0) = true
theorem xw_one : ∀ j, j < 7 → ∀ k, k < 7 → xsLen.getD j 0 = xsLen.getD k 0 → xch j 0 = xch k 0 → j = k := by decide +kernel
theorem xsLen_pos : ∀ k, k < 7 → 0 < xsLen.getD k 0 := by decide
theorem aW_one {T : Nat → Int32} {L a j k : Nat} (h1 : aW T L a j) (h2 : aW T L a k) (hj : j < 7) (hk : k < 7) : j = k := by
  have e1 := (allB_iff _ _).mp h1.2.2 0 (xsLen_pos j hj)
  have e2 := (allB_iff _ _).mp h2.2.2 0 (xsLen_pos k hk)
  simp only [decide_eq_true_eq] at e1 e2
  exact xw_one j hj k hk (h1.2.1.symm.trans h2.2.1) (e1.symm.trans e2)
theorem wB_iff {T : Nat → Int32} {L a k : Nat} {t : Int32} (ht : t = tK T L a) : (decide (t = 1) && matchW T (tS T L a) (tN T L a) k) = true ↔ aW T L a k := by
  rw [Bool.and_eq_true, decide_eq_true_eq, matchW, Bool.and_eq_true, decide_eq_true_eq, allB_iff, aW, allB_iff, ht]
  simp only [decide_eq_true_eq]
  constructor
  · rintro ⟨q1, q2, q3⟩; exact ⟨q1, q2.symm, fun i hi => (q3 i hi).symm⟩
  · rintro ⟨q1, q2, q3⟩; exact ⟨q1, q2.symm, fun i hi => (q3 i hi).symm⟩
def aWd (T : Nat → Int32) (L a : Nat) : Int32 := scanI (fun k => decide (tK T L a = 1) && matchW T (tS T L a) (tN T L a) k) 7 0
theorem aWd_or (T : Nat → Int32) (L a : Nat) : (aWd T L a = -1 ∧ ∀ k, k < 7 → ¬ aW T L a k) ∨ ∃ k, k < 7 ∧ aW T L a k ∧ aWd T L a = nI k := by
  rcases scanI_or (fun k => decide (tK T L a = 1) && matchW T (tS T L a) (tN T L a) k) 7 0 with ⟨h1, h2⟩ | ⟨i, h1, h2, -, h4⟩
  · refine Or.inl ⟨h1, fun k hk hw => ?_⟩
    have := h2 k hk
    rw [Nat.zero_add, (wB_iff rfl).mpr hw] at this
    exact Bool.noConfusion this
  · rw [Nat.zero_add] at h2 h4
    exact Or.inr ⟨i, h1, (wB_iff rfl).mp h2, h4⟩
theorem aWd_iff {T : Nat → Int32} {L a k : Nat} (hk : k < 7) : aWd T L a = nI k ↔ aW T L a k := by
  rcases aWd_or T L a with ⟨h1, h2⟩ | ⟨i, h1, h2, h3⟩
  · rw [h1]
    exact ⟨fun h => absurd h.symm (nI_m1 (by omega)), fun h => absurd h (h2 k hk)⟩
  · rw [h3, nI_eq (by omega) (by omega)]
    exact ⟨fun h => h ▸ h2, fun h => aW_one h2 h h1 hk⟩
/-- the number behind place a is one told so -/
abbrev nbA (T : Nat → Int32) (L a : Nat) (lo hi : Int32) : Prop := tK T L a = 2 ∧ btw (tV T L a) lo hi
def aTwo (T : Nat → Int32) (L a1 : Nat) (f : Nat → Int32) (g : Int32 → Int32 → Nat → Int32) : Bool × Nat × (Nat → Int32) :=
  if nbA T L a1 0 5 then (if nbA T L (tN T L a1) 1 9 then (true, tN T L (tN T L a1), g (tV T L a1) (tV T L (tN T L a1))) else (false, tN T L a1, f)) else (false, a1, f)
def aSel (T : Nat → Int32) (L a1 : Nat) (f : Nat → Int32) (P B : Nat) : Bool × Nat × (Nat → Int32) :=
  if nbA T L a1 0 (nI B - 1) then (if nbA T L (tN T L a1) 0 (nI P - 1) ∧ mayF f (tV T L a1).toNatClampNeg (tV T L (tN T L a1)).toNatClampNeg then (true, tN T L (tN T L a1), mGoBuy f (tV T L a1).toNatClampNeg (tV T L (tN T L a1)).toNatClampNeg) else (false, tN T L a1, f)) else (false, a1, f)
def aKee (T : Nat → Int32) (L a1 : Nat) (f : Nat → Int32) (P H : Nat) : Bool × Nat × (Nat → Int32) :=
  if nbA T L a1 0 (nI P - 1) ∧ heldF f (tV T L a1).toNatClampNeg then (if nbA T L (tN T L a1) 0 (nI H - 1) then (true, tN T L (tN T L a1), mGoKeep f (tV T L a1).toNatClampNeg (tV T L (tN T L a1)).toNatClampNeg) else (false, tN T L a1, f)) else (false, a1, f)
def aItem (T : Nat → Int32) (L a : Nat) (f : Nat → Int32) (P H B : Nat) : Bool × Nat × (Nat → Int32) :=
  if aWd T L a = 1 then (if P = 7 then (false, a, f) else aTwo T L (tN T L a) f (fun k w => mLay f P k w))
  else if aWd T L a = 2 then (if H = 4 then (false, a, f) else aTwo T L (tN T L a) f (fun k w => upd (upd (upd f (40 + H) k) (44 + H) w) 1 (nI (H + 1))))
  else if aWd T L a = 3 then (if B = 3 then (false, a, f) else if nbA T L (tN T L a) 0 99 then (true, tN T L (tN T L a), upd (upd f (21 + B) (tV T L (tN T L a))) 2 (nI (B + 1))) else (false, tN T L a, f))
  else if aWd T L a = 4 then aSel T L (tN T L a) f P B
  else if aWd T L a = 5 then aKee T L (tN T L a) f P H
  else if aWd T L a = 6 then (if nbA T L (tN T L a) 1 99 then (true, tN T L (tN T L a), mDays P (tV T L (tN T L a)).toNatClampNeg f) else (false, tN T L a, f))
  else (false, a, f)
theorem aItem_1 {T : Nat → Int32} {L a : Nat} (f : Nat → Int32) (P H B : Nat) (h : aWd T L a = 1) : aItem T L a f P H B = if P = 7 then (false, a, f) else aTwo T L (tN T L a) f (fun k w => mLay f P k w) := by rw [aItem, if_pos h]
theorem aItem_2 {T : Nat → Int32} {L a : Nat} (f : Nat → Int32) (P H B : Nat) (h : aWd T L a = 2) : aItem T L a f P H B = if H = 4 then (false, a, f) else aTwo T L (tN T L a) f (fun k w => upd (upd (upd f (40 + H) k) (44 + H) w) 1 (nI (H + 1))) := by
  rw [aItem, if_neg (by rw [h]; decide), if_pos h]
theorem aItem_3 {T : Nat → Int32} {L a : Nat} (f : Nat → Int32) (P H B : Nat) (h : aWd T L a = 3) : aItem T L a f P H B = if B = 3 then (false, a, f) else if nbA T L (tN T L a) 0 99 then (true, tN T L (tN T L a), upd (upd f (21 + B) (tV T L (tN T L a))) 2 (nI (B + 1))) else (false, tN T L a, f) := by
  rw [aItem, if_neg (by rw [h]; decide), if_neg (by rw [h]; decide), if_pos h]
theorem aItem_4 {T : Nat → Int32} {L a : Nat} (f : Nat → Int32) (P H B : Nat) (h : aWd T L a = 4) : aItem T L a f P H B = aSel T L (tN T L a) f P B := by
  rw [aItem, if_neg (by rw [h]; decide), if_neg (by rw [h]; decide), if_neg (by rw [h]; decide), if_pos h]
theorem aItem_5 {T : Nat → Int32} {L a : Nat} (f : Nat → Int32) (P H B : Nat) (h : aWd T L a = 5) : aItem T L a f P H B = aKee T L (tN T L a) f P H := by
  rw [aItem, if_neg (by rw [h]; decide), if_neg (by rw [h]; decide), if_neg (by rw [h]; decide), if_neg (by rw [h]; decide), if_pos h]
theorem aItem_6 {T : Nat → Int32} {L a : Nat} (f : Nat → Int32) (P H B : Nat) (h : aWd T L a = 6) : aItem T L a f P H B = if nbA T L (tN T L a) 1 99 then (true, tN T L (tN T L a), mDays P (tV T L (tN T L a)).toNatClampNeg f) else (false, tN T L a, f) := by
  rw [aItem, if_neg (by rw [h]; decide), if_neg (by rw [h]; decide), if_neg (by rw [h]; decide), if_neg (by rw [h]; decide), if_neg (by rw [h]; decide), if_pos h]
theorem aItem_n {T : Nat → Int32} {L a : Nat} (f : Nat → Int32) (P H B : Nat) (h : ¬ aWd T L a = 1 ∧ ¬ aWd T L a = 2 ∧ ¬ aWd T L a = 3 ∧ ¬ aWd T L a = 4 ∧ ¬ aWd T L a = 5 ∧ ¬ aWd T L a = 6) : aItem T L a f P H B = (false, a, f) := by
  rw [aItem, if_neg h.1, if_neg h.2.1, if_neg h.2.2.1, if_neg h.2.2.2.1, if_neg h.2.2.2.2.1, if_neg h.2.2.2.2.2]
/-- places only go on, within the text -/
theorem tN_up (T : Nat → Int32) (L a : Nat) : a ≤ tN T L a := Nat.le_trans (tS_ge T L a) (tN_ge T L a)
theorem aTwo_at (T : Nat → Int32) {L a : Nat} (f : Nat → Int32) (g : Int32 → Int32 → Nat → Int32) (ha : a ≤ L) : a ≤ (aTwo T L a f g).2.1 ∧ (aTwo T L a f g).2.1 ≤ L := by
  have h1 := tN_up T L a
  have h2 := tN_up T L (tN T L a)
  have h3 := tN_le T ha
  have h4 := tN_le T h3
  unfold aTwo
  split
  · split
    · exact ⟨by dsimp only; omega, h4⟩
    · exact ⟨h1, h3⟩
  · exact ⟨Nat.le_refl _, ha⟩
theorem aItem_at (T : Nat → Int32) {L a : Nat} (f : Nat → Int32) (P H B : Nat) (ha : a ≤ L) : a ≤ (aItem T L a f P H B).2.1 ∧ (aItem T L a f P H B).2.1 ≤ L := by
  have h1 := tN_up T L a
  have h2 := tN_up T L (tN T L a)
  have h3 := tN_le T ha
  have h4 := tN_le T h3
  have h5 := tN_up T L (tN T L (tN T L a))
  have h6 := tN_le T h4
  have k0 : a ≤ a ∧ a ≤ L := ⟨Nat.le_refl _, ha⟩
  have kn : a ≤ tN T L a ∧ tN T L a ≤ L := ⟨h1, h3⟩
  have kn2 : a ≤ tN T L (tN T L a) ∧ tN T L (tN T L a) ≤ L := ⟨by omega, h4⟩
  have kn3 : a ≤ tN T L (tN T L (tN T L a)) ∧ tN T L (tN T L (tN T L a)) ≤ L := ⟨by omega, h6⟩
  have k2 : ∀ g, a ≤ (aTwo T L (tN T L a) f g).2.1 ∧ (aTwo T L (tN T L a) f g).2.1 ≤ L := fun g => by
    have := aTwo_at T f g h3; omega
  unfold aItem aSel aKee
  repeat' split
  all_goals first | exact k0 | exact kn | exact kn2 | exact kn3 | exact k2 _
theorem tN_stop {T : Nat → Int32} {L a : Nat} (h : tK T L a = 3) : tN T L a = tS T L a + 1 ∧ tS T L a < L := by
  unfold tK at h
  split at h
  · exact absurd h (by decide)
  · rename_i h1
    split at h
    · exact absurd h (by decide)
    · rename_i h2
      split at h
      · split at h <;> exact absurd h (by decide)
      · rename_i h3
        exact ⟨by rw [tN, if_neg h1, if_neg h2, if_neg h3], by omega⟩
/-- counts of a row -/
def CnOK (f : Nat → Int32) : Prop := ∃ P H B, f 0 = nI P ∧ P ≤ 7 ∧ f 1 = nI H ∧ H ≤ 4 ∧ f 2 = nI B ∧ B ≤ 3
theorem mDay_lo (f : Nat → Int32) (P : Nat) {k : Nat} (hk : k < 7) : mDay f P k = f k := by
  rw [mDay, upd_ne _ _ (by omega), ageF, if_neg (by omega)]
theorem mDays_lo (P : Nat) {k : Nat} (hk : k < 7) : ∀ (n : Nat) (f : Nat → Int32), mDays P n f k = f k := by
  intro n
  induction n with
  | zero => intro f; rfl
  | succ n ih =>
    intro f
    rw [mDays]
    split
    · rw [ih, mDay_lo f P hk]
    · rfl
theorem CnOK.same {f g : Nat → Int32} (h : CnOK f) (h0 : g 0 = f 0) (h1 : g 1 = f 1) (h2 : g 2 = f 2) : CnOK g := by
  obtain ⟨P, H, B, q⟩ := h
  exact ⟨P, H, B, by rw [h0, h1, h2]; exact q⟩
theorem mGoBuy_lo (f : Nat → Int32) (b p : Nat) {k : Nat} (hk : k < 7) : mGoBuy f b p k = f k := by
  rw [mGoBuy, upd_ne _ _ (by omega), upd_ne _ _ (by omega)]
theorem mGoKeep_lo (f : Nat → Int32) (b p : Nat) {k : Nat} (hk : k < 7) : mGoKeep f b p k = f k := by
  rw [mGoKeep, upd_ne _ _ (by omega), upd_ne _ _ (by omega)]
theorem aTwo_cn {T : Nat → Int32} {L a : Nat} {f : Nat → Int32} {g : Int32 → Int32 → Nat → Int32} (h : CnOK f) (hg : ∀ x y, CnOK (g x y)) : CnOK (aTwo T L a f g).2.2 := by
  unfold aTwo
  repeat' split
  all_goals first | exact h | exact hg _ _
theorem aItem_cn {T : Nat → Int32} {L a : Nat} {f : Nat → Int32} {P H B : Nat} (hP : f 0 = nI P) (hP7 : P ≤ 7) (hH : f 1 = nI H) (hH4 : H ≤ 4) (hB : f 2 = nI B) (hB3 : B ≤ 3) : CnOK (aItem T L a f P H B).2.2 := by
  have h : CnOK f := ⟨P, H, B, hP, hP7, hH, hH4, hB, hB3⟩
  have kP : ¬ P = 7 → ∀ x y, CnOK (mLay f P x y) := fun q x y => ⟨P + 1, H, B, by rw [mLay, upd_at], by omega, by rw [mLay, upd_ne _ _ (by omega), upd_ne _ _ (by omega), upd_ne _ _ (by omega), upd_ne _ _ (by omega), upd_ne _ _ (by omega)]; exact hH, hH4, by rw [mLay, upd_ne _ _ (by omega), upd_ne _ _ (by omega), upd_ne _ _ (by omega), upd_ne _ _ (by omega), upd_ne _ _ (by omega)]; exact hB, hB3⟩
  have kH : ¬ H = 4 → ∀ x y, CnOK (upd (upd (upd f (40 + H) x) (44 + H) y) 1 (nI (H + 1))) := fun q x y => ⟨P, H + 1, B, by rw [upd_ne _ _ (by omega), upd_ne _ _ (by omega), upd_ne _ _ (by omega)]; exact hP, hP7, by rw [upd_at], by omega, by rw [upd_ne _ _ (by omega), upd_ne _ _ (by omega), upd_ne _ _ (by omega)]; exact hB, hB3⟩
  have kB : ¬ B = 3 → ∀ x, CnOK (upd (upd f (21 + B) x) 2 (nI (B + 1))) := fun q x => ⟨P, H, B + 1, by rw [upd_ne _ _ (by omega), upd_ne _ _ (by omega)]; exact hP, hP7, by rw [upd_ne _ _ (by omega), upd_ne _ _ (by omega)]; exact hH, hH4, by rw [upd_at], by omega⟩
  have kS : ∀ b p, CnOK (mGoBuy f b p) := fun b p => h.same (mGoBuy_lo f b p (by omega)) (mGoBuy_lo f b p (by omega)) (mGoBuy_lo f b p (by omega))
  have kK : ∀ b p, CnOK (mGoKeep f b p) := fun b p => h.same (mGoKeep_lo f b p (by omega)) (mGoKeep_lo f b p (by omega)) (mGoKeep_lo f b p (by omega))
  have kD : ∀ n, CnOK (mDays P n f) := fun n => h.same (mDays_lo P (by omega) n f) (mDays_lo P (by omega) n f) (mDays_lo P (by omega) n f)
  unfold aItem aSel aKee
  repeat' split
  all_goals first | exact h | exact kS _ _ | exact kK _ _ | exact kD _ | exact kB ‹_› _ | exact aTwo_cn h (kP ‹_›) | exact aTwo_cn h (kH ‹_›)
/-! the reference's reader at a place -/
def MA (σ : xS) (T : Nat → Int32) (L a : Nat) : Prop := σ.1 82 = T ∧ σ.1 73 11 = nI L ∧ L ≤ 150 ∧ a ≤ L ∧ σ.1 73 12 = nI (tS T L a) ∧ σ.1 73 13 = nI (tN T L a - tS T L a) ∧ σ.1 73 14 = tK T L a ∧ σ.1 73 15 = tV T L a
theorem MA_look {σ : xS} {T : Nat → Int32} {L a : Nat} (hT : σ.1 82 = T) (hL : σ.1 73 11 = nI L) (hL5 : L ≤ 150) (ha : a ≤ L) : MA (lookM σ L a) T L a := by
  subst hT
  exact ⟨setM_82 _ _ _ _ _, by rw [lookM, setM_11]; exact hL, hL5, ha, by rw [lookM, setM_g12], by rw [lookM, setM_g13], by rw [lookM, setM_g14], by rw [lookM, setM_g15]⟩
theorem MA.gb {σ : xS} {T : Nat → Int32} {L a : Nat} (h : MA σ T L a) : MA (gbS σ) T L (tN T L a) := by
  obtain ⟨h0, h1, h2, h3, h4, h5, -, -⟩ := h
  have q1 := tN_ge T L a
  have q2 := tN_le T h3
  rw [gbS_eq h1 h2 h4 h5 (by omega), show tS T L a + (tN T L a - tS T L a) = tN T L a by omega]
  exact MA_look h0 h1 h2 q2
theorem MA.o {σ τ : xS} {T : Nat → Int32} {L a : Nat} (h : MA σ T L a) (e1 : τ.1 73 = σ.1 73) (e2 : τ.1 82 = σ.1 82) : MA τ T L a := by
  unfold MA
  rw [e1, e2]
  exact h
theorem MA.ok {σ : xS} {T : Nat → Int32} {L a : Nat} (h : MA σ T L a) : MrOK σ := by
  obtain ⟨h0, h1, h2, h3, h4, h5, -, -⟩ := h
  have q1 := tN_ge T L a
  have q2 := tN_le T h3
  exact ⟨L, _, _, h1, h2, h4, h5, by omega⟩
theorem MA.nb {σ : xS} {T : Nat → Int32} {L a : Nat} (h : MA σ T L a) (lo hi : Int32) : tkB σ lo hi ↔ nbA T L a lo hi := by
  obtain ⟨h0, h1, h2, h3, h4, h5, h6, h7⟩ := h
  show (σ.1 73 14 = 2 ∧ btw (σ.1 73 15) lo hi) ↔ _
  rw [h6, h7]
theorem MA.tk {σ : xS} {T : Nat → Int32} {L a : Nat} (h : MA σ T L a) (i : Nat) {lo hi : Int32} (q : tkB σ lo hi) : MA (tkS σ i lo hi) T L (tN T L a) := by
  rw [tkS, if_pos q]
  exact (MA.o (τ := xrow σ 84 (upd (σ.1 84) i (σ.1 73 15))) h (xrow_ne _ _ (by decide)) (xrow_ne _ _ (by decide))).gb
theorem tkS_no {σ : xS} {i : Nat} {lo hi : Int32} (q : ¬ tkB σ lo hi) : tkS σ i lo hi = σ := by rw [tkS, if_neg q]
theorem gbS_2 (σ : xS) : (gbS σ).2 = σ.2 := rfl
theorem tkS_2 (σ : xS) (i : Nat) (lo hi : Int32) : (tkS σ i lo hi).2 = σ.2 := by
  unfold tkS
  split
  · rfl
  · rfl
/-- the rest of the world stays -/
def mSame (σ τ : xS) : Prop := (∀ i, i ≠ 73 → i ≠ 83 → i ≠ 84 → τ.1 i = σ.1 i) ∧ τ.2 = σ.2
theorem mSame.rf (σ : xS) : mSame σ σ := ⟨fun _ _ _ _ => rfl, rfl⟩
theorem mSame.tr {σ τ υ : xS} (h : mSame σ τ) (h2 : mSame τ υ) : mSame σ υ := ⟨fun i a b c => (h2.1 i a b c).trans (h.1 i a b c), h2.2.trans h.2⟩
theorem mSame.gb (σ : xS) : mSame σ (gbS σ) := ⟨fun i a b c => gbS_o σ a, rfl⟩
theorem mSame.tk (σ : xS) (i : Nat) (lo hi : Int32) : mSame σ (tkS σ i lo hi) := ⟨fun j a b c => tkS_o σ i lo hi a c, tkS_2 σ i lo hi⟩
theorem mSame.row (σ : xS) (g : Nat → Int32) : mSame σ (xrow σ 83 g) := ⟨fun j a b c => xrow_ne σ g b, rfl⟩
/-- an item of the reference, told by places -/
def IR (σ : xS) (T : Nat → Int32) (L : Nat) (r : Int32 × xS) (o : Bool × Nat × (Nat → Int32)) : Prop := r.1 = b2i (o.1 = true) ∧ MA r.2 T L o.2.1 ∧ r.2.1 83 = o.2.2 ∧ mSame σ r.2
theorem b2i_iff {c d : Prop} [Decidable c] [Decidable d] (h : c ↔ d) : b2i c = b2i d := by
  unfold b2i; by_cases q : c
  · rw [if_pos q, if_pos (h.mp q)]
  · rw [if_neg q, if_neg (fun z => q (h.mpr z))]
theorem b2i_T {c : Prop} [Decidable c] (h : c) : b2i c = b2i (true = true) := b2i_iff ⟨fun _ => rfl, fun _ => h⟩
theorem b2i_F {c : Prop} [Decidable c] (h : ¬ c) : b2i c = b2i (false = true) := b2i_iff ⟨fun z => absurd z h, fun z => Bool.noConfusion z⟩
theorem gb_83 {σ : xS} {f : Nat → Int32} (hf : σ.1 83 = f) : (gbS σ).1 83 = f := by rw [gbS_o _ (by decide)]; exact hf
theorem tk_83 {σ : xS} {f : Nat → Int32} (i : Nat) (lo hi : Int32) (hf : σ.1 83 = f) : (tkS σ i lo hi).1 83 = f := by rw [tkS_o _ _ _ _ (by decide) (by decide)]; exact hf
theorem IR_two {σ : xS} {T : Nat → Int32} {L a : Nat} {f : Nat → Int32} (g : Int32 → Int32 → Nat → Int32) (h : MA σ T L a) (hf : σ.1 83 = f) : IR σ T L (b2i (twoB σ), twoS σ (g ((gbS σ).1 73 15) ((tkS (gbS σ) 0 0 5).1 73 15))) (aTwo T L (tN T L a) f g) := by
  have h1 := h.gb
  have s1 := mSame.gb σ
  have v1 : (gbS σ).1 73 15 = tV T L (tN T L a) := h1.2.2.2.2.2.2.2
  by_cases q1 : tkB (gbS σ) 0 5
  · have h2 := h1.tk 0 q1
    have s2 := s1.tr (mSame.tk (gbS σ) 0 0 5)
    have v2 : (tkS (gbS σ) 0 0 5).1 73 15 = tV T L (tN T L (tN T L a)) := h2.2.2.2.2.2.2.2
    by_cases q2 : tkB (tkS (gbS σ) 0 0 5) 1 9
    · rw [b2i_T (c := twoB σ) ⟨q1, q2⟩, aTwo, if_pos ((h1.nb 0 5).mp q1), if_pos ((h2.nb 1 9).mp q2), twoS, if_pos q1, if_pos q2, v1, v2]
      exact ⟨rfl, MA.o (h2.tk 1 q2) (xrow_ne _ _ (by decide)) (xrow_ne _ _ (by decide)), xrow_at _ _ _, (s2.tr (mSame.tk _ 1 1 9)).tr (mSame.row _ _)⟩
    · rw [b2i_F (c := twoB σ) (fun z => q2 z.2), aTwo, if_pos ((h1.nb 0 5).mp q1), if_neg (fun z => q2 ((h2.nb 1 9).mpr z)), twoS, if_pos q1, if_neg q2, tTwo, tkS_no q2]
      exact ⟨rfl, h2, tk_83 _ _ _ (gb_83 hf), s2⟩
  · rw [b2i_F (c := twoB σ) (fun z => q1 z.1), aTwo, if_neg (fun z => q1 ((h1.nb 0 5).mpr z)), twoS, if_neg q1, tkS_no q1]
    exact ⟨rfl, h1, gb_83 hf, s1⟩
theorem IR_no {σ : xS} {T : Nat → Int32} {L a : Nat} {f : Nat → Int32} (h : MA σ T L a) (hf : σ.1 83 = f) : IR σ T L (0, σ) (false, a, f) := ⟨b2i_f (by simp), h, hf, mSame.rf σ⟩
theorem IR_bu {σ : xS} {T : Nat → Int32} {L a : Nat} {f : Nat → Int32} (g : Int32 → Nat → Int32) (h : MA σ T L a) (hf : σ.1 83 = f) : IR σ T L (b2i (tkB (gbS σ) 0 99), oneS σ (g ((gbS σ).1 73 15))) (if nbA T L (tN T L a) 0 99 then (true, tN T L (tN T L a), g (tV T L (tN T L a))) else (false, tN T L a, f)) := by
  have h1 := h.gb
  have s1 := mSame.gb σ
  have v1 : (gbS σ).1 73 15 = tV T L (tN T L a) := h1.2.2.2.2.2.2.2
  by_cases q1 : tkB (gbS σ) 0 99
  · rw [b2i_T (c := tkB (gbS σ) 0 99) q1, if_pos ((h1.nb 0 99).mp q1), oneS, if_pos q1, v1]
    exact ⟨rfl, MA.o (h1.tk 0 q1) (xrow_ne _ _ (by decide)) (xrow_ne _ _ (by decide)), xrow_at _ _ _, (s1.tr (mSame.tk _ 0 0 99)).tr (mSame.row _ _)⟩
  · rw [b2i_F (c := tkB (gbS σ) 0 99) q1, if_neg (fun z => q1 ((h1.nb 0 99).mpr z)), oneS, if_neg q1, tOne, tkS_no q1]
    exact ⟨rfl, h1, gb_83 hf, s1⟩
theorem IR_da {σ : xS} {T : Nat → Int32} {L a P : Nat} {f : Nat → Int32} (h : MA σ T L a) (hf : σ.1 83 = f) : IR σ T L (b2i (tkB (gbS σ) 1 99), tDays σ P) (if nbA T L (tN T L a) 1 99 then (true, tN T L (tN T L a), mDays P (tV T L (tN T L a)).toNatClampNeg f) else (false, tN T L a, f)) := by
  have h1 := h.gb
  have s1 := mSame.gb σ
  have v1 : (gbS σ).1 73 15 = tV T L (tN T L a) := h1.2.2.2.2.2.2.2
  by_cases q1 : tkB (gbS σ) 1 99
  · rw [b2i_T (c := tkB (gbS σ) 1 99) q1, if_pos ((h1.nb 1 99).mp q1), tDays, if_pos q1, tkS_84 q1, v1, hf]
    exact ⟨rfl, MA.o (h1.tk 0 q1) (xrow_ne _ _ (by decide)) (xrow_ne _ _ (by decide)), xrow_at _ _ _, (s1.tr (mSame.tk _ 0 1 99)).tr (mSame.row _ _)⟩
  · rw [b2i_F (c := tkB (gbS σ) 1 99) q1, if_neg (fun z => q1 ((h1.nb 1 99).mpr z)), tDays, if_neg q1, tkS_no q1]
    exact ⟨rfl, h1, gb_83 hf, s1⟩
theorem IR_sel {σ : xS} {T : Nat → Int32} {L a P B : Nat} {f : Nat → Int32} (h : MA σ T L a) (hf : σ.1 83 = f) (hP : f 0 = nI P) (hB : f 2 = nI B) : IR σ T L (b2i (tBuyB σ), tBuyS σ) (aSel T L (tN T L a) f P B) := by
  have h1 := h.gb
  have s1 := mSame.gb σ
  have v1 : (gbS σ).1 73 15 = tV T L (tN T L a) := h1.2.2.2.2.2.2.2
  have e2 : σ.1 83 2 - 1 = nI B - 1 := by rw [hf, hB]
  have e0 : σ.1 83 0 - 1 = nI P - 1 := by rw [hf, hP]
  by_cases q1 : tkB (gbS σ) 0 (σ.1 83 2 - 1)
  · have h2 : MA (tBuyT σ) T L (tN T L (tN T L a)) := h1.tk 0 q1
    have s2 : mSame σ (tBuyT σ) := s1.tr (mSame.tk (gbS σ) 0 0 _)
    have v2 : (tBuyT σ).1 73 15 = tV T L (tN T L (tN T L a)) := h2.2.2.2.2.2.2.2
    by_cases q2 : tkB (tBuyT σ) 0 (σ.1 83 0 - 1) ∧ mayF (σ.1 83) ((gbS σ).1 73 15).toNatClampNeg ((tBuyT σ).1 73 15).toNatClampNeg
    · have qq : tBuyB σ := ⟨⟨q1, q2.1⟩, q2.2⟩
      have q3 := q2.2
      rw [hf, v1, v2] at q3
      rw [b2i_T (c := tBuyB σ) qq, aSel, if_pos (e2 ▸ (h1.nb 0 _).mp q1), if_pos ⟨e0 ▸ (h2.nb 0 _).mp q2.1, q3⟩, tBuyS, if_pos qq, v1, v2, hf]
      refine ⟨rfl, ?_, ?_, (s2.tr (mSame.row _ _)).tr (mSame.gb _)⟩
      · exact (MA.o (τ := xrow (tBuyT σ) 83 _) h2 (xrow_ne _ _ (by decide)) (xrow_ne _ _ (by decide))).gb
      · exact gb_83 (xrow_at _ _ _)
    · have qq : ¬ tBuyB σ := fun z => q2 ⟨z.1.2, z.2⟩
      rw [b2i_F (c := tBuyB σ) qq, aSel, if_pos (e2 ▸ (h1.nb 0 _).mp q1), if_neg (fun z => q2 ⟨(h2.nb 0 _).mpr (e0 ▸ z.1), by rw [hf, v1, v2]; exact z.2⟩), tBuyS, if_neg qq]
      exact ⟨rfl, h2, tk_83 _ _ _ (gb_83 hf), s2⟩
  · have qq : ¬ tBuyB σ := fun z => q1 z.1.1
    rw [b2i_F (c := tBuyB σ) qq, aSel, if_neg (fun z => q1 ((h1.nb 0 _).mpr (e2 ▸ z))), tBuyS, if_neg qq, tBuyT, tkS_no q1]
    exact ⟨rfl, h1, gb_83 hf, s1⟩
theorem IR_kee {σ : xS} {T : Nat → Int32} {L a P H : Nat} {f : Nat → Int32} (h : MA σ T L a) (hf : σ.1 83 = f) (hP : f 0 = nI P) (hP7 : P ≤ 7) (hH : f 1 = nI H) : IR σ T L (b2i (tKeB σ), tKeS σ) (aKee T L (tN T L a) f P H) := by
  have h1 := h.gb
  have s1 := mSame.gb σ
  have v1 : (gbS σ).1 73 15 = tV T L (tN T L a) := h1.2.2.2.2.2.2.2
  have e1 : σ.1 83 1 - 1 = nI H - 1 := by rw [hf, hH]
  have e0 : σ.1 83 0 - 1 = nI P - 1 := by rw [hf, hP]
  by_cases q1 : tKeB1 σ
  · obtain ⟨p, hp, ep⟩ : ∃ p, p < P ∧ (gbS σ).1 73 15 = nI p := hasIn_nI (by omega) (by rw [← hP, ← hf]; exact q1.1.2)
    have q6 : tkB (gbS σ) 0 6 := ⟨q1.1.1, by rw [ep]; exact ⟨nI_pos' (by omega), show nI p ≤ nI 6 from nI_le (by omega) (by omega)⟩⟩
    have h2 : MA (tKa σ) T L (tN T L (tN T L a)) := h1.tk 0 q6
    have s2 : mSame σ (tKa σ) := s1.tr (mSame.tk (gbS σ) 0 0 6)
    have v2 : (tKa σ).1 73 15 = tV T L (tN T L (tN T L a)) := h2.2.2.2.2.2.2.2
    have q3 := q1.2
    rw [hf, v1] at q3
    by_cases q2 : tkB (tKa σ) 0 (σ.1 83 1 - 1)
    · have qq : tKeB σ := ⟨q1, q2⟩
      rw [b2i_T (c := tKeB σ) qq, aKee, if_pos ⟨e0 ▸ (h1.nb 0 _).mp q1.1, q3⟩, if_pos (e1 ▸ (h2.nb 0 _).mp q2), tKeS, if_pos q1, if_pos q2, v1, v2, hf]
      exact ⟨rfl, MA.o (h2.tk 1 q2) (xrow_ne _ _ (by decide)) (xrow_ne _ _ (by decide)), xrow_at _ _ _, (s2.tr (mSame.tk _ 1 0 _)).tr (mSame.row _ _)⟩
    · have qq : ¬ tKeB σ := fun z => q2 z.2
      rw [b2i_F (c := tKeB σ) qq, aKee, if_pos ⟨e0 ▸ (h1.nb 0 _).mp q1.1, q3⟩, if_neg (fun z => q2 ((h2.nb 0 _).mpr (e1 ▸ z))), tKeS, if_pos q1, if_neg q2, tKb, tkS_no q2]
      exact ⟨rfl, h2, tk_83 _ _ _ (gb_83 hf), s2⟩
  · have qq : ¬ tKeB σ := fun z => q1 z.1
    rw [b2i_F (c := tKeB σ) qq, aKee, if_neg (fun z => q1 ⟨(h1.nb 0 _).mpr (e0 ▸ z.1), by rw [hf, v1]; exact z.2⟩), tKeS, if_neg q1]
    exact ⟨rfl, h1, gb_83 hf, s1⟩
theorem spM_iff {σ : xS} {T : Nat → Int32} {L a n : Nat} {lt : Nat → Int32} (h : MA σ T L a) {k : Nat} (hn : n = xsLen.getD k 0) (hk : k < 7) (hl : ∀ i, i < n → lt i = xch k i) : spM σ (tS T L a) n lt ↔ aWd T L a = nI k := by
  obtain ⟨h0, h1, h2, h3, h4, h5, h6, h7⟩ := h
  have q1 := tN_ge T L a
  have q2 := tN_le T h3
  have q3 := xsLen_le k hk
  rw [aWd_iff hk, aW, ← hn]
  show ((σ.1 73 14 = 1 ∧ σ.1 73 13 = nI n) ∧ _) ↔ _
  rw [h6, h5, h0, nI_eq (by omega) (by omega), allB_iff, allB_iff, and_assoc]
  constructor
  · rintro ⟨p1, p2, p3⟩
    exact ⟨p1, p2, fun i hi => by rw [← hl i hi]; exact p3 i hi⟩
  · rintro ⟨p1, p2, p3⟩
    exact ⟨p1, p2, fun i hi => by have := p3 i hi; rw [← hl i hi] at this; exact this⟩
theorem prM_iff {σ : xS} {T : Nat → Int32} {L a : Nat} (h : MA σ T L a) : prM σ (tS T L a) ↔ aWd T L a = 1 := by
  have hs := spM_iff (lt := xch 1) h (k := 1) rfl (by decide) (fun i _ => rfl)
  rw [show (1 : Int32) = nI 1 from rfl, ← hs]
  have e : allB (fun i => decide (σ.1 82 (tS T L a + i) = xch 1 i)) 7 = true ↔ (σ.1 82 (tS T L a) = 112 ∧ σ.1 82 (tS T L a + 1) = 114 ∧ σ.1 82 (tS T L a + 2) = 111 ∧ σ.1 82 (tS T L a + 3) = 109 ∧ σ.1 82 (tS T L a + 4) = 105 ∧ σ.1 82 (tS T L a + 5) = 115 ∧ σ.1 82 (tS T L a + 6) = 101) := by
    simp only [allB, Bool.and_eq_true, decide_eq_true_eq, Bool.true_and, true_and]
    rw [show xch 1 0 = 112 from rfl, show xch 1 1 = 114 from rfl, show xch 1 2 = 111 from rfl, show xch 1 3 = 109 from rfl, show xch 1 4 = 105 from rfl, show xch 1 5 = 115 from rfl, show xch 1 6 = 101 from rfl, Nat.add_zero]
    constructor
    · rintro ⟨⟨⟨⟨⟨⟨p0, p1⟩, p2⟩, p3⟩, p4⟩, p5⟩, p6⟩; exact ⟨p0, p1, p2, p3, p4, p5, p6⟩
    · rintro ⟨p0, p1, p2, p3, p4, p5, p6⟩; exact ⟨⟨⟨⟨⟨⟨p0, p1⟩, p2⟩, p3⟩, p4⟩, p5⟩, p6⟩
  show ((σ.1 73 14 = 1 ∧ σ.1 73 13 = 7) ∧ _) ↔ ((σ.1 73 14 = 1 ∧ σ.1 73 13 = nI (xsLen.getD 1 0)) ∧ _)
  exact and_congr Iff.rfl e.symm
theorem IR_item {σ : xS} {T : Nat → Int32} {L a P H B : Nat} {f : Nat → Int32} (h : MA σ T L a) (hf : σ.1 83 = f) (hP : f 0 = nI P) (hP7 : P ≤ 7) (hH : f 1 = nI H) (hH4 : H ≤ 4) (hB : f 2 = nI B) (hB3 : B ≤ 3) : IR σ T L (tItem σ (tS T L a) P H B) (aItem T L a f P H B) := by
  have i1 := prM_iff h
  have i2 : spM σ (tS T L a) 6 (ltM 104 101 97 114 101 114) ↔ aWd T L a = 2 := spM_iff h (k := 2) rfl (by decide) (by decide)
  have i3 : spM σ (tS T L a) 5 (ltM 98 117 121 101 114 0) ↔ aWd T L a = 3 := spM_iff h (k := 3) rfl (by decide) (by decide)
  have i4 : spM σ (tS T L a) 3 (ltM 98 117 121 0 0 0) ↔ aWd T L a = 4 := spM_iff h (k := 4) rfl (by decide) (by decide)
  have i5 : spM σ (tS T L a) 4 (ltM 107 101 101 112 0 0) ↔ aWd T L a = 5 := spM_iff h (k := 5) rfl (by decide) (by decide)
  have i6 : spM σ (tS T L a) 4 (ltM 100 97 121 115 0 0) ↔ aWd T L a = 6 := spM_iff h (k := 6) rfl (by decide) (by decide)
  rw [tItem]
  by_cases q1 : prM σ (tS T L a)
  · rw [if_pos q1, aItem_1 _ _ _ _ (i1.mp q1), tAddP]
    by_cases q : P = 7
    · rw [if_pos q, if_pos q]; exact IR_no h hf
    · rw [if_neg q, if_neg q, hf]; exact IR_two (fun k w => mLay f P k w) h hf
  rw [if_neg q1]
  by_cases q2 : spM σ (tS T L a) 6 (ltM 104 101 97 114 101 114)
  · rw [if_pos q2, aItem_2 _ _ _ _ (i2.mp q2), tAddH]
    by_cases q : H = 4
    · rw [if_pos q, if_pos q]; exact IR_no h hf
    · rw [if_neg q, if_neg q, hf]; exact IR_two (fun k w => upd (upd (upd f (40 + H) k) (44 + H) w) 1 (nI (H + 1))) h hf
  rw [if_neg q2]
  by_cases q3 : spM σ (tS T L a) 5 (ltM 98 117 121 101 114 0)
  · rw [if_pos q3, aItem_3 _ _ _ _ (i3.mp q3), tAddB]
    by_cases q : B = 3
    · rw [if_pos q, if_pos q]; exact IR_no h hf
    · rw [if_neg q, if_neg q, hf]; exact IR_bu (fun k => upd (upd f (21 + B) k) 2 (nI (B + 1))) h hf
  rw [if_neg q3]
  by_cases q4 : spM σ (tS T L a) 3 (ltM 98 117 121 0 0 0)
  · rw [if_pos q4, aItem_4 _ _ _ _ (i4.mp q4)]
    exact IR_sel h hf hP hB
  rw [if_neg q4]
  by_cases q5 : spM σ (tS T L a) 4 (ltM 107 101 101 112 0 0)
  · rw [if_pos q5, aItem_5 _ _ _ _ (i5.mp q5)]
    exact IR_kee h hf hP hP7 hH
  rw [if_neg q5]
  by_cases q6 : spM σ (tS T L a) 4 (ltM 100 97 121 115 0 0)
  · rw [if_pos q6, aItem_6 _ _ _ _ (i6.mp q6)]
    exact IR_da h hf
  rw [if_neg q6, aItem_n _ _ _ _ ⟨fun z => q1 (i1.mpr z), fun z => q2 (i2.mpr z), fun z => q3 (i3.mpr z), fun z => q4 (i4.mpr z), fun z => q5 (i5.mpr z), fun z => q6 (i6.mpr z)⟩]
  exact IR_no h hf
