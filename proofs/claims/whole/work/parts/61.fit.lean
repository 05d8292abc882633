/-! whom to keep which to, in plain numbers: the greedy choice is the first best one -/
def rmv (F : Nat → Bool) (p : Nat) : Nat → Bool := fun q => F q && !decide (q = p)
def mxN (F : Nat → Bool) (v : Nat → Nat) : Nat → Nat → Nat
  | 0, a => a
  | n + 1, a => if F n = true then max (mxN F v n a) (v n) else mxN F v n a
theorem mxN_ge (F : Nat → Bool) (v : Nat → Nat) : ∀ n a, a ≤ mxN F v n a := by
  intro n
  induction n with
  | zero => intro a; exact Nat.le_refl _
  | succ n ih =>
    intro a
    have := ih a
    rw [mxN]
    split <;> omega
theorem mxN_up (F : Nat → Bool) (v : Nat → Nat) : ∀ n a p, p < n → F p = true → v p ≤ mxN F v n a := by
  intro n
  induction n with
  | zero => intro a p hp; exact absurd hp (Nat.not_lt_zero p)
  | succ n ih =>
    intro a p hp hF
    rw [mxN]
    by_cases e : p = n
    · subst e; rw [if_pos hF]; omega
    · have := ih a p (by omega) hF
      split <;> omega
theorem mxN_or (F : Nat → Bool) (v : Nat → Nat) : ∀ n a, mxN F v n a = a ∨ ∃ p, p < n ∧ F p = true ∧ v p = mxN F v n a := by
  intro n
  induction n with
  | zero => intro a; exact Or.inl rfl
  | succ n ih =>
    intro a
    rw [mxN]
    by_cases hF : F n = true
    · rw [if_pos hF]
      rcases Nat.lt_or_ge (mxN F v n a) (v n) with q | q
      · exact Or.inr ⟨n, by omega, hF, by omega⟩
      · rw [Nat.max_eq_left q]
        rcases ih a with h | ⟨p, h1, h2, h3⟩
        · exact Or.inl h
        · exact Or.inr ⟨p, by omega, h2, h3⟩
    · rw [if_neg hF]
      rcases ih a with h | ⟨p, h1, h2, h3⟩
      · exact Or.inl h
      · exact Or.inr ⟨p, by omega, h2, h3⟩
theorem mxN_le (F : Nat → Bool) (v : Nat → Nat) (b : Nat) : ∀ n a, a ≤ b → (∀ p, p < n → F p = true → v p ≤ b) → mxN F v n a ≤ b := by
  intro n
  induction n with
  | zero => intro a h _; exact h
  | succ n ih =>
    intro a h hv
    have := ih a h (fun p hp => hv p (by omega))
    rw [mxN]
    split
    · rename_i hF; have := hv n (by omega) hF; omega
    · exact this
def mjN (J : Nat → Nat → Nat) : Nat → Nat → (Nat → Bool) → Nat
  | 0, _, _ => 0
  | k + 1, h, F => mxN F (fun p => J h p + mjN J k (h + 1) (rmv F p)) 7 (mjN J k (h + 1) F)
theorem mjN_s (J : Nat → Nat → Nat) (k h : Nat) (F : Nat → Bool) : mjN J (k + 1) h F = mxN F (fun p => J h p + mjN J k (h + 1) (rmv F p)) 7 (mjN J k (h + 1) F) := rfl
theorem mjN_le {J : Nat → Nat → Nat} (hJ : ∀ h p, J h p ≤ 12) : ∀ k h F, mjN J k h F ≤ 12 * k := by
  intro k
  induction k with
  | zero => intro h F; exact Nat.le_refl _
  | succ k ih =>
    intro h F
    rw [mjN_s]
    refine mxN_le _ _ _ 7 _ ?_ (fun p _ _ => ?_)
    · have := ih (h + 1) F; omega
    · have := ih (h + 1) (rmv F p); have := hJ h p; omega
/-- scanning for the first -/
def scanN (f : Nat → Bool) : Nat → Nat → Nat
  | 0, k => k
  | n + 1, k => if f k = true then k else scanN f n (k + 1)
theorem scanN_or (f : Nat → Bool) : ∀ (n k : Nat), (∀ i, i < n → f (k + i) = false) ∨ ∃ i, i < n ∧ f (k + i) = true ∧ (∀ j, j < i → f (k + j) = false) ∧ scanN f n k = k + i ∧ scanI f n k = nI (k + i) := by
  intro n
  induction n with
  | zero => intro k; exact Or.inl (fun i h => absurd h (Nat.not_lt_zero i))
  | succ n ih =>
    intro k
    by_cases hk : f k = true
    · exact Or.inr ⟨0, Nat.zero_lt_succ n, hk, fun j h => absurd h (Nat.not_lt_zero j), by rw [scanN, if_pos hk]; rfl, by rw [scanI, if_pos hk]; rfl⟩
    · have hk' : f k = false := by simpa using hk
      rcases ih (k + 1) with h2 | ⟨i, h1, h2, h3, h4, h5⟩
      · refine Or.inl (fun i hi => ?_)
        cases i with
        | zero => exact hk'
        | succ i => rw [show k + (i + 1) = k + 1 + i by omega]; exact h2 i (by omega)
      · refine Or.inr ⟨i + 1, by omega, by rw [show k + (i + 1) = k + 1 + i by omega]; exact h2, fun j hj => ?_, by rw [scanN, if_neg hk, h4]; omega, by rw [scanI, if_neg hk, h5, show k + 1 + i = k + (i + 1) by omega]⟩
        cases j with
        | zero => exact hk'
        | succ j => rw [show k + (j + 1) = k + 1 + j by omega]; exact h3 j (by omega)
def fiB (J : Nat → Nat → Nat) (k h : Nat) (F : Nat → Bool) (p : Nat) : Bool := F p && decide (J h p + mjN J k (h + 1) (rmv F p) = mjN J (k + 1) h F)
def fi (J : Nat → Nat → Nat) (k h : Nat) (F : Nat → Bool) : Nat := scanN (fiB J k h F) 7 0
theorem fi_ok {J : Nat → Nat → Nat} {k h : Nat} {F : Nat → Bool} (hn : ¬ mjN J k (h + 1) F = mjN J (k + 1) h F) :
    fi J k h F < 7 ∧ F (fi J k h F) = true ∧ J h (fi J k h F) + mjN J k (h + 1) (rmv F (fi J k h F)) = mjN J (k + 1) h F ∧ (∀ p, p < fi J k h F → F p = true → J h p + mjN J k (h + 1) (rmv F p) < mjN J (k + 1) h F) ∧ scanI (fiB J k h F) 7 0 = nI (fi J k h F) := by
  rcases scanN_or (fiB J k h F) 7 0 with q | ⟨i, h1, h2, h3, h4, h5⟩
  · exfalso
    rcases mxN_or F (fun p => J h p + mjN J k (h + 1) (rmv F p)) 7 (mjN J k (h + 1) F) with e | ⟨p, e1, e2, e3⟩
    · exact hn (by rw [mjN_s, e])
    · have := q p e1
      rw [Nat.zero_add, fiB, e2, Bool.true_and, decide_eq_false_iff_not] at this
      exact this (by rw [mjN_s]; exact e3)
  · rw [Nat.zero_add] at h2 h4 h5
    have e : fi J k h F = i := h4
    rw [e]
    rw [fiB, Bool.and_eq_true, decide_eq_true_eq] at h2
    refine ⟨h1, h2.1, h2.2, fun p hp hF => ?_, h5⟩
    have q := h3 p hp
    rw [Nat.zero_add, fiB, hF, Bool.true_and, decide_eq_false_iff_not] at q
    have := mxN_up F (fun p => J h p + mjN J k (h + 1) (rmv F p)) 7 (mjN J k (h + 1) F) p (by omega) hF
    rw [← mjN_s] at this
    omega
/-! codes: a choice for each hearer, as a number of base 8 -/
def okC : Nat → (Nat → Bool) → Nat → Prop
  | 0, _, _ => True
  | k + 1, F, c => if c / 8 ^ k = 0 then okC k F (c % 8 ^ k) else F (c / 8 ^ k - 1) = true ∧ okC k (rmv F (c / 8 ^ k - 1)) (c % 8 ^ k)
def suC (J : Nat → Nat → Nat) : Nat → Nat → Nat → Nat
  | 0, _, _ => 0
  | k + 1, h, c => (if c / 8 ^ k = 0 then 0 else J h (c / 8 ^ k - 1)) + suC J k (h + 1) (c % 8 ^ k)
def gC (J : Nat → Nat → Nat) : Nat → Nat → (Nat → Bool) → Nat
  | 0, _, _ => 0
  | k + 1, h, F => if mjN J k (h + 1) F = mjN J (k + 1) h F then gC J k (h + 1) F else (fi J k h F + 1) * 8 ^ k + gC J k (h + 1) (rmv F (fi J k h F))
theorem okC_s (k : Nat) (F : Nat → Bool) (c : Nat) : okC (k + 1) F c ↔ if c / 8 ^ k = 0 then okC k F (c % 8 ^ k) else F (c / 8 ^ k - 1) = true ∧ okC k (rmv F (c / 8 ^ k - 1)) (c % 8 ^ k) := Iff.rfl
theorem suC_s (J : Nat → Nat → Nat) (k h c : Nat) : suC J (k + 1) h c = (if c / 8 ^ k = 0 then 0 else J h (c / 8 ^ k - 1)) + suC J k (h + 1) (c % 8 ^ k) := rfl
theorem gC_s (J : Nat → Nat → Nat) (k h : Nat) (F : Nat → Bool) : gC J (k + 1) h F = if mjN J k (h + 1) F = mjN J (k + 1) h F then gC J k (h + 1) F else (fi J k h F + 1) * 8 ^ k + gC J k (h + 1) (rmv F (fi J k h F)) := rfl
theorem dm_8 {q a b : Nat} (hb : b < q) : (a * q + b) / q = a ∧ (a * q + b) % q = b := by
  constructor
  · rw [Nat.mul_comm, Nat.mul_add_div (by omega), Nat.div_eq_of_lt hb, Nat.add_zero]
  · rw [Nat.mul_comm, Nat.mul_add_mod, Nat.mod_eq_of_lt hb]
theorem gC_ok (J : Nat → Nat → Nat) : ∀ (k h : Nat) (F : Nat → Bool), gC J k h F < 8 ^ k ∧ okC k F (gC J k h F) ∧ suC J k h (gC J k h F) = mjN J k h F ∧ (∀ c, c < 8 ^ k → okC k F c → suC J k h c ≤ mjN J k h F) ∧ ∀ c, c < gC J k h F → okC k F c → suC J k h c < mjN J k h F := by
  intro k
  induction k with
  | zero =>
    intro h F
    exact ⟨Nat.one_pos, trivial, rfl, fun c _ _ => Nat.le_refl _, fun c hc => absurd hc (Nat.not_lt_zero c)⟩
  | succ k ih =>
    intro h F
    have hq : 0 < 8 ^ k := Nat.pow_pos (by decide)
    have hp : 8 ^ (k + 1) = 8 * 8 ^ k := by rw [Nat.pow_succ, Nat.mul_comm]
    have h0 : mjN J k (h + 1) F ≤ mjN J (k + 1) h F := by rw [mjN_s]; exact mxN_ge _ _ _ _
    have hup : ∀ p, p < 7 → F p = true → J h p + mjN J k (h + 1) (rmv F p) ≤ mjN J (k + 1) h F := fun p hp hF => by
      rw [mjN_s]; exact mxN_up F (fun p => J h p + mjN J k (h + 1) (rmv F p)) 7 _ p hp hF
    have hdv : ∀ c, c < 8 ^ (k + 1) → c / 8 ^ k < 8 := fun c hc => by
      rw [hp] at hc; exact Nat.div_lt_of_lt_mul (by rw [Nat.mul_comm]; exact hc)
    have hmd : ∀ c, c % 8 ^ k < 8 ^ k := fun c => Nat.mod_lt c hq
    have hall : ∀ c, c < 8 ^ (k + 1) → okC (k + 1) F c → suC J (k + 1) h c ≤ mjN J (k + 1) h F := by
      intro c hc hok
      rw [okC_s] at hok
      rw [suC_s]
      by_cases d0 : c / 8 ^ k = 0
      · rw [if_pos d0] at hok ⊢
        have := (ih (h + 1) F).2.2.2.1 _ (hmd c) hok
        omega
      · rw [if_neg d0] at hok ⊢
        have h1 := (ih (h + 1) (rmv F (c / 8 ^ k - 1))).2.2.2.1 _ (hmd c) hok.2
        have h2 := hup (c / 8 ^ k - 1) (by have := hdv c hc; omega) hok.1
        omega
    by_cases hc : mjN J k (h + 1) F = mjN J (k + 1) h F
    · obtain ⟨g1, g2, g3, g4, g5⟩ := ih (h + 1) F
      rw [gC_s, if_pos hc]
      obtain ⟨G, hG⟩ : ∃ G, G = gC J k (h + 1) F := ⟨_, rfl⟩
      rw [← hG] at g1 g2 g3 g5 ⊢
      have e1 : ∀ c, c < 8 ^ k → c / 8 ^ k = 0 ∧ c % 8 ^ k = c := fun c h => ⟨Nat.div_eq_of_lt h, Nat.mod_eq_of_lt h⟩
      refine ⟨by omega, ?_, ?_, hall, fun c hcG hok => ?_⟩
      · rw [okC_s, if_pos (e1 G g1).1, (e1 G g1).2]; exact g2
      · rw [suC_s, if_pos (e1 G g1).1, (e1 G g1).2, g3, Nat.zero_add, hc]
      · have e2 := e1 c (by omega)
        rw [okC_s, if_pos e2.1, e2.2] at hok
        rw [suC_s, if_pos e2.1, e2.2, Nat.zero_add]
        have := g5 c hcG hok
        omega
    · obtain ⟨f1, f2, f3, f4, -⟩ := fi_ok hc
      obtain ⟨p, hp'⟩ : ∃ p, p = fi J k h F := ⟨_, rfl⟩
      rw [gC_s, if_neg hc, ← hp']
      rw [← hp'] at f1 f2 f3 f4
      obtain ⟨g1, g2, g3, g4, g5⟩ := ih (h + 1) (rmv F p)
      obtain ⟨G, hG⟩ : ∃ G, G = gC J k (h + 1) (rmv F p) := ⟨_, rfl⟩
      rw [← hG] at g1 g2 g3 g5 ⊢
      obtain ⟨e1, e2⟩ := dm_8 (a := p + 1) g1
      have hlt : (p + 1) * 8 ^ k ≤ 7 * 8 ^ k := Nat.mul_le_mul_right _ (by omega)
      refine ⟨by omega, ?_, ?_, hall, fun c hcG hok => ?_⟩
      · rw [okC_s, e1, e2, if_neg (by omega), Nat.add_sub_cancel]; exact ⟨f2, g2⟩
      · rw [suC_s, e1, e2, if_neg (by omega), Nat.add_sub_cancel, g3, f3]
      · have hcd : c / 8 ^ k < p + 2 := by
          refine Nat.div_lt_of_lt_mul ?_
          rw [show p + 2 = p + 1 + 1 by omega, Nat.mul_add, Nat.mul_one, Nat.mul_comm]
          omega
        rw [okC_s] at hok
        rw [suC_s]
        by_cases d0 : c / 8 ^ k = 0
        · rw [if_pos d0] at hok ⊢
          have := (ih (h + 1) F).2.2.2.1 _ (hmd c) hok
          omega
        · rw [if_neg d0] at hok ⊢
          by_cases dp : c / 8 ^ k = p + 1
          · rw [dp, Nat.add_sub_cancel] at hok ⊢
            have hr : c % 8 ^ k < G := by
              have := Nat.div_add_mod c (8 ^ k)
              rw [dp, Nat.mul_comm] at this
              omega
            have := g5 _ hr hok.2
            omega
          · have h1 := (ih (h + 1) (rmv F (c / 8 ^ k - 1))).2.2.2.1 _ (hmd c) hok.2
            have hz := Nat.pos_of_ne_zero d0
            have h2 := f4 (c / 8 ^ k - 1) (by generalize c / 8 ^ k = z at hz hcd dp; omega) hok.1
            omega
