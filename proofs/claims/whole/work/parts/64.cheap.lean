/-! the cheapest by which each who waits has one -/
def toO : Option Nat → Int32
  | none => -1
  | some n => nI n
def mnO : Option Nat → Option Nat → Option Nat
  | none, b => b
  | some x, none => some x
  | some x, some y => some (min x y)
def mnN (F : Nat → Bool) (v : Nat → Option Nat) : Nat → Option Nat
  | 0 => none
  | n + 1 => if F n = true then mnO (mnN F v n) (v n) else mnN F v n
theorem mnN_or (F : Nat → Bool) (v : Nat → Option Nat) : ∀ n, (mnN F v n = none ∧ ∀ p, p < n → F p = true → v p = none) ∨ ∃ m, mnN F v n = some m ∧ (∃ p, p < n ∧ F p = true ∧ v p = some m) ∧ ∀ p, p < n → F p = true → ∀ y, v p = some y → m ≤ y := by
  intro n
  induction n with
  | zero => exact Or.inl ⟨rfl, fun p hp => absurd hp (Nat.not_lt_zero p)⟩
  | succ n ih =>
    by_cases hF : F n = true
    · rw [mnN, if_pos hF]
      rcases ih with ⟨h1, h2⟩ | ⟨m, h1, ⟨p, p1, p2, p3⟩, h3⟩
      · rw [h1]
        cases hv : v n with
        | none =>
          refine Or.inl ⟨rfl, fun p hp hFp => ?_⟩
          by_cases e : p = n
          · rw [e]; exact hv
          · exact h2 p (by omega) hFp
        | some y =>
          refine Or.inr ⟨y, rfl, ⟨n, by omega, hF, hv⟩, fun p hp hFp z hz => ?_⟩
          by_cases e : p = n
          · rw [e, hv] at hz; cases hz; exact Nat.le_refl _
          · rw [h2 p (by omega) hFp] at hz; cases hz
      · rw [h1]
        cases hv : v n with
        | none =>
          refine Or.inr ⟨m, rfl, ⟨p, by omega, p2, p3⟩, fun q hq hFq z hz => ?_⟩
          by_cases e : q = n
          · rw [e, hv] at hz; cases hz
          · exact h3 q (by omega) hFq z hz
        | some y =>
          refine Or.inr ⟨min m y, rfl, ?_, fun q hq hFq z hz => ?_⟩
          · rcases Nat.lt_or_ge y m with q | q
            · exact ⟨n, by omega, hF, by rw [hv, Nat.min_eq_right (by omega)]⟩
            · exact ⟨p, by omega, p2, by rw [p3, Nat.min_eq_left q]⟩
          · by_cases e : q = n
            · rw [e, hv] at hz; cases hz; exact Nat.min_le_right _ _
            · exact Nat.le_trans (Nat.min_le_left _ _) (h3 q (by omega) hFq z hz)
    · rw [mnN, if_neg hF]
      rcases ih with ⟨h1, h2⟩ | ⟨m, h1, ⟨p, p1, p2, p3⟩, h3⟩
      · refine Or.inl ⟨h1, fun p hp hFp => ?_⟩
        by_cases e : p = n
        · exact absurd (e ▸ hFp) hF
        · exact h2 p (by omega) hFp
      · refine Or.inr ⟨m, h1, ⟨p, by omega, p2, p3⟩, fun q hq hFq z hz => ?_⟩
        by_cases e : q = n
        · exact absurd (e ▸ hFq) hF
        · exact h3 q (by omega) hFq z hz
def plO (c : Nat) : Option Nat → Option Nat
  | none => none
  | some r => some (c + r)
theorem plO_some {c m : Nat} {r : Option Nat} (h : plO c r = some m) : ∃ y, r = some y ∧ m = c + y := by
  cases r with
  | none => cases h
  | some y => cases h; exact ⟨y, rfl, rfl⟩
def miN (Wt : Nat → Bool) (J : Nat → Nat → Nat) (C : Nat → Nat) : Nat → Nat → (Nat → Bool) → Option Nat
  | 0, _, _ => some 0
  | k + 1, h, F => if Wt h = true then mnN (fun p => F p && decide (0 < J h p)) (fun p => plO (C p) (miN Wt J C k (h + 1) (rmv F p))) 7 else miN Wt J C k (h + 1) F
theorem miN_s (Wt : Nat → Bool) (J : Nat → Nat → Nat) (C : Nat → Nat) (k h : Nat) (F : Nat → Bool) : miN Wt J C (k + 1) h F = if Wt h = true then mnN (fun p => F p && decide (0 < J h p)) (fun p => plO (C p) (miN Wt J C k (h + 1) (rmv F p))) 7 else miN Wt J C k (h + 1) F := rfl
theorem miN_le {Wt : Nat → Bool} {J : Nat → Nat → Nat} {C : Nat → Nat} (hC : ∀ p, C p ≤ 60) : ∀ k h F m, miN Wt J C k h F = some m → m ≤ 60 * k := by
  intro k
  induction k with
  | zero => intro h F m hm; cases hm; exact Nat.le_refl _
  | succ k ih =>
    intro h F m hm
    rw [miN_s] at hm
    split at hm
    · rcases mnN_or (fun p => F p && decide (0 < J h p)) (fun p => plO (C p) (miN Wt J C k (h + 1) (rmv F p))) 7 with ⟨h1, _⟩ | ⟨m', h1, ⟨p, _, _, p3⟩, _⟩
      · rw [h1] at hm; cases hm
      · rw [h1] at hm
        cases hm
        obtain ⟨y, y1, y2⟩ := plO_some p3
        have := ih _ _ _ y1
        have := hC p
        omega
    · have := ih _ _ _ hm; omega
theorem lpC_s (g pr : Nat → Int32) (wt : Int32) (k h : Nat) (fr : Int32) : lpC g pr wt (k + 1) h fr = if hasI' wt h then foI (fun p l => if hasI' fr p then (if g (h * 7 + p) < 1 then l else (if lpC g pr wt k (h + 1) (woI fr (nI p)) = -1 then l else if l = -1 then pr p + lpC g pr wt k (h + 1) (woI fr (nI p)) else if l ≤ pr p + lpC g pr wt k (h + 1) (woI fr (nI p)) then l else pr p + lpC g pr wt k (h + 1) (woI fr (nI p)))) else l) 7 (-1) else lpC g pr wt k (h + 1) fr := rfl
theorem lpC_N {g pr : Nat → Int32} {wt : Int32} {Wt : Nat → Bool} {J : Nat → Nat → Nat} {C : Nat → Nat} (hJ : ∀ h p, J h p ≤ 12) (hC : ∀ p, C p ≤ 60) (hwt : ∀ h, h < 4 → (hasI' wt h ↔ Wt h = true)) :
    ∀ (k h : Nat) (fr : Int32) (F : Nat → Bool), h + k = 4 → FB fr F → (∀ h, Wt h = true → ∀ p, p < 7 → F p = true → g (h * 7 + p) = nI (J h p)) → (∀ p, p < 7 → F p = true → pr p = nI (C p)) → lpC g pr wt k h fr = toO (miN Wt J C k h F) := by
  intro k
  induction k with
  | zero => intro h fr F _ _ _ _; rfl
  | succ k ih =>
    intro h fr F hh hF hG hp
    have hGr : ∀ q, ∀ h, Wt h = true → ∀ p, p < 7 → rmv F q p = true → g (h * 7 + p) = nI (J h p) := fun q h hw p hp7 hr => by
      rw [rmv, Bool.and_eq_true] at hr; exact hG h hw p hp7 hr.1
    have hpr : ∀ q, ∀ p, p < 7 → rmv F q p = true → pr p = nI (C p) := fun q p hp7 hr => by
      rw [rmv, Bool.and_eq_true] at hr; exact hp p hp7 hr.1
    rw [lpC_s, miN_s]
    by_cases hw : hasI' wt h
    · have hw' := (hwt h (by omega)).mp hw
      rw [if_pos hw, if_pos hw']
      have key : ∀ n, n ≤ 7 → foI (fun p l => if hasI' fr p then (if g (h * 7 + p) < 1 then l else (if lpC g pr wt k (h + 1) (woI fr (nI p)) = -1 then l else if l = -1 then pr p + lpC g pr wt k (h + 1) (woI fr (nI p)) else if l ≤ pr p + lpC g pr wt k (h + 1) (woI fr (nI p)) then l else pr p + lpC g pr wt k (h + 1) (woI fr (nI p)))) else l) n (-1) = toO (mnN (fun p => F p && decide (0 < J h p)) (fun p => plO (C p) (miN Wt J C k (h + 1) (rmv F p))) n) := by
        intro n
        induction n with
        | zero => intro _; rfl
        | succ n ihn =>
          intro hn
          rw [foI_s, ihn (by omega), mnN]
          obtain ⟨l, hl⟩ : ∃ l, l = mnN (fun p => F p && decide (0 < J h p)) (fun p => plO (C p) (miN Wt J C k (h + 1) (rmv F p))) n := ⟨_, rfl⟩
          have hlb : ∀ x, l = some x → x ≤ 60 * (k + 1) := fun x hx => by
            rcases mnN_or (fun p => F p && decide (0 < J h p)) (fun p => plO (C p) (miN Wt J C k (h + 1) (rmv F p))) n with ⟨h1, _⟩ | ⟨m', h1, ⟨p, _, _, p3⟩, _⟩
            · rw [hl, h1] at hx; cases hx
            · rw [hl, h1] at hx
              cases hx
              obtain ⟨y, y1, y2⟩ := plO_some p3
              have := miN_le hC _ _ _ _ y1
              have := hC p
              omega
          rw [← hl]
          by_cases q : hasI' fr n
          · have q' := (hF n (by omega)).mp q
            have hj := hJ h n
            rw [if_pos q, hG h hw' n (by omega) q', q', Bool.true_and, ih (h + 1) _ _ (by omega) (FB_wo hF (by omega)) (hGr n) (hpr n), hp n (by omega) q']
            by_cases qj : 0 < J h n
            · rw [if_neg (show ¬ nI (J h n) < (1 : Int32) from nI_nlt (b := 1) qj (by omega)), if_pos (decide_eq_true qj)]
              cases hr : miN Wt J C k (h + 1) (rmv F n) with
              | none =>
                rw [show toO none = -1 from rfl, if_pos rfl]
                cases l <;> rfl
              | some r =>
                have hrb := miN_le hC _ _ _ _ hr
                have hcn := hC n
                rw [show toO (some r) = nI r from rfl, if_neg (nI_m1 (by omega)), nI_add]
                cases l with
                | none => rw [show toO none = -1 from rfl, if_pos rfl]; rfl
                | some x =>
                  have hx := hlb x rfl
                  rw [show toO (some x) = nI x from rfl, if_neg (nI_m1 (by omega))]
                  by_cases z : x ≤ C n + r
                  · rw [if_pos (nI_le z (by omega))]
                    show nI x = nI (min x (C n + r))
                    rw [Nat.min_eq_left z]
                  · rw [if_neg (nI_ge (by omega) (by omega))]
                    show nI (C n + r) = nI (min x (C n + r))
                    rw [Nat.min_eq_right (by omega)]
            · rw [if_pos (show nI (J h n) < (1 : Int32) from nI_lt (b := 1) (by omega) (by decide)), if_neg (by rw [decide_eq_true_eq]; exact qj)]
          · have q' : F n = false := by
              cases hf : F n with
              | false => rfl
              | true => exact absurd ((hF n (by omega)).mpr hf) q
            rw [if_neg q, q', Bool.false_and, if_neg (by decide)]
      exact key 7 (Nat.le_refl 7)
    · rw [if_neg hw, if_neg (fun z => hw ((hwt h (by omega)).mpr z))]
      exact ih (h + 1) fr F (by omega) hF hG hp
/-! codes that fit -/
def fq (Wt : Nat → Bool) (J : Nat → Nat → Nat) (h d : Nat) : Prop := if Wt h = true then d ≠ 0 ∧ 0 < J h (d - 1) else d = 0
def FT (Wt : Nat → Bool) (J : Nat → Nat → Nat) : Nat → Nat → Nat → Prop
  | 0, _, _ => True
  | k + 1, h, c => fq Wt J h (c / 8 ^ k) ∧ FT Wt J k (h + 1) (c % 8 ^ k)
theorem FT_s {Wt : Nat → Bool} {J : Nat → Nat → Nat} {k h c : Nat} : FT Wt J (k + 1) h c ↔ fq Wt J h (c / 8 ^ k) ∧ FT Wt J k (h + 1) (c % 8 ^ k) := Iff.rfl
theorem FT_iff (Wt : Nat → Bool) (J : Nat → Nat → Nat) : ∀ k h c, c < 8 ^ k → (FT Wt J k h c ↔ ∀ i, i < k → fq Wt J (h + i) (dg8 c (k - 1 - i))) := by
  intro k
  induction k with
  | zero => intro h c _; exact ⟨fun _ i hi => absurd hi (Nat.not_lt_zero i), fun _ => trivial⟩
  | succ k ih =>
    intro h c hc
    have hr : c % 8 ^ k < 8 ^ k := Nat.mod_lt c (Nat.pow_pos (by decide))
    rw [FT_s, ih (h + 1) _ hr, ← dg8_top hc]
    constructor
    · rintro ⟨h1, h2⟩ i hi
      cases i with
      | zero => exact h1
      | succ i =>
        have := h2 i (by omega)
        rw [dg8_mod (by omega), show h + 1 + i = h + (i + 1) by omega] at this
        rw [show k + 1 - 1 - (i + 1) = k - 1 - i by omega]
        exact this
    · intro h1
      refine ⟨h1 0 (by omega), fun i hi => ?_⟩
      have := h1 (i + 1) (by omega)
      rw [show k + 1 - 1 - (i + 1) = k - 1 - i by omega] at this
      rw [dg8_mod (by omega), show h + 1 + i = h + (i + 1) by omega]
      exact this
theorem miN_ok {Wt : Nat → Bool} {J : Nat → Nat → Nat} {C : Nat → Nat} {e H : Nat} (hE : ∀ F, miN Wt J C e H F = some 0) : ∀ (k h : Nat) (F : Nat → Bool), h + k = H →
    (miN Wt J C (k + e) h F = none ∧ ∀ c, c < 8 ^ k → okC k F c → ¬ FT Wt J k h c) ∨ ∃ m, miN Wt J C (k + e) h F = some m ∧ (∃ c, c < 8 ^ k ∧ okC k F c ∧ FT Wt J k h c ∧ suC (fun _ p => C p) k h c = m) ∧ ∀ c, c < 8 ^ k → okC k F c → FT Wt J k h c → m ≤ suC (fun _ p => C p) k h c := by
  intro k
  induction k with
  | zero =>
    intro h F hh
    obtain rfl : h = H := by omega
    exact Or.inr ⟨0, by rw [Nat.zero_add]; exact hE F, ⟨0, Nat.one_pos, trivial, trivial, rfl⟩, fun c _ _ _ => Nat.zero_le _⟩
  | succ k ih =>
    intro h F hh
    have hq : 0 < 8 ^ k := Nat.pow_pos (by decide)
    have hp8 : 8 ^ (k + 1) = 8 * 8 ^ k := by rw [Nat.pow_succ, Nat.mul_comm]
    have hdv : ∀ c, c < 8 ^ (k + 1) → c / 8 ^ k < 8 := fun c hc => by
      rw [hp8] at hc; exact Nat.div_lt_of_lt_mul (by rw [Nat.mul_comm]; exact hc)
    have hmd : ∀ c, c % 8 ^ k < 8 ^ k := fun c => Nat.mod_lt c hq
    rw [show k + 1 + e = k + e + 1 by omega, miN_s]
    by_cases hw : Wt h = true
    · rw [if_pos hw]
      have open1 : ∀ c, c < 8 ^ (k + 1) → okC (k + 1) F c → FT Wt J (k + 1) h c → c / 8 ^ k ≠ 0 ∧ c / 8 ^ k - 1 < 7 ∧ (F (c / 8 ^ k - 1) && decide (0 < J h (c / 8 ^ k - 1))) = true ∧ okC k (rmv F (c / 8 ^ k - 1)) (c % 8 ^ k) ∧ FT Wt J k (h + 1) (c % 8 ^ k) := fun c hc hok hft => by
        rw [FT_s, fq, if_pos hw] at hft
        rw [okC_s, if_neg hft.1.1] at hok
        have := hdv c hc
        refine ⟨hft.1.1, ?_, by rw [hok.1, decide_eq_true hft.1.2]; rfl, hok.2, hft.2⟩
        generalize c / 8 ^ k = z at this ⊢
        omega
      rcases mnN_or (fun p => F p && decide (0 < J h p)) (fun p => plO (C p) (miN Wt J C (k + e) (h + 1) (rmv F p))) 7 with ⟨h1, h2⟩ | ⟨m, h1, ⟨p, p1, p2, p3⟩, h3⟩
      · refine Or.inl ⟨h1, fun c hc hok hft => ?_⟩
        obtain ⟨o1, o2, o3, o4, o5⟩ := open1 c hc hok hft
        have := h2 _ o2 o3
        rcases ih (h + 1) (rmv F (c / 8 ^ k - 1)) (by omega) with ⟨i1, i2⟩ | ⟨m, i1, _, _⟩
        · exact i2 _ (hmd c) o4 o5
        · rw [i1] at this; cases this
      · obtain ⟨y, y1, y2⟩ := plO_some p3
        rw [Bool.and_eq_true, decide_eq_true_eq] at p2
        refine Or.inr ⟨m, h1, ?_, fun c hc hok hft => ?_⟩
        · rcases ih (h + 1) (rmv F p) (by omega) with ⟨i1, _⟩ | ⟨m', i1, ⟨c', c1, c2, c3, c4⟩, _⟩
          · rw [i1] at y1; cases y1
          · rw [i1] at y1
            cases y1
            obtain ⟨d1, d2⟩ := dm_8 (a := p + 1) c1
            have hlt : (p + 1) * 8 ^ k ≤ 7 * 8 ^ k := Nat.mul_le_mul_right _ (by omega)
            refine ⟨(p + 1) * 8 ^ k + c', by omega, ?_, ?_, ?_⟩
            · rw [okC_s, d1, d2, if_neg (by omega), Nat.add_sub_cancel]; exact ⟨p2.1, c2⟩
            · rw [FT_s, d1, d2, fq, if_pos hw, Nat.add_sub_cancel]; exact ⟨⟨by omega, p2.2⟩, c3⟩
            · rw [suC_s, d1, d2, if_neg (by omega), Nat.add_sub_cancel, c4, y2]
        · obtain ⟨o1, o2, o3, o4, o5⟩ := open1 c hc hok hft
          rw [suC_s, if_neg o1]
          rcases ih (h + 1) (rmv F (c / 8 ^ k - 1)) (by omega) with ⟨i1, i2⟩ | ⟨m', i1, _, i3⟩
          · exact absurd o5 (i2 _ (hmd c) o4)
          · have j1 := h3 _ o2 o3 (C (c / 8 ^ k - 1) + m') (by rw [i1]; rfl)
            have j2 := i3 _ (hmd c) o4 o5
            omega
    · rw [if_neg hw]
      have open0 : ∀ c, okC (k + 1) F c → FT Wt J (k + 1) h c → c / 8 ^ k = 0 ∧ okC k F (c % 8 ^ k) ∧ FT Wt J k (h + 1) (c % 8 ^ k) := fun c hok hft => by
        rw [FT_s, fq, if_neg hw] at hft
        rw [okC_s, if_pos hft.1] at hok
        exact ⟨hft.1, hok, hft.2⟩
      rcases ih (h + 1) F (by omega) with ⟨i1, i2⟩ | ⟨m, i1, ⟨c', c1, c2, c3, c4⟩, i3⟩
      · refine Or.inl ⟨i1, fun c hc hok hft => ?_⟩
        obtain ⟨o1, o2, o3⟩ := open0 c hok hft
        exact i2 _ (hmd c) o2 o3
      · refine Or.inr ⟨m, i1, ⟨c', by omega, ?_, ?_, ?_⟩, fun c hc hok hft => ?_⟩
        · rw [okC_s, if_pos (Nat.div_eq_of_lt c1), Nat.mod_eq_of_lt c1]; exact c2
        · rw [FT_s, fq, if_neg hw, Nat.mod_eq_of_lt c1]; exact ⟨Nat.div_eq_of_lt c1, c3⟩
        · rw [suC_s, if_pos (Nat.div_eq_of_lt c1), Nat.mod_eq_of_lt c1, Nat.zero_add]; exact c4
        · obtain ⟨o1, o2, o3⟩ := open0 c hok hft
          rw [suC_s, if_pos o1, Nat.zero_add]
          exact i3 _ (hmd c) o2 o3
theorem miN_tail {Wt : Nat → Bool} {J : Nat → Nat → Nat} {C : Nat → Nat} {H : Nat} (hW : ∀ h, H ≤ h → Wt h = false) : ∀ e h F, H ≤ h → miN Wt J C e h F = some 0 := by
  intro e
  induction e with
  | zero => intro h F _; rfl
  | succ e ih =>
    intro h F hh
    rw [miN_s, hW h hh, if_neg (by decide)]
    exact ih (h + 1) F (by omega)
/-- what a code costs, in the reference -/
theorem cc_one {f g8 : Nat → Int32} {Wt : Nat → Bool} {J : Nat → Nat → Nat} {C : Nat → Nat} {P H c k : Nat} {wait : Int32} (hJ12 : ∀ h p, J h p ≤ 12) (hw : ∀ h, h < H → (hasI' wait h ↔ Wt h = true)) (hJ : ∀ h, h < H → ∀ p, p < P → joyF f p h = nI (J h p)) (hc : ∀ p, p < P → priceF f p = nI (C p)) (hok : OKp (wM f P) H c) (hk : k < H) :
    (fq Wt J k (dg8 c (H - 1 - k)) → ccM f (rwM g8 (dgt H) H (c + 1)) wait k = nI (tm8 (fun _ p => C p) k (dg8 c (H - 1 - k)))) ∧ (¬ fq Wt J k (dg8 c (H - 1 - k)) → ccM f (rwM g8 (dgt H) H (c + 1)) wait k = nI 1000000) := by
  have hm := rwM_dg g8 H c k hk
  by_cases d0 : dg8 c (H - 1 - k) = 0
  · rw [dgt_0 d0] at hm
    by_cases q : hasI' wait k
    · have q' := (hw k hk).mp q
      rw [d0, fq, if_pos q', ccM, if_neg (fun z => by rw [fitsM, if_pos q] at z; exact z.1 hm)]
      exact ⟨fun z => absurd rfl z.1, fun _ => rfl⟩
    · have q' : ¬ Wt k = true := fun z => q ((hw k hk).mpr z)
      rw [d0, fq, if_neg q', ccM, if_pos (by rw [fitsM, if_neg q]; exact hm), if_pos hm]
      exact ⟨fun _ => rfl, fun z => absurd rfl z⟩
  · obtain ⟨d, hd⟩ : ∃ d, dg8 c (H - 1 - k) = d + 1 := ⟨dg8 c (H - 1 - k) - 1, by omega⟩
    have hd8 := dg8_lt c (H - 1 - k)
    have hwd := (hok (H - 1 - k) (by omega) d0).1
    rw [hd, Nat.add_sub_cancel, wM, Bool.and_eq_true, decide_eq_true_eq] at hwd
    rw [dgt_e hd] at hm
    have hne : ¬ rwM g8 (dgt H) H (c + 1) k = -1 := by rw [hm]; exact nI_m1 (by omega)
    have hcl : (rwM g8 (dgt H) H (c + 1) k).toNatClampNeg = d := by rw [hm, nI_clamp (by omega)]
    have hj12 := hJ12 k d
    by_cases q : hasI' wait k
    · have q' := (hw k hk).mp q
      rw [hd, fq, if_pos q', Nat.add_sub_cancel]
      by_cases z : 0 < J k d
      · rw [ccM, if_pos (by rw [fitsM, if_pos q, hcl, hJ k hk d hwd.1]; exact ⟨hne, show nI 0 < nI (J k d) from nI_lt z (by omega)⟩), if_neg hne, hcl, hc d hwd.1]
        exact ⟨fun _ => rfl, fun y => absurd ⟨by omega, z⟩ y⟩
      · rw [ccM, if_neg (fun y => by rw [fitsM, if_pos q, hcl, hJ k hk d hwd.1] at y; exact absurd y.2 (show ¬ nI 0 < nI (J k d) from nI_nlt (by omega) (by decide)))]
        exact ⟨fun y => absurd y.2 z, fun _ => rfl⟩
    · have q' : ¬ Wt k = true := fun z => q ((hw k hk).mpr z)
      rw [hd, fq, if_neg q', ccM, if_neg (fun y => by rw [fitsM, if_neg q] at y; exact hne y)]
      exact ⟨fun y => absurd y (Nat.succ_ne_zero d), fun _ => rfl⟩
theorem chS_ok {f g8 : Nat → Int32} {Wt : Nat → Bool} {J : Nat → Nat → Nat} {C : Nat → Nat} {P H : Nat} {wait : Int32} (hH : H ≤ 4) (hJ12 : ∀ h p, J h p ≤ 12) (hC : ∀ p, C p ≤ 60) (hw : ∀ h, h < H → (hasI' wait h ↔ Wt h = true)) (hJ : ∀ h, h < H → ∀ p, p < P → joyF f p h = nI (J h p)) (hc : ∀ p, p < P → priceF f p = nI (C p)) :
    ∀ c, c ≤ 8 ^ H → (chS f g8 P H wait c = farM ∧ ∀ c', c' < c → okC H (wM f P) c' → ¬ FT Wt J H 0 c') ∨ ∃ m, m ≤ 240 ∧ chS f g8 P H wait c = nI m ∧ (∃ c', c' < c ∧ okC H (wM f P) c' ∧ FT Wt J H 0 c' ∧ suC (fun _ p => C p) H 0 c' = m) ∧ ∀ c', c' < c → okC H (wM f P) c' → FT Wt J H 0 c' → m ≤ suC (fun _ p => C p) H 0 c' := by
  have hfar : farM = nI 1000000 := rfl
  intro c
  induction c with
  | zero => intro _; exact Or.inl ⟨rfl, fun c' h => absurd h (Nat.not_lt_zero c')⟩
  | succ c ih =>
    intro hcl
    have hc8 : c < 8 ^ H := by omega
    have ih := ih (by omega)
    have skip : (chS f g8 P H wait (c + 1) = chS f g8 P H wait c) → ¬ (okC H (wM f P) c ∧ FT Wt J H 0 c) → (chS f g8 P H wait (c + 1) = farM ∧ ∀ c', c' < c + 1 → okC H (wM f P) c' → ¬ FT Wt J H 0 c') ∨ ∃ m, m ≤ 240 ∧ chS f g8 P H wait (c + 1) = nI m ∧ (∃ c', c' < c + 1 ∧ okC H (wM f P) c' ∧ FT Wt J H 0 c' ∧ suC (fun _ p => C p) H 0 c' = m) ∧ ∀ c', c' < c + 1 → okC H (wM f P) c' → FT Wt J H 0 c' → m ≤ suC (fun _ p => C p) H 0 c' := by
      intro he hn
      rw [he]
      rcases ih with ⟨i1, i2⟩ | ⟨m, m1, m2, ⟨c', c1, c2⟩, m4⟩
      · refine Or.inl ⟨i1, fun c' h hok hft => ?_⟩
        by_cases e : c' = c
        · exact hn ⟨e ▸ hok, e ▸ hft⟩
        · exact i2 c' (by omega) hok hft
      · refine Or.inr ⟨m, m1, m2, ⟨c', by omega, c2⟩, fun c' h hok hft => ?_⟩
        by_cases e : c' = c
        · exact absurd ⟨e ▸ hok, e ▸ hft⟩ hn
        · exact m4 c' (by omega) hok hft
    have hok := (okM_iff f P c H).trans (okC_iff H (wM f P) c hc8).symm
    by_cases q : okM f P c H = true
    · have hop := (okM_iff f P c H).mp q
      rw [chS_y q] at skip ⊢
      have one := fun k hk => cc_one (g8 := g8) (Wt := Wt) (J := J) (C := C) (k := k) hJ12 hw hJ hc hop hk
      by_cases hft : FT Wt J H 0 c
      · have hd := (FT_iff Wt J H 0 c hc8).mp hft
        have hsum : smI (ccM f (rwM g8 (dgt H) H (c + 1)) wait) H = nI (suC (fun _ p => C p) H 0 c) := by
          rw [suC_sum _ H 0 c hc8]
          refine smI_N (fun k hk => ?_)
          rw [Nat.zero_add]
          have := hd k hk
          rw [Nat.zero_add] at this
          exact (one k hk).1 this
        have hb : suC (fun _ p => C p) H 0 c ≤ 240 := by
          rw [suC_sum _ H 0 c hc8]
          have := smN_le (g := fun i => tm8 (fun _ p => C p) (0 + i) (dg8 c (H - 1 - i))) (b := 60) (n := H) (fun k _ => by
            rw [tm8]; split
            · omega
            · exact hC _)
          omega
        rw [hsum] at skip ⊢
        rcases ih with ⟨i1, i2⟩ | ⟨m, m1, m2, ⟨c', c1, c2⟩, m4⟩
        · rw [i1, hfar, if_pos (nI_lt (by omega) (by omega))]
          refine Or.inr ⟨_, hb, rfl, ⟨c, by omega, hok.mp q, hft, rfl⟩, fun c' h ho hf => ?_⟩
          by_cases e : c' = c
          · rw [e]; exact Nat.le_refl _
          · exact absurd hf (i2 c' (by omega) ho)
        · rw [m2]
          by_cases z : suC (fun _ p => C p) H 0 c < m
          · rw [if_pos (nI_lt z (by omega))]
            refine Or.inr ⟨_, hb, rfl, ⟨c, by omega, hok.mp q, hft, rfl⟩, fun c' h ho hf => ?_⟩
            by_cases e : c' = c
            · rw [e]; exact Nat.le_refl _
            · have := m4 c' (by omega) ho hf; omega
          · rw [if_neg (nI_nlt (by omega) (by omega))]
            refine Or.inr ⟨m, m1, rfl, ⟨c', by omega, c2⟩, fun c' h ho hf => ?_⟩
            by_cases e : c' = c
            · rw [e]; omega
            · exact m4 c' (by omega) ho hf
      · refine skip (if_neg ?_) (fun z => hft z.2)
        have hnd := fun z => hft ((FT_iff Wt J H 0 c hc8).mpr z)
        obtain ⟨k, hk⟩ := Classical.not_forall.mp hnd
        obtain ⟨hkH, hk⟩ := Classical.not_imp.mp hk
        rw [Nat.zero_add] at hk
        have hall : ∀ k, k < H → ∃ y, y ≤ 1000000 ∧ ccM f (rwM g8 (dgt H) H (c + 1)) wait k = nI y := fun k hk => by
          by_cases z : fq Wt J k (dg8 c (H - 1 - k))
          · refine ⟨_, ?_, (one k hk).1 z⟩
            rw [tm8]; split
            · omega
            · have := hC (dg8 c (H - 1 - k) - 1); omega
          · exact ⟨_, Nat.le_refl _, (one k hk).2 z⟩
        have hsum : smI (ccM f (rwM g8 (dgt H) H (c + 1)) wait) H = nI (smN (fun k => (ccM f (rwM g8 (dgt H) H (c + 1)) wait k).toNatClampNeg) H) := smI_N (fun k hk => by
          obtain ⟨y, y1, y2⟩ := hall k hk
          rw [y2, nI_clamp (by omega)])
        have h1 := smN_one (g := fun k => (ccM f (rwM g8 (dgt H) H (c + 1)) wait k).toNatClampNeg) hkH
        rw [(one k hkH).2 hk, nI_clamp (by omega)] at h1
        have h2 : smN (fun k => (ccM f (rwM g8 (dgt H) H (c + 1)) wait k).toNatClampNeg) H ≤ 1000000 * H := smN_le (fun k hk => by
          obtain ⟨y, y1, y2⟩ := hall k hk
          rw [y2, nI_clamp (by omega)]; exact y1)
        rw [hsum]
        rcases ih with ⟨i1, _⟩ | ⟨m, m1, m2, _, _⟩
        · rw [i1, hfar]; exact nI_nlt h1 (by omega)
        · rw [m2]; exact nI_nlt (by omega) (by omega)
    · exact skip (chS_n q) (fun z => q (hok.mpr z.1))
theorem cheap_eq {f g8 g pr : Nat → Int32} {wt win : Int32} {Wt : Nat → Bool} {J : Nat → Nat → Nat} {C : Nat → Nat} {P H : Nat} (hP : P ≤ 7) (hH : H ≤ 4) (hJ12 : ∀ h p, J h p ≤ 12) (hC : ∀ p, C p ≤ 60) (hwt : ∀ h, h < 4 → (hasI' wt h ↔ Wt h = true)) (hWH : ∀ h, H ≤ h → Wt h = false) (hJ : ∀ h, h < H → ∀ p, p < P → joyF f p h = nI (J h p)) (hc : ∀ p, p < P → priceF f p = nI (C p))
    (hF : FB win (wM f P)) (hG : GN g J H (wM f P)) (hp : ∀ p, p < 7 → wM f P p = true → pr p = nI (C p)) : (if chS f g8 P H wt (8 ^ H) = farM then -1 else chS f g8 P H wt (8 ^ H)) = lpC g pr wt 4 0 win := by
  have hfar : farM = nI 1000000 := rfl
  rw [lpC_N hJ12 hC hwt 4 0 win (wM f P) rfl hF (fun h hw p hp7 hFp => hG h (by rcases Nat.lt_or_ge h H with z | z; exact z; rw [hWH h z] at hw; cases hw) p hp7 hFp) hp]
  have m := miN_ok (Wt := Wt) (J := J) (C := C) (e := 4 - H) (H := H) (fun F => miN_tail hWH (4 - H) H F (Nat.le_refl H)) H 0 (wM f P) (by omega)
  rw [show H + (4 - H) = 4 by omega] at m
  rcases chS_ok (g8 := g8) (wait := wt) hH hJ12 hC (fun h hh => hwt h (by omega)) hJ hc (8 ^ H) (Nat.le_refl _) with ⟨c1, c2⟩ | ⟨x, x1, x2, ⟨c', y1, y2, y3, y4⟩, x4⟩
  · rw [if_pos c1]
    rcases m with ⟨m1, _⟩ | ⟨z, m1, ⟨c, z1, z2, z3, _⟩, _⟩
    · rw [m1]; rfl
    · exact absurd z3 (c2 c z1 z2)
  · rw [x2, if_neg (by rw [hfar]; intro e; have := (nI_eq (by omega) (by omega)).mp e; omega)]
    rcases m with ⟨m1, m2⟩ | ⟨z, m1, ⟨c, z1, z2, z3, z4⟩, z5⟩
    · exact absurd y3 (m2 c' y1 y2)
    · have e1 := x4 c z1 z2 z3
      have e2 := z5 c' y1 y2 y3
      rw [m1, show x = z by omega]; rfl
