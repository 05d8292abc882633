/-! codes by their digits; what the reference's scan of all codes comes to -/
def dg8 (c i : Nat) : Nat := c / 8 ^ i % 8
def OKp (W : Nat → Bool) (n c : Nat) : Prop := ∀ i, i < n → dg8 c i ≠ 0 → W (dg8 c i - 1) = true ∧ ∀ j, j < i → dg8 c j ≠ dg8 c i
theorem dg8_mod {c k j : Nat} (h : j < k) : dg8 (c % 8 ^ k) j = dg8 c j := by
  have e : 8 ^ k = 8 ^ j * (8 * 8 ^ (k - 1 - j)) := by
    rw [← Nat.pow_succ', ← Nat.pow_add]; congr 1; omega
  rw [dg8, e, Nat.mod_mul_right_div_self, Nat.mod_mul_right_mod, dg8]
theorem dg8_top {c k : Nat} (h : c < 8 ^ (k + 1)) : dg8 c k = c / 8 ^ k := by
  rw [dg8]
  refine Nat.mod_eq_of_lt (Nat.div_lt_of_lt_mul ?_)
  rw [Nat.pow_succ] at h; exact h
theorem dg8_lt (c k : Nat) : dg8 c k < 8 := Nat.mod_lt _ (by decide)
theorem OKp_s {W : Nat → Bool} {n c : Nat} : OKp W (n + 1) c ↔ OKp W n c ∧ (dg8 c n ≠ 0 → W (dg8 c n - 1) = true ∧ ∀ j, j < n → dg8 c j ≠ dg8 c n) := by
  constructor
  · intro h
    exact ⟨fun i hi => h i (by omega), h n (by omega)⟩
  · rintro ⟨h1, h2⟩ i hi
    by_cases e : i = n
    · subst e; exact h2
    · exact h1 i (by omega)
theorem OKp_mod {W : Nat → Bool} {c k : Nat} : OKp W k (c % 8 ^ k) ↔ OKp W k c := by
  constructor
  · intro h i hi hd
    have := h i hi (by rw [dg8_mod hi]; exact hd)
    rw [dg8_mod hi] at this
    exact ⟨this.1, fun j hj => by have q := this.2 j hj; rw [dg8_mod (by omega)] at q; exact q⟩
  · intro h i hi hd
    rw [dg8_mod hi] at hd ⊢
    exact ⟨(h i hi hd).1, fun j hj => by rw [dg8_mod (by omega)]; exact (h i hi hd).2 j hj⟩
theorem okC_iff : ∀ (k : Nat) (F : Nat → Bool) (c : Nat), c < 8 ^ k → (okC k F c ↔ OKp F k c) := by
  intro k
  induction k with
  | zero => intro F c _; exact ⟨fun _ i hi => absurd hi (Nat.not_lt_zero i), fun _ => trivial⟩
  | succ k ih =>
    intro F c hc
    have hr : c % 8 ^ k < 8 ^ k := Nat.mod_lt c (Nat.pow_pos (by decide))
    rw [okC_s, OKp_s, ← dg8_top hc]
    by_cases d0 : dg8 c k = 0
    · rw [if_pos d0, ih F _ hr, OKp_mod]
      exact ⟨fun h => ⟨h, fun z => absurd d0 z⟩, fun h => h.1⟩
    · rw [if_neg d0, ih _ _ hr, OKp_mod]
      constructor
      · rintro ⟨h1, h2⟩
        have key : ∀ i, i < k → dg8 c i ≠ 0 → F (dg8 c i - 1) = true ∧ dg8 c i ≠ dg8 c k := fun i hi hd => by
          have q := (h2 i hi hd).1
          rw [rmv, Bool.and_eq_true, Bool.not_eq_true', decide_eq_false_iff_not] at q
          exact ⟨q.1, fun z => q.2 (by rw [z])⟩
        refine ⟨fun i hi hd => ⟨(key i hi hd).1, (h2 i hi hd).2⟩, fun _ => ⟨h1, fun j hj => ?_⟩⟩
        by_cases e : dg8 c j = 0
        · rw [e]; exact fun z => d0 z.symm
        · exact (key j hj e).2
      · rintro ⟨h1, h2⟩
        obtain ⟨h3, h4⟩ := h2 d0
        refine ⟨h3, fun i hi hd => ⟨?_, (h1 i hi hd).2⟩⟩
        rw [rmv, Bool.and_eq_true, Bool.not_eq_true', decide_eq_false_iff_not]
        exact ⟨(h1 i hi hd).1, fun z => h4 i hi (by omega)⟩
def wM (f : Nat → Int32) (P : Nat) : Nat → Bool := fun p => decide (p < P) && decide (f (7 + p) = 0)
theorem usM_bit (c : Nat) {e : Nat} (he : e < 7) : ∀ n, hasI' (usM c n) e ↔ ∃ j, j < n ∧ dg8 c j = e + 1 := by
  intro n
  induction n with
  | zero =>
    rw [hasI_bt (by omega), usM, b_0]
    exact ⟨fun h => Bool.noConfusion h, fun ⟨j, hj, _⟩ => absurd hj (Nat.not_lt_zero j)⟩
  | succ n ih =>
    have split : (∃ j, j < n + 1 ∧ dg8 c j = e + 1) ↔ (∃ j, j < n ∧ dg8 c j = e + 1) ∨ dg8 c n = e + 1 := by
      constructor
      · rintro ⟨j, hj, h⟩
        by_cases q : j = n
        · subst q; exact Or.inr h
        · exact Or.inl ⟨j, by omega, h⟩
      · rintro (⟨j, hj, h⟩ | h)
        · exact ⟨j, by omega, h⟩
        · exact ⟨n, by omega, h⟩
    rw [split, ← ih]
    by_cases d0 : c / 8 ^ n % 8 = 0
    · rw [usM_0 d0]
      exact ⟨Or.inl, fun h => h.elim id (fun h => by rw [dg8, d0] at h; omega)⟩
    · obtain ⟨d, hd⟩ : ∃ d, c / 8 ^ n % 8 = d + 1 := ⟨c / 8 ^ n % 8 - 1, by omega⟩
      have hd8 : d < 7 := by have := dg8_lt c n; rw [dg8] at this; omega
      rw [usM_e hd, hasI_bt (by omega), b_or, bt_sh (by omega) (by omega), Bool.or_eq_true, ← hasI_bt (by omega), decide_eq_true_eq, dg8, hd]
      exact or_congr Iff.rfl ⟨fun h => by omega, fun h => by omega⟩
theorem okM_iff (f : Nat → Int32) (P c : Nat) : ∀ n, okM f P c n = true ↔ OKp (wM f P) n c := by
  intro n
  induction n with
  | zero => exact ⟨fun _ i hi => absurd hi (Nat.not_lt_zero i), fun _ => rfl⟩
  | succ n ih =>
    rw [OKp_s, ← ih]
    by_cases d0 : c / 8 ^ n % 8 = 0
    · rw [okM_0 d0]
      exact ⟨fun h => ⟨h, fun z => absurd d0 z⟩, fun h => h.1⟩
    · obtain ⟨d, hd⟩ : ∃ d, c / 8 ^ n % 8 = d + 1 := ⟨c / 8 ^ n % 8 - 1, by omega⟩
      have hd8 : d < 7 := by have := dg8_lt c n; rw [dg8] at this; omega
      have e : dg8 c n = d + 1 := hd
      rw [okM_e hd, e, Nat.add_sub_cancel, wM]
      simp only [Bool.and_eq_true, Bool.not_eq_true', decide_eq_true_eq, decide_eq_false_iff_not, usM_bit c hd8 n, not_exists, not_and]
      constructor
      · rintro ⟨⟨⟨h1, h2⟩, h3⟩, h4⟩
        exact ⟨h1, fun _ => ⟨⟨h2, h3⟩, h4⟩⟩
      · rintro ⟨h1, h2⟩
        have h3 := h2 (Nat.succ_ne_zero d)
        exact ⟨⟨⟨h1, h3.1.1⟩, h3.1.2⟩, h3.2⟩
def smN (g : Nat → Nat) : Nat → Nat
  | 0 => 0
  | n + 1 => smN g n + g n
theorem smN_congr {f g : Nat → Nat} : ∀ {n : Nat}, (∀ k, k < n → f k = g k) → smN f n = smN g n := by
  intro n
  induction n with
  | zero => intro _; rfl
  | succ n ih => intro h; rw [smN, smN, ih (fun k hk => h k (by omega)), h n (by omega)]
theorem smN_front (g : Nat → Nat) : ∀ n, smN g (n + 1) = g 0 + smN (fun i => g (i + 1)) n := by
  intro n
  induction n with
  | zero => rw [smN, smN, smN, Nat.zero_add]; rfl
  | succ n ih => rw [smN, ih, smN, Nat.add_assoc]
theorem smI_N {f : Nat → Int32} {g : Nat → Nat} : ∀ {n : Nat}, (∀ k, k < n → f k = nI (g k)) → smI f n = nI (smN g n) := by
  intro n
  induction n with
  | zero => intro _; rfl
  | succ n ih => intro h; rw [smI, smN, ih (fun k hk => h k (by omega)), h n (by omega), nI_add]
def tm8 (J : Nat → Nat → Nat) (h d : Nat) : Nat := if d = 0 then 0 else J h (d - 1)
theorem suC_sum (J : Nat → Nat → Nat) : ∀ k h c, c < 8 ^ k → suC J k h c = smN (fun i => tm8 J (h + i) (dg8 c (k - 1 - i))) k := by
  intro k
  induction k with
  | zero => intro h c _; rfl
  | succ k ih =>
    intro h c hc
    have hr : c % 8 ^ k < 8 ^ k := Nat.mod_lt c (Nat.pow_pos (by decide))
    rw [suC_s, smN_front, ih (h + 1) _ hr, ← dg8_top hc]
    refine congr (congrArg _ ?_) (smN_congr (fun i hi => ?_))
    · simp only [tm8, Nat.add_zero, Nat.add_sub_cancel, Nat.sub_zero]
    · rw [dg8_mod (by omega), show h + 1 + i = h + (i + 1) by omega, show k + 1 - 1 - (i + 1) = k - 1 - i by omega]
theorem dgt_0 {H c h : Nat} (hd : dg8 c (H - 1 - h) = 0) : dgt H c h = -1 := by
  show nI (dg8 c (H - 1 - h)) - 1 = -1
  rw [hd]; decide
theorem dgt_e {H c h e : Nat} (hd : dg8 c (H - 1 - h) = e + 1) : dgt H c h = nI e := by
  show nI (dg8 c (H - 1 - h)) - 1 = nI e
  rw [hd, nI_pred]
/-- the joy of a code, in the reference -/
theorem sj_sum {f g8 : Nat → Int32} {J : Nat → Nat → Nat} {P H c : Nat} (hJ : ∀ h, h < H → ∀ p, p < P → joyF f p h = nI (J h p)) (hc : c < 8 ^ H) (hok : OKp (wM f P) H c) : smI (sjM f (rwM g8 (dgt H) H (c + 1))) H = nI (suC J H 0 c) := by
  rw [suC_sum J H 0 c hc]
  refine smI_N (fun k hk => ?_)
  have hm := rwM_dg g8 H c k hk
  rw [Nat.zero_add, tm8]
  by_cases d0 : dg8 c (H - 1 - k) = 0
  · rw [if_pos d0, sjM_n (hm.trans (dgt_0 d0))]; rfl
  · obtain ⟨d, hd⟩ : ∃ d, dg8 c (H - 1 - k) = d + 1 := ⟨dg8 c (H - 1 - k) - 1, by omega⟩
    have hd8 := dg8_lt c (H - 1 - k)
    have hw := (hok (H - 1 - k) (by omega) d0).1
    rw [hd, Nat.add_sub_cancel, wM, Bool.and_eq_true, decide_eq_true_eq] at hw
    rw [if_neg d0, hd, Nat.add_sub_cancel, sjM_e (hm.trans (dgt_e hd)) (by omega)]
    exact hJ k hk d hw.1
/-- the scan: below the greedy code less joy, from there on the greedy code -/
theorem ftS_ok {f g8 g9 : Nat → Int32} {J : Nat → Nat → Nat} {P H : Nat} (hH : H ≤ 4) (hJ12 : ∀ h p, J h p ≤ 12) (hJ : ∀ h, h < H → ∀ p, p < P → joyF f p h = nI (J h p)) :
    ∀ c, c ≤ 8 ^ H → (c ≤ gC J H 0 (wM f P) → ((ftS f g8 g9 P H c).1 = -1 ∨ ∃ m, m < mjN J H 0 (wM f P) ∧ (ftS f g8 g9 P H c).1 = nI m)) ∧ (gC J H 0 (wM f P) < c → (ftS f g8 g9 P H c).1 = nI (mjN J H 0 (wM f P)) ∧ ∀ k, k < H → (ftS f g8 g9 P H c).2 k = dgt H (gC J H 0 (wM f P)) k) := by
  obtain ⟨g1, g2, g3, g4, g5⟩ := gC_ok J H 0 (wM f P)
  have hM := mjN_le hJ12 H 0 (wM f P)
  generalize gC J H 0 (wM f P) = G at g1 g2 g3 g5 ⊢
  generalize mjN J H 0 (wM f P) = M at g3 g4 g5 hM ⊢
  intro c
  induction c with
  | zero => intro _; exact ⟨fun _ => Or.inl rfl, fun h => absurd h (Nat.not_lt_zero _)⟩
  | succ c ih =>
    intro hc
    obtain ⟨i1, i2⟩ := ih (by omega)
    have hok := (okM_iff f P c H).trans (okC_iff H (wM f P) c (by omega)).symm
    by_cases q : okM f P c H = true
    · have hsum := sj_sum (g8 := g8) hJ (by omega) ((okM_iff f P c H).mp q)
      have hok' := hok.mp q
      have hle := g4 c (by omega) hok'
      rcases Nat.lt_trichotomy c G with hlt | heq | hgt
      · have hl := g5 c hlt hok'
        refine ⟨fun _ => ?_, fun h => absurd h (by omega)⟩
        by_cases q2 : (ftS f g8 g9 P H c).1 < smI (sjM f (rwM g8 (dgt H) H (c + 1))) H
        · rw [ftS_hi q q2]; exact Or.inr ⟨_, hl, hsum⟩
        · rw [ftS_lo q q2]; exact i1 (by omega)
      · subst heq
        refine ⟨fun h => absurd h (by omega), fun _ => ?_⟩
        have q2 : (ftS f g8 g9 P H c).1 < smI (sjM f (rwM g8 (dgt H) H (c + 1))) H := by
          rw [hsum, g3]
          rcases i1 (by omega) with h | ⟨m, hm, h⟩
          · rw [h]
            have : (0 : Int32) ≤ nI M := nI_pos' (by omega)
            exact Int32.lt_of_lt_of_le (by decide) this
          · rw [h]; exact nI_lt hm (by omega)
        rw [ftS_hi q q2]
        refine ⟨by rw [hsum, g3], fun k hk => ?_⟩
        show tmF _ _ 4 k = _
        rw [tmF, if_pos (by omega), rwM_dg g8 H c k hk]
      · obtain ⟨j1, j2⟩ := i2 hgt
        have q2 : ¬ (ftS f g8 g9 P H c).1 < smI (sjM f (rwM g8 (dgt H) H (c + 1))) H := by
          rw [j1, hsum]; exact nI_nlt hle (by omega)
        rw [ftS_lo q q2]
        exact ⟨fun h => absurd h (by omega), fun _ => ⟨j1, j2⟩⟩
    · rw [ftS_no q]
      have hne : c ≠ G := fun e => q (hok.mpr (e ▸ g2))
      exact ⟨fun h => i1 (by omega), fun h => i2 (by omega)⟩
/-! the class's search -/
def FB (fr : Int32) (F : Nat → Bool) : Prop := ∀ p, p < 7 → (hasI' fr p ↔ F p = true)
theorem FB_wo {fr : Int32} {F : Nat → Bool} (h : FB fr F) {p : Nat} (hp : p < 7) : FB (woI fr (nI p)) (rmv F p) := by
  intro q hq
  rw [hasI_bt (by omega), bt_wo (by omega) (by omega), Bool.and_eq_true, ← hasI_bt (by omega), h q hq, rmv, Bool.and_eq_true]
def GN (g : Nat → Int32) (J : Nat → Nat → Nat) (H : Nat) (F : Nat → Bool) : Prop := ∀ h, h < H → ∀ p, p < 7 → F p = true → g (h * 7 + p) = nI (J h p)
theorem GN_rmv {g : Nat → Int32} {J : Nat → Nat → Nat} {H : Nat} {F : Nat → Bool} (h : GN g J H F) (p : Nat) : GN g J H (rmv F p) := by
  intro a ha q hq hF
  rw [rmv, Bool.and_eq_true] at hF
  exact h a ha q hq hF.1
theorem foI_s (f : Nat → Int32 → Int32) (n : Nat) (a : Int32) : foI f (n + 1) a = f n (foI f n a) := rfl
theorem mjC_s (g : Nat → Int32) (k h : Nat) (fr : Int32) : mjC g (k + 1) h fr = foI (fun p m => if hasI' fr p then xmax m (g (h * 7 + p) + mjC g k (h + 1) (woI fr (nI p))) else m) 7 (mjC g k (h + 1) fr) := rfl
theorem mjC_N {g : Nat → Int32} {J : Nat → Nat → Nat} {H : Nat} (hJ : ∀ h p, J h p ≤ 12) : ∀ (k h : Nat) (fr : Int32) (F : Nat → Bool), k ≤ 4 → h + k ≤ H → FB fr F → GN g J H F → mjC g k h fr = nI (mjN J k h F) := by
  intro k
  induction k with
  | zero => intro h fr F _ _ _ _; rfl
  | succ k ih =>
    intro h fr F hk hh hF hG
    have hb0 := mjN_le hJ k (h + 1) F
    have key : ∀ n, n ≤ 7 → foI (fun p m => if hasI' fr p then xmax m (g (h * 7 + p) + mjC g k (h + 1) (woI fr (nI p))) else m) n (mjC g k (h + 1) fr) = nI (mxN F (fun p => J h p + mjN J k (h + 1) (rmv F p)) n (mjN J k (h + 1) F)) := by
      intro n
      induction n with
      | zero => intro _; exact ih (h + 1) fr F (by omega) (by omega) hF hG
      | succ n ihn =>
        intro hn
        have hbn : mxN F (fun p => J h p + mjN J k (h + 1) (rmv F p)) n (mjN J k (h + 1) F) ≤ 1000 := mxN_le _ _ _ n _ (by omega) (fun p _ _ => by have := mjN_le hJ k (h + 1) (rmv F p); have := hJ h p; omega)
        have hbp := mjN_le hJ k (h + 1) (rmv F n)
        have hjp := hJ h n
        rw [foI_s, ihn (by omega), mxN]
        by_cases q : hasI' fr n
        · have q' := (hF n (by omega)).mp q
          rw [if_pos q, if_pos q', hG h (by omega) n (by omega) q', ih (h + 1) _ _ (by omega) (by omega) (FB_wo hF (by omega)) (GN_rmv hG n), nI_add, xmax_N (by omega) (by omega)]
        · rw [if_neg q, if_neg (fun z => q ((hF n (by omega)).mpr z))]
    rw [mjC_s, key 7 (Nat.le_refl 7), mjN_s]
theorem scanI_congr {f g : Nat → Bool} : ∀ {n k : Nat}, (∀ i, i < n → f (k + i) = g (k + i)) → scanI f n k = scanI g n k := by
  intro n
  induction n with
  | zero => intro k _; rfl
  | succ n ih =>
    intro k h
    have h0 := h 0 (by omega)
    rw [Nat.add_zero] at h0
    rw [scanI, scanI, h0, ih (k := k + 1) (fun i hi => by rw [show k + 1 + i = k + (i + 1) by omega]; exact h (i + 1) (by omega))]
theorem ffC_N {g : Nat → Int32} {J : Nat → Nat → Nat} {H : Nat} (hJ : ∀ h p, J h p ≤ 12) {k h : Nat} {fr : Int32} {F : Nat → Bool} (hk : k + 1 ≤ 4) (hh : h + (k + 1) ≤ H) (hF : FB fr F) (hG : GN g J H F) : ffC g k h fr = if mjN J k (h + 1) F = mjN J (k + 1) h F then -1 else nI (fi J k h F) := by
  have e1 := mjC_N (g := g) hJ k (h + 1) fr F (by omega) (by omega) hF hG
  have e2 := mjC_N (g := g) hJ (k + 1) h fr F hk hh hF hG
  have b1 := mjN_le hJ k (h + 1) F
  have b2 := mjN_le hJ (k + 1) h F
  rw [ffC, e1, e2]
  by_cases q : mjN J k (h + 1) F = mjN J (k + 1) h F
  · rw [if_pos q, if_pos (by rw [q])]
  · rw [if_neg q, if_neg (fun z => q ((nI_eq (by omega) (by omega)).mp z)), ← (fi_ok q).2.2.2.2]
    refine scanI_congr (fun p hp => ?_)
    rw [Nat.zero_add, fiB]
    by_cases hp2 : hasI' fr p
    · have q' := (hF p hp).mp hp2
      have b3 := mjN_le hJ k (h + 1) (rmv F p)
      have b4 := hJ h p
      rw [q', Bool.true_and, hG h (by omega) p hp q', mjC_N hJ k (h + 1) _ _ (by omega) (by omega) (FB_wo hF hp) (GN_rmv hG p), nI_add]
      exact decide_eq_decide.mpr ⟨fun z => (nI_eq (by omega) (by omega)).mp z.2, fun z => ⟨hp2, by rw [z]⟩⟩
    · have q' : F p = false := by
        cases hf : F p with
        | false => rfl
        | true => exact absurd ((hF p hp).mpr hf) hp2
      rw [q', Bool.false_and, decide_eq_false (fun z => hp2 z.1)]
theorem fitS_s (g : Nat → Int32) (H : Nat) (fr : Int32) (i : Nat) : fitS g H fr (i + 1) = (ffC g (H - i - 1) i (fitS g H fr i).2, if ffC g (H - i - 1) i (fitS g H fr i).2 = -1 then (fitS g H fr i).2 else woI (fitS g H fr i).2 (ffC g (H - i - 1) i (fitS g H fr i).2)) := rfl
theorem fitS_N {g : Nat → Int32} {J : Nat → Nat → Nat} {H : Nat} (hH : H ≤ 4) (hJ : ∀ h p, J h p ≤ 12) {fr : Int32} {W : Nat → Bool} (hF : FB fr W) (hG : GN g J H W) :
    ∀ i, i ≤ H → (∃ F, FB (fitS g H fr i).2 F ∧ GN g J H F ∧ gC J H 0 W % 8 ^ (H - i) = gC J (H - i) i F) ∧ (i < H → (fitS g H fr (i + 1)).1 = dgt H (gC J H 0 W) i) := by
  intro i
  have step : ∀ i, i < H → (∃ F, FB (fitS g H fr i).2 F ∧ GN g J H F ∧ gC J H 0 W % 8 ^ (H - i) = gC J (H - i) i F) → (fitS g H fr (i + 1)).1 = dgt H (gC J H 0 W) i ∧ ∃ F, FB (fitS g H fr (i + 1)).2 F ∧ GN g J H F ∧ gC J H 0 W % 8 ^ (H - (i + 1)) = gC J (H - (i + 1)) (i + 1) F := by
    rintro i hi ⟨F, f1, f2, f3⟩
    obtain ⟨k, hk⟩ : ∃ k, H - i = k + 1 := ⟨H - i - 1, by omega⟩
    have hff := ffC_N hJ (k := k) (h := i) (by omega) (by omega) f1 f2
    have hkk : H - i - 1 = k := by omega
    have hk2 : H - (i + 1) = k := by omega
    have hk3 : H - 1 - i = k := by omega
    have e8 : 8 ^ (k + 1) = 8 ^ k * 8 := Nat.pow_succ ..
    have hdg : dg8 (gC J H 0 W) k = gC J (k + 1) i F / 8 ^ k := by
      rw [← hk, ← f3, hk, e8, Nat.mod_mul_right_div_self, dg8]
    have hmd : gC J H 0 W % 8 ^ k = gC J (k + 1) i F % 8 ^ k := by
      rw [← hk, ← f3, hk, e8, Nat.mod_mul_right_mod]
    rw [fitS_s, hkk, hff, hk2, hmd, gC_s]
    rw [gC_s] at hdg
    by_cases q : mjN J k (i + 1) F = mjN J (k + 1) i F
    · have hg := (gC_ok J k (i + 1) F).1
      rw [if_pos q] at hdg ⊢
      rw [if_pos q, if_pos rfl]
      refine ⟨?_, F, f1, f2, Nat.mod_eq_of_lt hg⟩
      rw [Nat.div_eq_of_lt hg] at hdg
      exact (dgt_0 (by rw [hk3]; exact hdg)).symm
    · have hg := (gC_ok J k (i + 1) (rmv F (fi J k i F))).1
      obtain ⟨p7, -⟩ := fi_ok q
      rw [if_neg q] at hdg ⊢
      rw [if_neg q, if_neg (nI_m1 (by omega))]
      obtain ⟨d1, d2⟩ := dm_8 (a := fi J k i F + 1) hg
      refine ⟨?_, rmv F (fi J k i F), FB_wo f1 p7, GN_rmv f2 _, d2⟩
      rw [d1] at hdg
      exact (dgt_e (by rw [hk3]; exact hdg)).symm
  have all : ∀ i, i ≤ H → ∃ F, FB (fitS g H fr i).2 F ∧ GN g J H F ∧ gC J H 0 W % 8 ^ (H - i) = gC J (H - i) i F := by
    intro i
    induction i with
    | zero => intro _; exact ⟨W, hF, hG, Nat.mod_eq_of_lt (gC_ok J H 0 W).1⟩
    | succ i ih => intro hi; exact (step i (by omega) (ih (by omega))).2
  intro hi
  exact ⟨all i hi, fun h => (step i h (all i hi)).1⟩
