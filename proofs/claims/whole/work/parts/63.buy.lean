/-! what a purse should buy -/
theorem bt_nI (n : Nat) {i : Nat} (hi : i < 32) : bt (nI n) i = n.testBit i := by
  show (BitVec.ofNat 32 n).getLsbD i = _
  rw [BitVec.getLsbD_ofNat, decide_eq_true hi, Bool.true_and]
theorem hasI_nI {n p : Nat} (hp : p < 32) : hasI' (nI n) p ↔ n.testBit p = true := by rw [hasI_bt hp, bt_nI n hp]
def sbN (bits : Int32) (c : Nat → Nat) (p : Nat) : Nat := if hasI' bits p then c p else 0
theorem sumV_s (f : Nat → Int32) (s : Nat) (bits : Int32) (n : Nat) : sumV f s bits (n + 1) = if hasI' bits n then sumV f s bits n + f (s + n) else sumV f s bits n := rfl
theorem sumV_N {v : Nat → Int32} {c : Nat → Nat} {s : Nat} {bits : Int32} {F : Nat → Bool} (hv : ∀ p, p < 7 → F p = true → v (s + p) = nI (c p)) (hb : ∀ p, p < 7 → hasI' bits p → F p = true) : ∀ n, n ≤ 7 → sumV v s bits n = nI (smN (sbN bits c) n) := by
  intro n
  induction n with
  | zero => intro _; rfl
  | succ n ih =>
    intro hn
    rw [sumV_s, smN, ih (by omega), sbN]
    by_cases q : hasI' bits n
    · rw [if_pos q, if_pos q, hv n (by omega) (hb n (by omega) q), nI_add]
    · rw [if_neg q, if_neg q, Nat.add_zero]
theorem smN_pad {g : Nat → Nat} {P : Nat} : ∀ n, (∀ k, P ≤ k → k < P + n → g k = 0) → smN g (P + n) = smN g P := by
  intro n
  induction n with
  | zero => intro _; rfl
  | succ n ih =>
    intro h
    rw [← Nat.add_assoc, smN, ih (fun k h1 h2 => h k h1 (by omega)), h (P + n) (by omega) (by omega), Nat.add_zero]
theorem smN_le {g : Nat → Nat} {b : Nat} : ∀ {n : Nat}, (∀ k, k < n → g k ≤ b) → smN g n ≤ b * n := by
  intro n
  induction n with
  | zero => intro _; exact Nat.zero_le _
  | succ n ih =>
    intro h
    have h1 := ih (fun k hk => h k (by omega))
    have h2 := h n (by omega)
    rw [smN, Nat.mul_succ]
    omega
theorem smN_one {g : Nat → Nat} : ∀ {n k : Nat}, k < n → g k ≤ smN g n := by
  intro n
  induction n with
  | zero => intro k h; exact absurd h (Nat.not_lt_zero k)
  | succ n ih =>
    intro k h
    rw [smN]
    by_cases e : k = n
    · subst e; omega
    · have := ih (k := k) (by omega); omega
/-- all the bits lie in the window -/
def sub7 (n : Nat) (F : Nat → Bool) : Prop := ∀ p, p < 7 → n.testBit p = true → F p = true
theorem tb_hi {n p : Nat} (hn : n < 128) (hp : 7 ≤ p) : n.testBit p = false := Nat.testBit_lt_two_pow (Nat.lt_of_lt_of_le hn (show 2 ^ 7 ≤ 2 ^ p from Nat.pow_le_pow_right (by decide) hp))
theorem win_iff {n : Nat} {win : Int32} {F : Nat → Bool} (hn : n < 128) (hF : FB win F) : nI n &&& (win ^^^ (-1)) = 0 ↔ sub7 n F := by
  constructor
  · intro h p hp hb
    have := congrArg (fun z => bt z p) h
    simp only [b_and, b_xor, b_m1 p (by omega), b_0, bt_nI n (show p < 32 by omega), hb, Bool.true_and, Bool.xor_true, Bool.not_eq_false'] at this
    exact (hF p hp).mp ((hasI_bt (by omega)).mpr this)
  · intro h
    refine b_ext (fun i hi => ?_)
    rw [b_and, b_xor, b_m1 i hi, b_0, bt_nI n hi, Bool.xor_true]
    rcases Nat.lt_or_ge i 7 with q | q
    · cases e : n.testBit i with
      | false => rfl
      | true =>
        have := (hasI_bt (by omega)).mp ((hF i q).mpr (h i q e))
        rw [this]; rfl
    · rw [tb_hi hn q]; rfl
theorem bbS_s (g pr : Nat → Int32) (purse : Int32) (s : Nat) (win : Int32) (b : Nat) : bbS g pr purse s win (b + 1) = if nI (b + 1) &&& (win ^^^ (-1)) = 0 then (if purse < sumV pr 0 (nI (b + 1)) 7 then bbS g pr purse s win b else (if sumV g s (nI (b + 1)) 7 ≤ (bbS g pr purse s win b).2 then bbS g pr purse s win b else (nI (b + 1), sumV g s (nI (b + 1)) 7))) else bbS g pr purse s win b := rfl
theorem bbS_v (g pr : Nat → Int32) (purse : Int32) (s : Nat) (win : Int32) : ∀ b, sumV g s (bbS g pr purse s win b).1 7 = (bbS g pr purse s win b).2 := by
  intro b
  induction b with
  | zero =>
    have : ∀ n, n ≤ 7 → sumV g s 0 n = 0 := by
      intro n
      induction n with
      | zero => intro _; rfl
      | succ n ih => intro hn; rw [sumV_s, if_neg (by rw [hasI_bt (by omega), b_0]; decide)]; exact ih (by omega)
    exact this 7 (Nat.le_refl 7)
  | succ b ih =>
    rw [bbS_s]
    repeat' split
    all_goals first | exact ih | rfl
theorem smI_zero {f : Nat → Int32} : ∀ {n : Nat}, (∀ k, k < n → f k = 0) → smI f n = 0 := by
  intro n
  induction n with
  | zero => intro _; rfl
  | succ n ih => intro h; rw [smI, ih (fun k hk => h k (by omega)), h n (by omega)]; rfl
theorem buy_eq {f g pr : Nat → Int32} {J C : Nat → Nat} {P b h s q : Nat} {win : Int32} (hP : P ≤ 7) (hJ12 : ∀ p, J p ≤ 12) (hC : ∀ p, C p ≤ 60) (hq : q ≤ 999) (hpu : f (21 + b) = nI q)
    (hj : ∀ p, p < P → joyF f p h = nI (J p)) (hc : ∀ p, p < P → priceF f p = nI (C p)) (hF : FB win (wM f P)) (hg : ∀ p, p < 7 → wM f P p = true → g (s + p) = nI (J p)) (hp' : ∀ p, p < 7 → wM f P p = true → pr p = nI (C p)) :
    byS f b h P (2 ^ P) = ((bbS g pr (nI q) s win 127).2, (bbS g pr (nI q) s win 127).1) := by
  have hW : ∀ p, wM f P p = true → p < P ∧ f (7 + p) = 0 := fun p hw => by
    rw [wM, Bool.and_eq_true, decide_eq_true_eq, decide_eq_true_eq] at hw; exact hw
  have h2P : 2 ^ P ≤ 128 := show 2 ^ P ≤ 2 ^ 7 from Nat.pow_le_pow_right (by decide) hP
  have hbit : ∀ n, n < 2 ^ P → ∀ p, P ≤ p → n.testBit p = false := fun n hn p hp => Nat.testBit_lt_two_pow (Nat.lt_of_lt_of_le hn (Nat.pow_le_pow_right (by decide) hp))
  have hjoy : ∀ n, n < 2 ^ P → smI (bjM f (nI n) h) P = nI (smN (sbN (nI n) J) P) := fun n hn => smI_N (fun p hp => by
    rw [bjM, sbN]
    by_cases z : hasI' (nI n) p
    · rw [if_pos z, if_pos z, hj p hp]
    · rw [if_neg z, if_neg z]; rfl)
  have hpad : ∀ (n : Nat) (c : Nat → Nat), n < 2 ^ P → smN (sbN (nI n) c) 7 = smN (sbN (nI n) c) P := fun n c hn => by
    rw [show 7 = P + (7 - P) by omega]
    refine smN_pad _ (fun k h1 h2 => ?_)
    rw [sbN, if_neg (by rw [hasI_nI (by omega), hbit n hn k h1]; decide)]
  have hsubset : ∀ n, n < 2 ^ P → sub7 n (wM f P) → smI (bcM f (nI n)) P = nI (smN (sbN (nI n) C) P) := fun n hn hs => smI_N (fun p hp => by
    rw [bcM, sbN]
    by_cases z : hasI' (nI n) p
    · rw [if_pos z, if_pos z, if_pos (hW p (hs p (by omega) ((hasI_nI (by omega)).mp z))).2, hc p hp]
    · rw [if_neg z, if_neg z]; rfl)
  have hbad : ∀ n, n < 2 ^ P → ¬ sub7 n (wM f P) → ¬ smI (bcM f (nI n)) P ≤ f (21 + b) := fun n hn hs => by
    obtain ⟨p, hp⟩ := Classical.not_forall.mp hs
    obtain ⟨hp7, hp⟩ := Classical.not_imp.mp hp
    obtain ⟨hpb, hpF⟩ := Classical.not_imp.mp hp
    have hpP : p < P := by
      rcases Nat.lt_or_ge p P with z | z
      · exact z
      · rw [hbit n hn p z] at hpb; cases hpb
    have hp0 : ¬ f (7 + p) = 0 := fun z => hpF (by rw [wM, decide_eq_true hpP, decide_eq_true z]; rfl)
    have e : smI (bcM f (nI n)) P = nI (smN (fun p => if hasI' (nI n) p then (if f (7 + p) = 0 then C p else 1000000) else 0) P) := smI_N (fun p hp => by
      rw [bcM]
      split
      · split
        · exact hc p hp
        · rfl
      · rfl)
    have h1 : 1000000 ≤ smN (fun p => if hasI' (nI n) p then (if f (7 + p) = 0 then C p else 1000000) else 0) P := by
      have := smN_one (g := fun p => if hasI' (nI n) p then (if f (7 + p) = 0 then C p else 1000000) else 0) hpP
      rw [if_pos ((hasI_nI (by omega)).mpr hpb), if_neg hp0] at this
      exact this
    have h2 : smN (fun p => if hasI' (nI n) p then (if f (7 + p) = 0 then C p else 1000000) else 0) P ≤ 1000000 * P := smN_le (fun k _ => by
      have := hC k
      split
      · split <;> omega
      · omega)
    rw [e, hpu]
    exact nI_ge (by omega) (by omega)
  have key : ∀ m, m + 1 ≤ 2 ^ P → byS f b h P (m + 1) = ((bbS g pr (nI q) s win m).2, (bbS g pr (nI q) s win m).1) ∧ ∃ y, y ≤ 84 ∧ (bbS g pr (nI q) s win m).2 = nI y := by
    intro m
    induction m with
    | zero =>
      intro _
      have z0 : ∀ p, p < 7 → ¬ hasI' (nI 0) p := fun p hp => by rw [hasI_nI (by omega), Nat.zero_testBit]; decide
      have e1 : smI (bcM f (nI 0)) P = 0 := smI_zero (fun p hp => by rw [bcM, if_neg (z0 p (by omega))])
      have e2 : smI (bjM f (nI 0) h) P = 0 := smI_zero (fun p hp => by rw [bjM, if_neg (z0 p (by omega))])
      refine ⟨?_, 0, by omega, rfl⟩
      rw [byS_y (s := 0) (q := ⟨by rw [e1, hpu]; exact nI_pos' (by omega), by rw [e2]; exact (by decide : (-1 : Int32) < 0)⟩), e2]
      rfl
    | succ m ih =>
      intro hm
      obtain ⟨i1, y, hy, i2⟩ := ih (by omega)
      have hn : m + 1 < 2 ^ P := by omega
      have hn128 : m + 1 < 128 := by omega
      have i3 : (byS f b h P (m + 1)).1 = nI y := by rw [i1]; exact i2
      rw [bbS_s]
      by_cases hs : sub7 (m + 1) (wM f P)
      · have hb : ∀ p, p < 7 → hasI' (nI (m + 1)) p → wM f P p = true := fun p hp z => hs p hp ((hasI_nI (by omega)).mp z)
        have c1 := sumV_N (v := pr) (c := C) (s := 0) (bits := nI (m + 1)) (F := wM f P) (fun p hp hw => by rw [Nat.zero_add]; exact hp' p hp hw) hb 7 (Nat.le_refl 7)
        have c2 := sumV_N (v := g) (c := J) (s := s) (bits := nI (m + 1)) (F := wM f P) hg hb 7 (Nat.le_refl 7)
        rw [hpad _ C hn] at c1
        rw [hpad _ J hn] at c2
        have b1 : smN (sbN (nI (m + 1)) C) P ≤ 60 * P := smN_le (fun k _ => by have := hC k; rw [sbN]; split <;> omega)
        have b2 : smN (sbN (nI (m + 1)) J) P ≤ 12 * P := smN_le (fun k _ => by have := hJ12 k; rw [sbN]; split <;> omega)
        rw [if_pos ((win_iff hn128 hF).mpr hs), c1, c2, i2]
        by_cases q1 : q < smN (sbN (nI (m + 1)) C) P
        · rw [if_pos (nI_lt q1 (by omega)), byS_n (fun z => absurd z.1 (by rw [hsubset _ hn hs, hpu]; exact nI_ge q1 (by omega)))]
          exact ⟨i1, y, hy, i2⟩
        · rw [if_neg (nI_nlt (by omega) (by omega))]
          by_cases q2 : smN (sbN (nI (m + 1)) J) P ≤ y
          · rw [if_pos (nI_le q2 (by omega)), byS_n (fun z => absurd z.2 (by rw [hjoy _ hn, i3]; exact nI_nlt q2 (by omega)))]
            exact ⟨i1, y, hy, i2⟩
          · rw [if_neg (nI_ge (by omega) (by omega)), byS_y ⟨by rw [hsubset _ hn hs, hpu]; exact nI_le (by omega) (by omega), by rw [hjoy _ hn, i3]; exact nI_lt (by omega) (by omega)⟩, hjoy _ hn]
            exact ⟨rfl, _, by omega, rfl⟩
      · rw [if_neg (fun z => hs ((win_iff hn128 hF).mp z)), byS_n (fun z => hbad _ hn hs z.1)]
        exact ⟨i1, y, hy, i2⟩
  have tail : ∀ k, 2 ^ P - 1 + k ≤ 127 → bbS g pr (nI q) s win (2 ^ P - 1 + k) = bbS g pr (nI q) s win (2 ^ P - 1) := by
    intro k
    induction k with
    | zero => intro _; rfl
    | succ k ih =>
      intro hk
      have h1 : 0 < 2 ^ P := Nat.pow_pos (by decide)
      rw [← Nat.add_assoc, bbS_s, if_neg (fun z => ?_)]
      · exact ih (by omega)
      · have hs := (win_iff (by omega) hF).mp z
        have : 2 ^ P - 1 + k + 1 < 2 ^ P := Nat.lt_pow_two_of_testBit _ (fun i hi => by
          rcases Nat.lt_or_ge i 7 with q7 | q7
          · cases e : (2 ^ P - 1 + k + 1).testBit i with
            | false => rfl
            | true => exact absurd (hW i (hs i q7 e)).1 (by omega)
          · exact tb_hi (by omega) q7)
        omega
  have h1 : 0 < 2 ^ P := Nat.pow_pos (by decide)
  have t := tail (127 - (2 ^ P - 1)) (by omega)
  rw [show 2 ^ P - 1 + (127 - (2 ^ P - 1)) = 127 by omega] at t
  have k := (key (2 ^ P - 1) (by omega)).1
  rw [show 2 ^ P - 1 + 1 = 2 ^ P by omega] at k
  rw [t]
  exact k
