/-! plain numbers and bits (bt to b_sshr: the kit's rows on bits, given for pasting) -/
def bt (x : Int32) (i : Nat) : Bool := x.toBitVec.getLsbD i
theorem b_ext {x y : Int32} (h : ∀ i, i < 32 → bt x i = bt y i) : x = y := Int32.toBitVec_inj.mp (BitVec.eq_of_getLsbD_eq (fun i hi => h i hi))
theorem b_or (x y : Int32) (i : Nat) : bt (x ||| y) i = (bt x i || bt y i) := by unfold bt; rw [Int32.toBitVec_or, BitVec.getLsbD_or]
theorem b_and (x y : Int32) (i : Nat) : bt (x &&& y) i = (bt x i && bt y i) := by unfold bt; rw [Int32.toBitVec_and, BitVec.getLsbD_and]
theorem b_xor (x y : Int32) (i : Nat) : bt (x ^^^ y) i = (bt x i ^^ bt y i) := by unfold bt; rw [Int32.toBitVec_xor, BitVec.getLsbD_xor]
theorem b_m1 : ∀ i, i < 32 → bt (-1) i = true := by decide +kernel
theorem b_0 (i : Nat) : bt 0 i = false := BitVec.getLsbD_zero
theorem s_l : ∀ n, n < 32 → ((nI n &&& 31).toBitVec.smod 32).toNat = n := by decide +kernel
theorem b_shl (n : Nat) (hn : n < 32) (x : Int32) {i : Nat} (hi : i < 32) : bt (x <<< (nI n &&& 31)) i = (decide (n ≤ i) && bt x (i - n)) := by
  unfold bt
  rw [Int32.toBitVec_shiftLeft]
  show (x.toBitVec <<< ((nI n &&& 31).toBitVec.smod 32).toNat).getLsbD i = _
  rw [s_l n hn, BitVec.getLsbD_shiftLeft]
  rcases Nat.lt_or_ge i n with h | h
  · simp [h, Nat.not_le.mpr h]
  · simp [hi, h, Nat.not_lt.mpr h]
theorem b_sshr (n : Nat) (hn : n < 32) (x : Int32) {i : Nat} (hi : i < 32) : bt (x >>> (nI n &&& 31)) i = if n + i < 32 then bt x (n + i) else bt x 31 := by
  unfold bt
  rw [Int32.toBitVec_shiftRight]
  show (x.toBitVec.sshiftRight ((nI n &&& 31).toBitVec.smod 32).toNat).getLsbD i = _
  rw [s_l n hn, BitVec.getLsbD_sshiftRight, BitVec.msb_eq_getLsbD_last]
  simp [hi]
theorem b_1 : ∀ i, i < 32 → bt 1 i = decide (i = 0) := by decide +kernel
theorem bt_one (y : Int32) : (y &&& 1 = 1) ↔ bt y 0 = true := by
  constructor
  · intro h
    have := congrArg (fun z => bt z 0) h
    simp only [b_and, b_1 0 (by decide), decide_true, Bool.and_true] at this
    exact this
  · intro h
    refine b_ext (fun i hi => ?_)
    rw [b_and, b_1 i hi]
    by_cases q : i = 0
    · subst q; simp [h]
    · simp [q]
theorem hasI_bt {x : Int32} {p : Nat} (hp : p < 32) : hasI' x p ↔ bt x p = true := by
  show (x >>> (nI p &&& 31)) &&& 1 = 1 ↔ _
  rw [bt_one, b_sshr p hp x (by decide), if_pos (by omega), Nat.add_zero]
theorem bt_sh {n i : Nat} (hn : n < 32) (hi : i < 32) : bt ((1 : Int32) <<< (nI n &&& 31)) i = decide (i = n) := by
  rw [b_shl n hn 1 hi]
  rcases Nat.lt_or_ge i n with q | q
  · rw [decide_eq_false (Nat.not_le.mpr q), decide_eq_false (Nat.ne_of_lt q), Bool.false_and]
  · rw [b_1 (i - n) (by omega), decide_eq_true q, Bool.true_and]
    by_cases e : i = n
    · rw [decide_eq_true e, decide_eq_true (by omega)]
    · rw [decide_eq_false e, decide_eq_false (by omega)]
theorem bt_mk (f : Nat → Bool) : ∀ n, n ≤ 32 → ∀ i, i < 32 → bt (mkI f n) i = (decide (i < n) && f i) := by
  intro n
  induction n with
  | zero => intro _ i hi; rw [mkI, b_0, decide_eq_false (Nat.not_lt_zero i), Bool.false_and]
  | succ n ih =>
    intro hn i hi
    rw [mkI]
    by_cases e : i = n
    · subst e
      rw [decide_eq_true (Nat.lt_succ_self i), Bool.true_and]
      split
      · rename_i hf; rw [b_or, bt_sh (by omega) hi, decide_eq_true rfl, Bool.or_true, hf]
      · rename_i hf; rw [ih (by omega) i hi, decide_eq_false (Nat.lt_irrefl i), Bool.false_and]; simpa using hf
    · have e2 : decide (i < n + 1) = decide (i < n) := by
        by_cases q : i < n
        · rw [decide_eq_true q, decide_eq_true (by omega)]
        · rw [decide_eq_false q, decide_eq_false (by omega)]
      rw [e2]
      split
      · rw [b_or, bt_sh (by omega) hi, decide_eq_false e, Bool.or_false]; exact ih (by omega) i hi
      · exact ih (by omega) i hi
theorem hasI_mk {f : Nat → Bool} {n p : Nat} (hn : n ≤ 32) (hp : p < 32) : hasI' (mkI f n) p ↔ p < n ∧ f p = true := by
  rw [hasI_bt hp, bt_mk f n hn p hp, Bool.and_eq_true, decide_eq_true_eq]
theorem bt_wo {fr : Int32} {p i : Nat} (hp : p < 32) (hi : i < 32) : bt (woI fr (nI p)) i = (bt fr i && !decide (i = p)) := by
  show bt (fr &&& ((1 <<< (nI p &&& 31)) ^^^ (-1))) i = _
  rw [b_and, b_xor, bt_sh hp hi, b_m1 i hi, Bool.xor_true]
theorem mkI_congr {f g : Nat → Bool} : ∀ {n : Nat}, (∀ k, k < n → f k = g k) → mkI f n = mkI g n := by
  intro n
  induction n with
  | zero => intro _; rfl
  | succ n ih =>
    intro h
    rw [mkI, mkI, ih (fun k hk => h k (by omega)), h n (by omega)]
theorem mkI_0 {f : Nat → Bool} {n : Nat} (hn : n ≤ 32) : mkI f n = 0 ↔ ∀ k, k < n → f k = false := by
  constructor
  · intro h k hk
    have := bt_mk f n hn k (by omega)
    rw [h, b_0, decide_eq_true hk, Bool.true_and] at this
    exact this.symm
  · intro h
    refine b_ext (fun i hi => ?_)
    rw [bt_mk f n hn i hi, b_0]
    by_cases q : i < n
    · rw [h i q, Bool.and_false]
    · rw [decide_eq_false q, Bool.false_and]
theorem mk6_pos (f : Nat → Bool) : 0 ≤ mkI f 6 := by
  simp only [mkI]
  generalize f 0 = a0
  generalize f 1 = a1
  generalize f 2 = a2
  generalize f 3 = a3
  generalize f 4 = a4
  generalize f 5 = a5
  revert a0 a1 a2 a3 a4 a5
  decide +kernel
theorem mk6_le (f : Nat → Bool) : mkI f 6 ≤ 0 ↔ mkI f 6 = 0 := ⟨fun h => Int32.le_antisymm h (mk6_pos f), fun h => by rw [h]; exact Int32.le_refl 0⟩
theorem smI_congr {f g : Nat → Int32} : ∀ {n : Nat}, (∀ k, k < n → f k = g k) → smI f n = smI g n := by
  intro n
  induction n with
  | zero => intro _; rfl
  | succ n ih => intro h; rw [smI, smI, ih (fun k hk => h k (by omega)), h n (by omega)]
def bI (b : Bool) : Int32 := if b then 1 else 0
theorem b2i_bI {c : Prop} [Decidable c] : b2i c = bI (decide c) := by
  unfold b2i bI; by_cases h : c <;> simp [h]
theorem cnt_7 (f : Nat → Bool) : bitCnt (mkI f 7) = smI (fun p => bI (f p)) 7 := by
  simp only [mkI, smI]
  generalize f 0 = a0
  generalize f 1 = a1
  generalize f 2 = a2
  generalize f 3 = a3
  generalize f 4 = a4
  generalize f 5 = a5
  generalize f 6 = a6
  revert a0 a1 a2 a3 a4 a5 a6
  decide +kernel
theorem mkI_pad (f : Nat → Bool) (P : Nat) : ∀ n, mkI (fun k => decide (k < P) && f k) (P + n) = mkI f P := by
  intro n
  induction n with
  | zero => exact mkI_congr (n := P) (fun k hk => by rw [decide_eq_true hk, Bool.true_and])
  | succ n ih => rw [← Nat.add_assoc, mkI, decide_eq_false (by omega), Bool.false_and, if_neg (by decide)]; exact ih
theorem smI_pad (f : Nat → Bool) (P : Nat) : ∀ n, smI (fun k => bI (decide (k < P) && f k)) (P + n) = smI (fun k => bI (f k)) P := by
  intro n
  induction n with
  | zero => exact smI_congr (n := P) (fun k hk => by rw [decide_eq_true hk, Bool.true_and])
  | succ n ih => rw [← Nat.add_assoc, smI, decide_eq_false (by omega), Bool.false_and, show bI false = 0 from rfl, Int32.add_zero]; exact ih
theorem cnt_P (f : Nat → Bool) {P : Nat} (hP : P ≤ 7) : bitCnt (mkI f P) = smI (fun p => bI (f p)) P := by
  rw [← mkI_pad f P (7 - P), ← smI_pad f P (7 - P), show P + (7 - P) = 7 by omega]
  exact cnt_7 _
theorem smI_add (f g : Nat → Int32) : ∀ n, smI (fun k => f k + g k) n = smI f n + smI g n := by
  intro n
  induction n with
  | zero => rfl
  | succ n ih => rw [smI, smI, smI, ih]; ac_rfl
theorem smI_z : ∀ n, smI (fun _ => 0) n = 0 := by
  intro n
  induction n with
  | zero => rfl
  | succ n ih => rw [smI, ih]; rfl
theorem smI_swap (f : Nat → Nat → Int32) (P : Nat) : ∀ H, smI (fun h => smI (fun p => f h p) P) H = smI (fun p => smI (fun h => f h p) H) P := by
  intro H
  induction H with
  | zero => exact (smI_z P).symm
  | succ H ih => rw [smI, ih, ← smI_add]; rfl
/-! small numbers -/
def Sm (n : Nat) (x : Int32) : Prop := ∃ k, k ≤ n ∧ x = nI k
theorem Sm.mono {n m : Nat} {x : Int32} (h : Sm n x) (hm : n ≤ m) : Sm m x := by
  obtain ⟨k, h1, h2⟩ := h
  exact ⟨k, by omega, h2⟩
theorem Sm_of {x M : Int32} {n : Nat} (hM : M.toInt = n) (h0 : 0 ≤ x) (h : x ≤ M) : Sm n x := nI_of2 hM (Int32.not_lt.mpr h0) h
theorem Sm_1 {x M : Int32} {n : Nat} (hM : M.toInt = n) (h : btw x 1 M) : Sm n x := Sm_of hM (Int32.le_trans (by decide) h.1) h.2
theorem xmin_N {a b : Nat} (ha : a < 2 ^ 31) (hb : b < 2 ^ 31) : xmin (nI a) (nI b) = nI (min a b) := by
  rw [xmin]
  by_cases q : b < a
  · rw [if_pos (nI_lt q ha), Nat.min_eq_right (by omega)]
  · rw [if_neg (nI_nlt (by omega) hb), Nat.min_eq_left (by omega)]
theorem xmax_N {a b : Nat} (ha : a < 2 ^ 31) (hb : b < 2 ^ 31) : xmax (nI a) (nI b) = nI (max a b) := by
  rw [xmax]
  by_cases q : a < b
  · rw [if_pos (nI_lt q hb), Nat.max_eq_right (by omega)]
  · rw [if_neg (nI_nlt (by omega) ha), Nat.max_eq_left (by omega)]
def gN (k : Int32) (v d : Nat) : Nat := if k = 1 then v + min 5 (d / 10) else if k = 2 then v - d / 5 else if k = 3 then max 2 (v - d / 5) else if k = 4 then (if d < 7 then 0 else v + 3) else if k = 5 then min 25 (2 * (v + min 5 (d / 10))) else v
theorem gN_le (k : Int32) {v : Nat} (d : Nat) (hv : v ≤ 9) : gN k v d ≤ 25 := by
  unfold gN
  repeat' split
  all_goals omega
theorem goodC_N (k : Int32) {v d : Nat} (hv : v ≤ 9) (hd : d ≤ 20000) : goodC k (nI v) (nI d) = nI (gN k v d) := by
  have e10 : nI d / 10 = nI (d / 10) := pk_div (d := 10) (by omega) (by decide) (by decide)
  have e5 : nI d / 5 = nI (d / 5) := pk_div (d := 5) (by omega) (by decide) (by decide)
  have em : xmin 5 (nI (d / 10)) = nI (min 5 (d / 10)) := xmin_N (a := 5) (by decide) (by omega)
  have et : xmax 0 (nI v - nI (d / 5)) = nI (v - d / 5) := by
    by_cases q : d / 5 ≤ v
    · rw [pk_sub q]; exact (xmax_N (a := 0) (by decide) (by omega)).trans (by rw [Nat.zero_max])
    · rw [xmax, if_neg (Int32.not_lt.mpr (Int32.le_of_lt (pk_sneg (by omega) (by omega)))), show v - d / 5 = 0 by omega]; rfl
  unfold goodC gN
  rw [e10, e5, em, et]
  by_cases k1 : k = 1
  · rw [if_pos k1, if_pos k1, nI_add]
  rw [if_neg k1, if_neg k1]
  by_cases k2 : k = 2
  · rw [if_pos k2, if_pos k2]
  rw [if_neg k2, if_neg k2]
  by_cases k3 : k = 3
  · rw [if_pos k3, if_pos k3]; exact xmax_N (a := 2) (by decide) (by omega)
  rw [if_neg k3, if_neg k3]
  by_cases k4 : k = 4
  · rw [if_pos k4, if_pos k4]
    by_cases q : d < 7
    · rw [if_pos q, if_pos (show nI d < (7 : Int32) from nI_lt (b := 7) q (by omega))]; rfl
    · rw [if_neg q, if_neg (show ¬ nI d < (7 : Int32) from nI_nlt (b := 7) (by omega) (by omega))]; exact nI_add v 3
  rw [if_neg k4, if_neg k4]
  by_cases k5 : k = 5
  · rw [if_pos k5, if_pos k5, nI_add, show (2 : Int32) * nI (v + min 5 (d / 10)) = nI (2 * (v + min 5 (d / 10))) from pk_mul 2 _]
    exact xmin_N (a := 25) (by decide) (by omega)
  rw [if_neg k5, if_neg k5]
theorem goodM_N (k : Int32) {v d : Nat} (hv : v ≤ 9) (hd : d ≤ 20000) : goodM k (nI v) (nI d) = nI (gN k v d) := by
  have e10 : nI d / 10 = nI (d / 10) := pk_div (d := 10) (by omega) (by decide) (by decide)
  have e5 : nI d / 5 = nI (d / 5) := pk_div (d := 5) (by omega) (by decide) (by decide)
  have eg : goldM (nI v) (nI d) = nI (v + min 5 (d / 10)) := by
    rw [goldM, e10]
    by_cases q : 5 < d / 10
    · rw [if_pos (show (5 : Int32) < nI (d / 10) from nI_lt (a := 5) q (by omega)), Nat.min_eq_left (by omega)]; exact nI_add v 5
    · rw [if_neg (show ¬ (5 : Int32) < nI (d / 10) from nI_nlt (b := d / 10) (a := 5) (by omega) (by omega)), Nat.min_eq_right (by omega), nI_add]
  have et : tinM (nI v) (nI d) = nI (v - d / 5) := by
    rw [tinM, e5]
    by_cases q : d / 5 < v
    · rw [if_pos (nI_lt q (by omega)), pk_sub (by omega)]
    · rw [if_neg (nI_nlt (by omega) (by omega)), show v - d / 5 = 0 by omega]; rfl
  unfold goodM gN
  rw [eg, et]
  by_cases k1 : k = 1
  · rw [if_pos k1, if_pos k1]
  rw [if_neg k1, if_neg k1]
  by_cases k2 : k = 2
  · rw [if_pos k2, if_pos k2]
  rw [if_neg k2, if_neg k2]
  by_cases k3 : k = 3
  · rw [if_pos k3, if_pos k3]
    by_cases q : v - d / 5 < 2
    · rw [if_pos (show nI (v - d / 5) < (2 : Int32) from nI_lt (b := 2) q (by decide)), Nat.max_eq_left (by omega)]; rfl
    · rw [if_neg (show ¬ nI (v - d / 5) < (2 : Int32) from nI_nlt (b := 2) (by omega) (by omega)), Nat.max_eq_right (by omega)]
  rw [if_neg k3, if_neg k3]
  by_cases k4 : k = 4
  · rw [if_pos k4, if_pos k4]
    by_cases q : d < 7
    · rw [if_pos q, if_pos (show nI d < (7 : Int32) from nI_lt (b := 7) q (by omega))]; rfl
    · rw [if_neg q, if_neg (show ¬ nI d < (7 : Int32) from nI_nlt (b := 7) (by omega) (by omega))]; exact nI_add v 3
  rw [if_neg k4, if_neg k4]
  by_cases k5 : k = 5
  · rw [if_pos k5, if_pos k5, show (2 : Int32) * nI (v + min 5 (d / 10)) = nI (2 * (v + min 5 (d / 10))) from pk_mul 2 _]
    by_cases q : 25 < 2 * (v + min 5 (d / 10))
    · rw [if_pos (show (25 : Int32) < nI (2 * (v + min 5 (d / 10))) from nI_lt (a := 25) q (by omega)), Nat.min_eq_left (show 25 ≤ 2 * (v + min 5 (d / 10)) by omega)]; rfl
    · rw [if_neg (show ¬ (25 : Int32) < nI (2 * (v + min 5 (d / 10))) from nI_nlt (b := 2 * (v + min 5 (d / 10))) (a := 25) (by omega) (by omega)), Nat.min_eq_right (show 2 * (v + min 5 (d / 10)) ≤ 25 by omega)]
  rw [if_neg k5, if_neg k5]
def pN (w g : Nat) : Nat := 6 - (if w < g then g - w else w - g)
def jN (k : Int32) (w g : Nat) : Nat := if k = 1 then (if g < w then pN w g else pN w g + 2) else if k = 2 then max 3 (pN w g) else if k = 3 then ((if g < w then pN w g else pN w g + 2) + 1) / 2 else if k = 4 then (if g < 4 then 0 else pN w g) else if k = 5 then 2 * max 3 (pN w g) else pN w g
theorem pN_le (w g : Nat) : pN w g ≤ 6 := by unfold pN; omega
theorem jN_le (k : Int32) (w g : Nat) : jN k w g ≤ 12 := by
  have := pN_le w g
  unfold jN
  repeat' split
  all_goals omega
theorem plain_N : ∀ w, w < 10 → ∀ g, g < 31 → plainC (nI w) (nI g) = nI (pN w g) ∧ plainM (nI g) (nI w) = nI (pN w g) := by decide +kernel
theorem brideC_N {w g : Nat} (hw : w ≤ 9) (hg : g ≤ 30) : brideC (nI w) (nI g) = nI (if g < w then pN w g else pN w g + 2) := by
  rw [brideC, (plain_N w (by omega) g (by omega)).1]
  by_cases q : g < w
  · rw [if_pos (nI_lt q (by omega)), if_pos q]
  · rw [if_neg (nI_nlt (by omega) (by omega)), if_neg q]; exact nI_add _ 2
theorem brideM_N {w g : Nat} (hw : w ≤ 9) (hg : g ≤ 30) : brideM (nI g) (nI w) = nI (if g < w then pN w g else pN w g + 2) := by
  rw [brideM, (plain_N w (by omega) g (by omega)).2]
  by_cases q : g < w
  · rw [if_neg (nI_ge q (by omega)), if_pos q]
  · rw [if_pos (nI_le (by omega) (by omega)), if_neg q]; exact nI_add _ 2
theorem shy_N {n : Nat} (hn : n < 100) : (nI n + 1) / 2 = nI ((n + 1) / 2) := by
  rw [nI_1]; exact pk_div (d := 2) (by omega) (by decide) (by decide)
theorem joyC_N (k : Int32) {w g : Nat} (hw : w ≤ 9) (hg : g ≤ 30) : joyC k (nI w) (nI g) = nI (jN k w g) := by
  have h6 := pN_le w g
  unfold joyC jN
  rw [(plain_N w (by omega) g (by omega)).1, brideC_N hw hg]
  by_cases k1 : k = 1
  · rw [if_pos k1, if_pos k1]
  rw [if_neg k1, if_neg k1]
  by_cases k2 : k = 2
  · rw [if_pos k2, if_pos k2]; exact xmax_N (a := 3) (by decide) (by omega)
  rw [if_neg k2, if_neg k2]
  by_cases k3 : k = 3
  · rw [if_pos k3, if_pos k3]; exact shy_N (by split <;> omega)
  rw [if_neg k3, if_neg k3]
  by_cases k4 : k = 4
  · rw [if_pos k4, if_pos k4]
    by_cases q : g < 4
    · rw [if_pos q, if_pos (show nI g < (4 : Int32) from nI_lt (b := 4) q (by omega))]; rfl
    · rw [if_neg q, if_neg (show ¬ nI g < (4 : Int32) from nI_nlt (b := 4) (by omega) (by omega))]
  rw [if_neg k4, if_neg k4]
  by_cases k5 : k = 5
  · rw [if_pos k5, if_pos k5, show xmax 3 (nI (pN w g)) = nI (max 3 (pN w g)) from xmax_N (a := 3) (by decide) (by omega)]; exact pk_mul 2 _
  rw [if_neg k5, if_neg k5]
theorem joyM_N (k : Int32) {w g : Nat} (hw : w ≤ 9) (hg : g ≤ 30) : joyM k (nI g) (nI w) = nI (jN k w g) := by
  have h6 := pN_le w g
  have em : motherM (nI g) (nI w) = nI (max 3 (pN w g)) := by
    rw [motherM, (plain_N w (by omega) g (by omega)).2]
    by_cases q : pN w g < 3
    · rw [if_pos (show nI (pN w g) < (3 : Int32) from nI_lt (b := 3) q (by decide)), Nat.max_eq_left (by omega)]; rfl
    · rw [if_neg (show ¬ nI (pN w g) < (3 : Int32) from nI_nlt (b := 3) (by omega) (by omega)), Nat.max_eq_right (by omega)]
  unfold joyM jN
  rw [(plain_N w (by omega) g (by omega)).2, brideM_N hw hg, em]
  by_cases k1 : k = 1
  · rw [if_pos k1, if_pos k1]
  rw [if_neg k1, if_neg k1]
  by_cases k2 : k = 2
  · rw [if_pos k2, if_pos k2]
  rw [if_neg k2, if_neg k2]
  by_cases k3 : k = 3
  · rw [if_pos k3, if_pos k3]; exact shy_N (by split <;> omega)
  rw [if_neg k3, if_neg k3]
  by_cases k4 : k = 4
  · rw [if_pos k4, if_pos k4]
    by_cases q : g < 4
    · rw [if_pos q, if_pos (show nI g < (4 : Int32) from nI_lt (b := 4) q (by omega))]; rfl
    · rw [if_neg q, if_neg (show ¬ nI g < (4 : Int32) from nI_nlt (b := 4) (by omega) (by omega))]
  rw [if_neg k4, if_neg k4]
  by_cases k5 : k = 5
  · rw [if_pos k5, if_pos k5]; exact pk_mul 2 _
  rw [if_neg k5, if_neg k5]
