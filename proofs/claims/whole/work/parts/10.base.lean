/-! small words, and the class's own static helpers -/
theorem Ev.pc {E : xE} {R : Room} {own : String} {cc : ByteArray} {nL : Nat} {F : Option Value → xS → Prop} {pc : Nat} {l : xL} {st : List Value} {σ : xS} (pc2 : Nat) (e : pc = pc2) (k : Ev E R own cc nL F pc2 l st σ) : Ev E R own cc nL F pc l st σ := e ▸ k
theorem ev_topi {E : xE} {R : Room} {own : String} {cc : ByteArray} {nL : Nat} {F : Option Value → xS → Prop} {pc : Nat} {l : xL} {st : List Value} {σ : xS} {x : Int32} (k : ∀ y : Int32, y = x → Ev E R own cc nL F pc l (.int y :: st) σ) : Ev E R own cc nL F pc l (.int x :: st) σ := k x rfl
theorem ev_topl {E : xE} {R : Room} {own : String} {cc : ByteArray} {nL : Nat} {F : Option Value → xS → Prop} {pc : Nat} {l : xL} {st : List Value} {σ : xS} {x : Int64} (k : ∀ y : Int64, y = x → Ev E R own cc nL F pc l (.long y :: st) σ) : Ev E R own cc nL F pc l (.long x :: st) σ := k x rfl
theorem rm_ok {d D : Nat} (h : d + 1 ≤ D) : d + 1 ≤ (rm D).frames ∧ 200 * (d + 1) ≤ (rm D).locals := ⟨h, Nat.mul_le_mul_left 200 h⟩
theorem rm_ok1 {D : Nat} (h : 1 ≤ D) : 1 ≤ (rm D).frames ∧ 100 ≤ (rm D).locals := ⟨h, by show 100 ≤ 200 * D; omega⟩
theorem rm_okm {D : Nat} (h : 1 ≤ D) : 1 ≤ (rm D).frames ∧ 21 ≤ (rm D).locals := ⟨h, by show 21 ≤ 200 * D; omega⟩
def b2i (c : Prop) [Decidable c] : Int32 := if c then 1 else 0
theorem nb_b2i (c : Prop) [Decidable c] : narrow .boolean (.int (b2i c)) = .int (b2i c) := by
  unfold b2i
  split <;> decide
theorem b2i_0 {c : Prop} [Decidable c] : b2i c = 0 ↔ ¬ c := by unfold b2i; split <;> simp [*]
theorem b2i_n0 {c : Prop} [Decidable c] : ¬ b2i c = 0 ↔ c := by unfold b2i; split <;> simp [*]
theorem b2i_1 {c : Prop} [Decidable c] : b2i c = 1 ↔ c := by unfold b2i; split <;> simp [*]
theorem b2i_t {c : Prop} [Decidable c] (h : c) : (1 : Int32) = b2i c := by simp [b2i, h]
theorem b2i_f {c : Prop} [Decidable c] (h : ¬ c) : (0 : Int32) = b2i c := by simp [b2i, h]
def xmax (x y : Int32) : Int32 := if x < y then y else x
def xmin (x y : Int32) : Int32 := if y < x then y else x
def xabs (x : Int32) : Int32 := if 0 ≤ x then x else 0 - x
theorem xlen_le (r : Nat) : xlen r ≤ 516 := by
  rcases Nat.lt_or_ge r 85 with h | h
  · revert r; decide +kernel
  · have : xlenL.length = 85 := by decide +kernel
    simp [xlen, List.getD, List.getElem?_eq_none_iff.mpr (by omega : xlenL.length ≤ r)]
/-- a row's place, 0 outside -/
def xat (σ : xS) (r : Nat) (i : Int32) : Int32 := if i < 0 then 0 else if Int32.ofNat (xlen r) ≤ i then 0 else σ.1 r i.toNatClampNeg
def xput (σ : xS) (r : Nat) (i v : Int32) : xS := if i < 0 then σ else if Int32.ofNat (xlen r) ≤ i then σ else xu σ r i.toNatClampNeg v
theorem i_nlt {a b : Int32} : ¬ a < b ↔ b ≤ a := Int32.not_lt
theorem i_nle {a b : Int32} : ¬ a ≤ b ↔ b < a := Int32.not_le
theorem xu_1 (σ : xS) (i k : Nat) (v : Int32) (a b : Nat) : (xu σ i k v).1 a b = if a = i ∧ b = k then v else σ.1 a b := rfl
theorem xrow_1 (σ : xS) (i : Nat) (f : Nat → Int32) (a : Nat) : (xrow σ i f).1 a = if a = i then f else σ.1 a := rfl
theorem xat_nI {σ : xS} {r k : Nat} (h : k < xlen r) : xat σ r (nI k) = σ.1 r k := by
  have h5 := xlen_le r
  rw [xat, if_neg (nI_pos (by omega)), if_neg (show ¬ Int32.ofNat (xlen r) ≤ nI k from nI_ge h (by omega)), nI_clamp (by omega)]
theorem xput_nI {σ : xS} {r k : Nat} {v : Int32} (h : k < xlen r) : xput σ r (nI k) v = xu σ r k v := by
  have h5 := xlen_le r
  rw [xput, if_neg (nI_pos (by omega)), if_neg (show ¬ Int32.ofNat (xlen r) ≤ nI k from nI_ge h (by omega)), nI_clamp (by omega)]
theorem xput_eq {σ : xS} {r k : Nat} {i v : Int32} (hi : i = nI k) (h : k < xlen r) : xput σ r i v = xu σ r k v := by rw [hi, xput_nI h]
theorem xat_eq {σ : xS} {r k : Nat} {i : Int32} (hi : i = nI k) (h : k < xlen r) : xat σ r i = σ.1 r k := by rw [hi, xat_nI h]
theorem x_inr {r : Nat} {i : Int32} (h1 : ¬ i < 0) (h2 : ¬ Int32.ofNat (xlen r) ≤ i) : vp_in i (xlen r) := by
  have h5 := xlen_le r
  rw [i_nlt] at h1
  rw [i_nle] at h2
  have e1 : 0 ≤ i.toInt := by simpa [Int32.le_iff_toInt_le] using h1
  have e2 : i.toInt < (nI (xlen r)).toInt := Int32.lt_iff_toInt_lt.mp h2
  rw [nI_toInt (by omega)] at e2
  exact vp_in_iff.mpr ⟨e1, e2⟩
theorem c_X5_at (d : Nat) {E : xE} {σ : xS} {r : Nat} {i : Int32} (hr : r < xN ∧ xcls r = 7) : Ct E d yX5_at cX5_at 2 (some .int) [.ref (E.1 r), .int i] σ (some (.int (xat σ r i))) σ := by
  refine Ct.of (by decide +kernel) (Nat.le_of_ble_eq_true rfl) ⟨_, rfl, rfl⟩ ?_
  show Ev E _ RX5 cX5_at 2 _ 0 [some (.ref (E.1 r)), some (.int i)] [] _
  refine ev_aload_0 dX5_at_0 ?_
  refine ev_ifnull dX5_at_1 ?_
  refine ev_iload_1 dX5_at_4 ?_
  refine ev_if_lt 20 dX5_at_5 rfl (fun h5 => ?_) (fun h5 => ?_)
  · refine ev_iconst_0 dX5_at_20 ?_
    exact ev_ireturn dX5_at_21 ⟨by (simp [xat, *]), by rfl⟩
  · refine ev_iload_1 dX5_at_8 ?_
    refine ev_aload_0 dX5_at_9 ?_
    refine ev_arraylength dX5_at_10 (by first | assumption | decide) ?_
    refine ev_icmp_ge 20 dX5_at_11 rfl (fun h11 => ?_) (fun h11 => ?_)
    · refine ev_iconst_0 dX5_at_20 ?_
      exact ev_ireturn dX5_at_21 ⟨by (simp [xat, *]), by rfl⟩
    · refine ev_aload_0 dX5_at_14 ?_
      refine ev_iload_1 dX5_at_15 ?_
      refine ev_iaload dX5_at_16 (by first | assumption | decide) (x_inr h5 h11) ?_
      refine ev_goto 21 dX5_at_17 rfl ?_
      exact ev_ireturn dX5_at_21 ⟨by (simp [xat, *]), by rfl⟩
theorem c_X5_put (d : Nat) {E : xE} {σ : xS} {r : Nat} {i v : Int32} (hr : r < xN ∧ xcls r = 7) : Ct E d yX5_put cX5_put 3 none [.ref (E.1 r), .int i, .int v] σ none (xput σ r i v) := by
  refine Ct.of (by decide +kernel) (Nat.le_of_ble_eq_true rfl) rfl ?_
  show Ev E _ RX5 cX5_put 3 _ 0 [some (.ref (E.1 r)), some (.int i), some (.int v)] [] _
  refine ev_aload_0 dX5_put_0 ?_
  refine ev_ifnull dX5_put_1 ?_
  refine ev_iload_1 dX5_put_4 ?_
  refine ev_if_lt 18 dX5_put_5 rfl (fun h5 => ?_) (fun h5 => ?_)
  · exact ev_return dX5_put_18 ⟨by rfl, by (simp [xput, *])⟩
  · refine ev_iload_1 dX5_put_8 ?_
    refine ev_aload_0 dX5_put_9 ?_
    refine ev_arraylength dX5_put_10 (by first | assumption | decide) ?_
    refine ev_icmp_ge 18 dX5_put_11 rfl (fun h11 => ?_) (fun h11 => ?_)
    · exact ev_return dX5_put_18 ⟨by rfl, by (simp [xput, *])⟩
    · refine ev_aload_0 dX5_put_14 ?_
      refine ev_iload_1 dX5_put_15 ?_
      refine ev_iload_2 dX5_put_16 ?_
      refine ev_iastore dX5_put_17 (by first | assumption | decide) (x_inr h5 h11) ?_
      exact ev_return dX5_put_18 ⟨by rfl, by (simp [xput, *])⟩
theorem c_X5_between (d : Nat) {E : xE} {σ : xS} {v a b : Int32} : Ct E d yX5_between cX5_between 3 (some .boolean) [.int v, .int a, .int b] σ (some (.int (b2i (a ≤ v ∧ v ≤ b)))) σ := by
  refine Ct.of (by decide +kernel) (Nat.le_of_ble_eq_true rfl) ⟨_, rfl, nb_b2i _⟩ ?_
  show Ev E _ RX5 cX5_between 3 _ 0 [some (.int v), some (.int a), some (.int b)] [] _
  refine ev_iload_0 dX5_between_0 ?_
  refine ev_iload_1 dX5_between_1 ?_
  refine ev_icmp_lt 14 dX5_between_2 rfl (fun h2 => ?_) (fun h2 => ?_)
  · refine ev_iconst_0 dX5_between_14 ?_
    exact ev_ireturn dX5_between_15 ⟨by (simp only [b2i, ← i_nlt, *, not_true_eq_false, not_false_eq_true, and_true, and_false, true_and, false_and, if_true, if_false, reduceIte]), by rfl⟩
  · refine ev_iload_0 dX5_between_5 ?_
    refine ev_iload_2 dX5_between_6 ?_
    refine ev_icmp_gt 14 dX5_between_7 rfl (fun h7 => ?_) (fun h7 => ?_)
    · refine ev_iconst_0 dX5_between_14 ?_
      exact ev_ireturn dX5_between_15 ⟨by (simp only [b2i, ← i_nlt, *, not_true_eq_false, not_false_eq_true, and_true, and_false, true_and, false_and, if_true, if_false, reduceIte]), by rfl⟩
    · refine ev_iconst_1 dX5_between_10 ?_
      refine ev_goto 15 dX5_between_11 rfl ?_
      exact ev_ireturn dX5_between_15 ⟨by (simp only [b2i, ← i_nlt, *, not_true_eq_false, not_false_eq_true, and_true, and_false, true_and, false_and, if_true, if_false, reduceIte]), by rfl⟩
theorem c_X5_without (d : Nat) {E : xE} {σ : xS} {bits i : Int32} : Ct E d yX5_without cX5_without 2 (some .int) [.int bits, .int i] σ (some (.int (bits &&& ((1 <<< (i &&& 31)) ^^^ (-1))))) σ := by
  refine Ct.of (by decide +kernel) (Nat.le_of_ble_eq_true rfl) ⟨_, rfl, rfl⟩ ?_
  show Ev E _ RX5 cX5_without 2 _ 0 [some (.int bits), some (.int i)] [] _
  refine ev_iload_0 dX5_without_0 ?_
  refine ev_iconst_1 dX5_without_1 ?_
  refine ev_iload_1 dX5_without_2 ?_
  refine ev_ishl dX5_without_3 ?_
  refine ev_iconst_m1 dX5_without_4 ?_
  refine Ev.pc 5 rfl ?_
  refine ev_ixor dX5_without_5 ?_
  refine ev_iand dX5_without_6 ?_
  exact ev_ireturn dX5_without_7 ⟨by rfl, by rfl⟩
theorem c_X5_has (d : Nat) {E : xE} {σ : xS} {bits i : Int32} : Ct E d yX5_has cX5_has 2 (some .boolean) [.int bits, .int i] σ (some (.int (b2i ((bits >>> (i &&& 31)) &&& 1 = 1)))) σ := by
  refine Ct.of (by decide +kernel) (Nat.le_of_ble_eq_true rfl) ⟨_, rfl, nb_b2i _⟩ ?_
  show Ev E _ RX5 cX5_has 2 _ 0 [some (.int bits), some (.int i)] [] _
  refine ev_iload_0 dX5_has_0 ?_
  refine ev_iload_1 dX5_has_1 ?_
  refine ev_ishr dX5_has_2 ?_
  refine ev_iconst_1 dX5_has_3 ?_
  refine ev_iand dX5_has_4 ?_
  refine Ev.pc 5 rfl ?_
  refine ev_iconst_1 dX5_has_5 ?_
  refine ev_icmp_ne 13 dX5_has_6 rfl (fun h6 => ?_) (fun h6 => ?_)
  · refine ev_iconst_0 dX5_has_13 ?_
    exact ev_ireturn dX5_has_14 ⟨by (simp [b2i, *]), by rfl⟩
  · refine ev_iconst_1 dX5_has_9 ?_
    refine ev_goto 14 dX5_has_10 rfl ?_
    exact ev_ireturn dX5_has_14 ⟨by (simp [b2i, *]), by rfl⟩
theorem c_X5_copyCells (d : Nat) {E : xE} {σ : xS} {r1 r2 a b n : Nat} (hr1 : r1 < xN ∧ xcls r1 = 7) (hr2 : r2 < xN ∧ xcls r2 = 7) (h1 : a + n ≤ xlen r1) (h2 : b + n ≤ xlen r2) : Ct E (d + 1) yX5_copyCells cX5_copyCells 5 none [.ref (E.1 r1), .int (nI a), .ref (E.1 r2), .int (nI b), .int (nI n)] σ none (xrow σ r2 (va_cpy (σ.1 r1) (σ.1 r2) a b n)) := by
  have e1 := xlen_le r1
  have e2 := xlen_le r2
  have q1 : ¬ nI a < 0 := nI_pos (by omega)
  have q2 : ¬ nI b < 0 := nI_pos (by omega)
  have q3 : ¬ nI n < 0 := nI_pos (by omega)
  have q4 : ¬ Int32.ofNat (xlen r1) - nI n < nI a := by
    show ¬ nI (xlen r1) - nI n < nI a
    rw [pk_sub (by omega)]; exact nI_nlt (by omega) (by omega)
  have q5 : ¬ Int32.ofNat (xlen r2) - nI n < nI b := by
    show ¬ nI (xlen r2) - nI n < nI b
    rw [pk_sub (by omega)]; exact nI_nlt (by omega) (by omega)
  have q6 : 0 ≤ nI b := nI_pos' (by omega)
  refine Ct.of (by decide +kernel) (Nat.le_of_ble_eq_true rfl) rfl ?_
  show Ev E _ RX5 cX5_copyCells 5 _ 0 [some (.ref (E.1 r1)), some (.int (nI a)), some (.ref (E.1 r2)), some (.int (nI b)), some (.int (nI n))] [] _
  refine ev_aload_0 dX5_copyCells_0 ?_
  refine ev_ifnull dX5_copyCells_1 ?_
  refine ev_aload_2 dX5_copyCells_4 ?_
  refine ev_ifnull dX5_copyCells_5 ?_
  refine ev_iload_4 dX5_copyCells_8 ?_
  refine Ev.pc 10 rfl ?_
  refine ev_if_lt 21 dX5_copyCells_10 rfl (fun h10 => ?_) (fun h10 => ?_)
  · exact absurd h10 q3
  · refine ev_iload_1 dX5_copyCells_13 ?_
    refine ev_if_lt 21 dX5_copyCells_14 rfl (fun h14 => ?_) (fun h14 => ?_)
    · exact absurd h14 q1
    · refine ev_iload_3 dX5_copyCells_17 ?_
      refine ev_if_ge 22 dX5_copyCells_18 rfl (fun h18 => ?_) (fun h18 => ?_)
      · refine ev_iload_1 dX5_copyCells_22 ?_
        refine ev_aload_0 dX5_copyCells_23 ?_
        refine ev_arraylength dX5_copyCells_24 (by first | assumption | decide) ?_
        refine ev_iload_4 dX5_copyCells_25 ?_
        refine ev_isub dX5_copyCells_27 ?_
        refine Ev.pc 28 rfl ?_
        refine ev_icmp_gt 49 dX5_copyCells_28 rfl (fun h28 => ?_) (fun h28 => ?_)
        · exact absurd h28 q4
        · refine ev_iload_3 dX5_copyCells_31 ?_
          refine ev_aload_2 dX5_copyCells_32 ?_
          refine ev_arraylength dX5_copyCells_33 (by first | assumption | decide) ?_
          refine ev_iload_4 dX5_copyCells_34 ?_
          refine ev_isub dX5_copyCells_36 ?_
          refine Ev.pc 37 rfl ?_
          refine ev_icmp_gt 49 dX5_copyCells_37 rfl (fun h37 => ?_) (fun h37 => ?_)
          · exact absurd h37 q5
          · refine ev_aload_0 dX5_copyCells_40 ?_
            refine ev_iload_1 dX5_copyCells_41 ?_
            refine ev_aload_2 dX5_copyCells_42 ?_
            refine ev_iload_3 dX5_copyCells_43 ?_
            refine ev_iload_4 dX5_copyCells_44 ?_
            refine Ev.pc 46 rfl ?_
            refine ev_copy dX5_copyCells_46 cp_X5_63 (rm_ok1 (by omega)) (Nat.le_of_ble_eq_true rfl) (by first | assumption | decide) (by first | assumption | decide) q1 q2 q3 (by rw [nI_clamp (by omega), nI_clamp (by omega)]; exact h1) (by rw [nI_clamp (by omega), nI_clamp (by omega)]; exact h2) ?_
            refine Ev.pc 49 rfl ?_
            exact ev_return dX5_copyCells_49 ⟨by rfl, by (rw [nI_clamp (by omega), nI_clamp (by omega), nI_clamp (by omega)])⟩
      · exact absurd q6 h18
theorem c_X5_copyRow (d : Nat) {E : xE} {σ : xS} {r1 r2 : Nat} (hr1 : r1 < xN ∧ xcls r1 = 7) (hr2 : r2 < xN ∧ xcls r2 = 7) (h2 : xlen r1 = xlen r2) : Ct E (d + 2) yX5_copyRow cX5_copyRow 2 none [.ref (E.1 r1), .ref (E.1 r2)] σ none (xrow σ r2 (va_cpy (σ.1 r1) (σ.1 r2) 0 0 (xlen r1))) := by
  refine Ct.of (by decide +kernel) (Nat.le_of_ble_eq_true rfl) rfl ?_
  show Ev E _ RX5 cX5_copyRow 2 _ 0 [some (.ref (E.1 r1)), some (.ref (E.1 r2))] [] _
  refine ev_aload_0 dX5_copyRow_0 ?_
  refine ev_ifnull dX5_copyRow_1 ?_
  refine ev_aload_0 dX5_copyRow_4 ?_
  refine ev_iconst_0 dX5_copyRow_5 ?_
  refine ev_aload_1 dX5_copyRow_6 ?_
  refine Ev.pc 7 rfl ?_
  refine ev_iconst_0 dX5_copyRow_7 ?_
  refine ev_aload_0 dX5_copyRow_8 ?_
  refine ev_arraylength dX5_copyRow_9 (by first | assumption | decide) ?_
  refine ev_invS dX5_copyRow_10 ml_X5_69 mt_X5_copyCells (c_X5_copyCells d (a := 0) (b := 0) (n := xlen r1) hr1 hr2 (by omega) (by omega)) rfl rfl (rm_ok (by omega)) (Nat.le_of_ble_eq_true rfl) ?_
  refine Ev.pc 13 rfl ?_
  exact ev_return dX5_copyRow_13 ⟨by rfl, by rfl⟩
theorem c_X5_bad_ (d : Nat) {E : xE} {σ : xS} {a : Int32} : Ct E d yX5_bad_ cX5_bad_ 2 (some .int) [.ref (E.1 0), .int a] σ (some (.int a)) (xu σ 0 10 (σ.1 0 10 + 1)) := by
  refine Ct.of (by decide +kernel) (Nat.le_of_ble_eq_true rfl) ⟨_, rfl, rfl⟩ ?_
  show Ev E _ RX5 cX5_bad_ 2 _ 0 [some (.ref (E.1 0)), some (.int a)] [] _
  refine ev_aload_0 dX5_bad__0 ?_
  refine ev_dup dX5_bad__1 rfl ?_
  refine ev_get dX5_bad__2 fk_X5_53 (by first | assumption | decide) (by decide) rfl ?_
  refine ev_iconst_1 dX5_bad__5 ?_
  refine ev_iadd dX5_bad__6 ?_
  refine Ev.pc 7 rfl ?_
  refine ev_put dX5_bad__7 fk_X5_53 (by first | assumption | decide) (by decide) rfl ?_
  refine ev_iload_1 dX5_bad__10 ?_
  exact ev_ireturn dX5_bad__11 ⟨by rfl, by rfl⟩
theorem c_X5_bad (d : Nat) {E : xE} {σ : xS} : Ct E (d + 1) yX5_bad cX5_bad 1 (some .int) [.ref (E.1 0)] σ (some (.int (-2))) (xu σ 0 10 (σ.1 0 10 + 1)) := by
  refine Ct.of (by decide +kernel) (Nat.le_of_ble_eq_true rfl) ⟨_, rfl, rfl⟩ ?_
  show Ev E _ RX5 cX5_bad 1 _ 0 [some (.ref (E.1 0))] [] _
  refine ev_aload_0 dX5_bad_0 ?_
  refine ev_bipush (-2) dX5_bad_1 rfl ?_
  refine ev_invV (ci := 5) dX5_bad_3 ml_X5_73 mt_X5_bad_ (c_X5_bad_ d) (by first | assumption | decide) (by decide) rfl rfl rfl (rm_ok (by omega)) (Nat.le_of_ble_eq_true rfl) ?_
  refine Ev.pc 6 rfl ?_
  exact ev_ireturn dX5_bad_6 ⟨by rfl, by rfl⟩
theorem c_X5_no (d : Nat) {E : xE} {σ : xS} : Ct E d yX5_no cX5_no 1 (some .int) [.ref (E.1 0)] σ (some (.int (-3))) (xu σ 0 11 (σ.1 0 11 + 1)) := by
  refine Ct.of (by decide +kernel) (Nat.le_of_ble_eq_true rfl) ⟨_, rfl, rfl⟩ ?_
  show Ev E _ RX5 cX5_no 1 _ 0 [some (.ref (E.1 0))] [] _
  refine ev_aload_0 dX5_no_0 ?_
  refine ev_dup dX5_no_1 rfl ?_
  refine ev_get dX5_no_2 fk_X5_57 (by first | assumption | decide) (by decide) rfl ?_
  refine ev_iconst_1 dX5_no_5 ?_
  refine ev_iadd dX5_no_6 ?_
  refine Ev.pc 7 rfl ?_
  refine ev_put dX5_no_7 fk_X5_57 (by first | assumption | decide) (by decide) rfl ?_
  refine ev_bipush (-3) dX5_no_10 rfl ?_
  exact ev_ireturn dX5_no_12 ⟨by rfl, by rfl⟩
theorem c_X5_full (d : Nat) {E : xE} {σ : xS} : Ct E d yX5_full cX5_full 1 (some .int) [.ref (E.1 0)] σ (some (.int (-4))) (xu σ 0 12 (σ.1 0 12 + 1)) := by
  refine Ct.of (by decide +kernel) (Nat.le_of_ble_eq_true rfl) ⟨_, rfl, rfl⟩ ?_
  show Ev E _ RX5 cX5_full 1 _ 0 [some (.ref (E.1 0))] [] _
  refine ev_aload_0 dX5_full_0 ?_
  refine ev_dup dX5_full_1 rfl ?_
  refine ev_get dX5_full_2 fk_X5_60 (by first | assumption | decide) (by decide) rfl ?_
  refine ev_iconst_1 dX5_full_5 ?_
  refine ev_iadd dX5_full_6 ?_
  refine Ev.pc 7 rfl ?_
  refine ev_put dX5_full_7 fk_X5_60 (by first | assumption | decide) (by decide) rfl ?_
  refine ev_bipush (-4) dX5_full_10 rfl ?_
  exact ev_ireturn dX5_full_12 ⟨by rfl, by rfl⟩
/-- how good: kind, worth, days lain -/
def goodC (k w l : Int32) : Int32 :=
  if k = 1 then w + xmin 5 (l / 10) else if k = 2 then xmax 0 (w - l / 5) else if k = 3 then xmax 2 (xmax 0 (w - l / 5)) else if k = 4 then (if l < 7 then 0 else w + 3) else if k = 5 then xmin 25 (2 * (w + xmin 5 (l / 10))) else w
def plainC (w g : Int32) : Int32 := xmax 0 (6 - xabs (g - w))
def brideC (w g : Int32) : Int32 := if g < w then plainC w g else plainC w g + 2
def joyC (k w g : Int32) : Int32 :=
  if k = 1 then brideC w g else if k = 2 then xmax 3 (plainC w g) else if k = 3 then (brideC w g + 1) / 2 else if k = 4 then (if g < 4 then 0 else plainC w g) else if k = 5 then 2 * xmax 3 (plainC w g) else plainC w g
theorem c_X5_goodOf (d : Nat) {E : xE} {σ : xS} {k w l : Int32} : Ct E (d + 1) yX5_goodOf cX5_goodOf 5 (some .int) [.int k, .int w, .int l] σ (some (.int (goodC k w l))) σ := by
  refine Ct.of (by decide +kernel) (Nat.le_of_ble_eq_true rfl) ⟨_, rfl, rfl⟩ ?_
  show Ev E _ RX5 cX5_goodOf 5 _ 0 [some (.int k), some (.int w), some (.int l), none, none] [] _
  refine ev_iload_1 dX5_goodOf_0 ?_
  refine ev_iconst_5 dX5_goodOf_1 ?_
  refine ev_iload_2 dX5_goodOf_2 ?_
  refine ev_bipush (10) dX5_goodOf_3 rfl ?_
  refine ev_idiv dX5_goodOf_5 (by decide) ?_
  refine Ev.pc 6 rfl ?_
  refine ev_mmin dX5_goodOf_6 mm_X5_77 (rm_okm (by omega)) (Nat.le_of_ble_eq_true rfl) ?_
  refine Ev.pc 9 rfl ?_
  refine ev_iadd dX5_goodOf_9 ?_
  refine ev_istore_3 dX5_goodOf_10 rfl ?_
  refine ev_iconst_0 dX5_goodOf_11 ?_
  refine ev_iload_1 dX5_goodOf_12 ?_
  refine Ev.pc 13 rfl ?_
  refine ev_iload_2 dX5_goodOf_13 ?_
  refine ev_iconst_5 dX5_goodOf_14 ?_
  refine ev_idiv dX5_goodOf_15 (by decide) ?_
  refine ev_isub dX5_goodOf_16 ?_
  refine ev_mmax dX5_goodOf_17 mm_X5_83 (rm_okm (by omega)) (Nat.le_of_ble_eq_true rfl) ?_
  refine Ev.pc 20 rfl ?_
  refine ev_istore_4 dX5_goodOf_20 rfl ?_
  refine ev_iload_0 dX5_goodOf_22 ?_
  refine sw_X5_goodOf_23 (fun h23 => ?_) (fun h23 => ?_) (fun h23 => ?_) (fun h23 => ?_) (fun h23 => ?_) (fun h23_1 h23_2 h23_3 h23_4 h23_5 => ?_)
  · refine ev_iload_3 dX5_goodOf_56 ?_
    exact ev_ireturn dX5_goodOf_57 ⟨by ((try simp only [← i_nlt] at *); first | (simp [goodC, xmin, xmax, *]; done) | (simp [goodC, xmin, xmax, *]; rfl)), by rfl⟩
  · refine ev_iload_4 dX5_goodOf_58 ?_
    exact ev_ireturn dX5_goodOf_60 ⟨by ((try simp only [← i_nlt] at *); first | (simp [goodC, xmin, xmax, *]; done) | (simp [goodC, xmin, xmax, *]; rfl)), by rfl⟩
  · refine ev_iconst_2 dX5_goodOf_61 ?_
    refine ev_iload_4 dX5_goodOf_62 ?_
    refine ev_mmax dX5_goodOf_64 mm_X5_83 (rm_okm (by omega)) (Nat.le_of_ble_eq_true rfl) ?_
    refine Ev.pc 67 rfl ?_
    exact ev_ireturn dX5_goodOf_67 ⟨by ((try simp only [← i_nlt] at *); first | (simp [goodC, xmin, xmax, *]; done) | (simp [goodC, xmin, xmax, *]; rfl)), by rfl⟩
  · refine ev_iload_2 dX5_goodOf_68 ?_
    refine ev_bipush (7) dX5_goodOf_69 rfl ?_
    refine ev_icmp_ge 78 dX5_goodOf_71 rfl (fun h71 => ?_) (fun h71 => ?_)
    · refine ev_iload_1 dX5_goodOf_78 ?_
      refine ev_iconst_3 dX5_goodOf_79 ?_
      refine ev_iadd dX5_goodOf_80 ?_
      exact ev_ireturn dX5_goodOf_81 ⟨by ((try simp only [← i_nlt] at *); first | (simp [goodC, xmin, xmax, *]; done) | (simp [goodC, xmin, xmax, *]; rfl)), by rfl⟩
    · refine ev_iconst_0 dX5_goodOf_74 ?_
      refine ev_goto 81 dX5_goodOf_75 rfl ?_
      exact ev_ireturn dX5_goodOf_81 ⟨by ((try simp only [← i_nlt] at *); first | (simp [goodC, xmin, xmax, *]; done) | (simp [goodC, xmin, xmax, *]; rfl)), by rfl⟩
  · refine ev_bipush (25) dX5_goodOf_82 rfl ?_
    refine ev_iconst_2 dX5_goodOf_84 ?_
    refine ev_iload_3 dX5_goodOf_85 ?_
    refine ev_imul dX5_goodOf_86 ?_
    refine ev_mmin dX5_goodOf_87 mm_X5_77 (rm_okm (by omega)) (Nat.le_of_ble_eq_true rfl) ?_
    refine Ev.pc 90 rfl ?_
    exact ev_ireturn dX5_goodOf_90 ⟨by ((try simp only [← i_nlt] at *); first | (simp [goodC, xmin, xmax, *]; done) | (simp [goodC, xmin, xmax, *]; rfl)), by rfl⟩
  · refine ev_iload_1 dX5_goodOf_91 ?_
    exact ev_ireturn dX5_goodOf_92 ⟨by ((try simp only [← i_nlt] at *); first | (simp [goodC, xmin, xmax, *]; done) | (simp [goodC, xmin, xmax, *]; rfl)), by rfl⟩
theorem c_X5_joyOf (d : Nat) {E : xE} {σ : xS} {k w g : Int32} : Ct E (d + 1) yX5_joyOf cX5_joyOf 6 (some .int) [.int k, .int w, .int g] σ (some (.int (joyC k w g))) σ := by
  refine Ct.of (by decide +kernel) (Nat.le_of_ble_eq_true rfl) ⟨_, rfl, rfl⟩ ?_
  show Ev E _ RX5 cX5_joyOf 6 _ 0 [some (.int k), some (.int w), some (.int g), none, none, none] [] _
  refine ev_iconst_0 dX5_joyOf_0 ?_
  refine ev_bipush (6) dX5_joyOf_1 rfl ?_
  refine ev_iload_2 dX5_joyOf_3 ?_
  refine ev_iload_1 dX5_joyOf_4 ?_
  refine ev_isub dX5_joyOf_5 ?_
  refine Ev.pc 6 rfl ?_
  refine ev_mabs dX5_joyOf_6 mm_X5_86 (rm_okm (by omega)) (Nat.le_of_ble_eq_true rfl) ?_
  refine Ev.pc 9 rfl ?_
  refine ev_isub dX5_joyOf_9 ?_
  refine ev_mmax dX5_joyOf_10 mm_X5_83 (rm_okm (by omega)) (Nat.le_of_ble_eq_true rfl) ?_
  refine Ev.pc 13 rfl ?_
  refine ev_istore_3 dX5_joyOf_13 rfl ?_
  refine ev_iload_2 dX5_joyOf_14 ?_
  refine Ev.pc 15 rfl ?_
  refine ev_iload_1 dX5_joyOf_15 ?_
  refine ev_icmp_lt 25 dX5_joyOf_16 rfl (fun h16 => ?_) (fun h16 => ?_)
  · refine ev_iload_3 dX5_joyOf_25 ?_
    refine ev_istore_4 dX5_joyOf_26 rfl ?_
    refine ev_iconst_3 dX5_joyOf_28 ?_
    refine ev_iload_3 dX5_joyOf_29 ?_
    refine ev_mmax dX5_joyOf_30 mm_X5_83 (rm_okm (by omega)) (Nat.le_of_ble_eq_true rfl) ?_
    refine Ev.pc 33 rfl ?_
    refine ev_istore_5 dX5_joyOf_33 rfl ?_
    refine ev_iload_0 dX5_joyOf_35 ?_
    refine sw_X5_joyOf_36 (fun h36 => ?_) (fun h36 => ?_) (fun h36 => ?_) (fun h36 => ?_) (fun h36 => ?_) (fun h36_1 h36_2 h36_3 h36_4 h36_5 => ?_)
    · refine ev_iload_4 dX5_joyOf_72 ?_
      exact ev_ireturn dX5_joyOf_74 ⟨by ((try simp only [← i_nlt] at *); first | (simp [joyC, brideC, plainC, xmin, xmax, xabs, *]; done) | (simp [joyC, brideC, plainC, xmin, xmax, xabs, *]; rfl)), by rfl⟩
    · refine ev_iload_5 dX5_joyOf_75 ?_
      exact ev_ireturn dX5_joyOf_77 ⟨by ((try simp only [← i_nlt] at *); first | (simp [joyC, brideC, plainC, xmin, xmax, xabs, *]; done) | (simp [joyC, brideC, plainC, xmin, xmax, xabs, *]; rfl)), by rfl⟩
    · refine ev_iload_4 dX5_joyOf_78 ?_
      refine ev_iconst_1 dX5_joyOf_80 ?_
      refine ev_iadd dX5_joyOf_81 ?_
      refine ev_iconst_2 dX5_joyOf_82 ?_
      refine ev_idiv dX5_joyOf_83 (by decide) ?_
      refine Ev.pc 84 rfl ?_
      exact ev_ireturn dX5_joyOf_84 ⟨by ((try simp only [← i_nlt] at *); first | (simp [joyC, brideC, plainC, xmin, xmax, xabs, *]; done) | (simp [joyC, brideC, plainC, xmin, xmax, xabs, *]; rfl)), by rfl⟩
    · refine ev_iload_2 dX5_joyOf_85 ?_
      refine ev_iconst_4 dX5_joyOf_86 ?_
      refine ev_icmp_ge 94 dX5_joyOf_87 rfl (fun h87 => ?_) (fun h87 => ?_)
      · refine ev_iload_3 dX5_joyOf_94 ?_
        exact ev_ireturn dX5_joyOf_95 ⟨by ((try simp only [← i_nlt] at *); first | (simp [joyC, brideC, plainC, xmin, xmax, xabs, *]; done) | (simp [joyC, brideC, plainC, xmin, xmax, xabs, *]; rfl)), by rfl⟩
      · refine ev_iconst_0 dX5_joyOf_90 ?_
        refine ev_goto 95 dX5_joyOf_91 rfl ?_
        exact ev_ireturn dX5_joyOf_95 ⟨by ((try simp only [← i_nlt] at *); first | (simp [joyC, brideC, plainC, xmin, xmax, xabs, *]; done) | (simp [joyC, brideC, plainC, xmin, xmax, xabs, *]; rfl)), by rfl⟩
    · refine ev_iconst_2 dX5_joyOf_96 ?_
      refine ev_iload_5 dX5_joyOf_97 ?_
      refine ev_imul dX5_joyOf_99 ?_
      exact ev_ireturn dX5_joyOf_100 ⟨by ((try simp only [← i_nlt] at *); first | (simp [joyC, brideC, plainC, xmin, xmax, xabs, *]; done) | (simp [joyC, brideC, plainC, xmin, xmax, xabs, *]; rfl)), by rfl⟩
    · refine ev_iload_3 dX5_joyOf_101 ?_
      exact ev_ireturn dX5_joyOf_102 ⟨by ((try simp only [← i_nlt] at *); first | (simp [joyC, brideC, plainC, xmin, xmax, xabs, *]; done) | (simp [joyC, brideC, plainC, xmin, xmax, xabs, *]; rfl)), by rfl⟩
  · refine ev_iload_3 dX5_joyOf_19 ?_
    refine ev_iconst_2 dX5_joyOf_20 ?_
    refine ev_iadd dX5_joyOf_21 ?_
    refine ev_goto 26 dX5_joyOf_22 rfl ?_
    refine ev_istore_4 dX5_joyOf_26 rfl ?_
    refine ev_iconst_3 dX5_joyOf_28 ?_
    refine Ev.pc 29 rfl ?_
    refine ev_iload_3 dX5_joyOf_29 ?_
    refine ev_mmax dX5_joyOf_30 mm_X5_83 (rm_okm (by omega)) (Nat.le_of_ble_eq_true rfl) ?_
    refine Ev.pc 33 rfl ?_
    refine ev_istore_5 dX5_joyOf_33 rfl ?_
    refine ev_iload_0 dX5_joyOf_35 ?_
    refine sw_X5_joyOf_36 (fun h36 => ?_) (fun h36 => ?_) (fun h36 => ?_) (fun h36 => ?_) (fun h36 => ?_) (fun h36_1 h36_2 h36_3 h36_4 h36_5 => ?_)
    · refine ev_iload_4 dX5_joyOf_72 ?_
      exact ev_ireturn dX5_joyOf_74 ⟨by ((try simp only [← i_nlt] at *); first | (simp [joyC, brideC, plainC, xmin, xmax, xabs, *]; done) | (simp [joyC, brideC, plainC, xmin, xmax, xabs, *]; rfl)), by rfl⟩
    · refine ev_iload_5 dX5_joyOf_75 ?_
      exact ev_ireturn dX5_joyOf_77 ⟨by ((try simp only [← i_nlt] at *); first | (simp [joyC, brideC, plainC, xmin, xmax, xabs, *]; done) | (simp [joyC, brideC, plainC, xmin, xmax, xabs, *]; rfl)), by rfl⟩
    · refine ev_iload_4 dX5_joyOf_78 ?_
      refine ev_iconst_1 dX5_joyOf_80 ?_
      refine ev_iadd dX5_joyOf_81 ?_
      refine ev_iconst_2 dX5_joyOf_82 ?_
      refine ev_idiv dX5_joyOf_83 (by decide) ?_
      refine Ev.pc 84 rfl ?_
      exact ev_ireturn dX5_joyOf_84 ⟨by ((try simp only [← i_nlt] at *); first | (simp [joyC, brideC, plainC, xmin, xmax, xabs, *]; done) | (simp [joyC, brideC, plainC, xmin, xmax, xabs, *]; rfl)), by rfl⟩
    · refine ev_iload_2 dX5_joyOf_85 ?_
      refine ev_iconst_4 dX5_joyOf_86 ?_
      refine ev_icmp_ge 94 dX5_joyOf_87 rfl (fun h87 => ?_) (fun h87 => ?_)
      · refine ev_iload_3 dX5_joyOf_94 ?_
        exact ev_ireturn dX5_joyOf_95 ⟨by ((try simp only [← i_nlt] at *); first | (simp [joyC, brideC, plainC, xmin, xmax, xabs, *]; done) | (simp [joyC, brideC, plainC, xmin, xmax, xabs, *]; rfl)), by rfl⟩
      · refine ev_iconst_0 dX5_joyOf_90 ?_
        refine ev_goto 95 dX5_joyOf_91 rfl ?_
        exact ev_ireturn dX5_joyOf_95 ⟨by ((try simp only [← i_nlt] at *); first | (simp [joyC, brideC, plainC, xmin, xmax, xabs, *]; done) | (simp [joyC, brideC, plainC, xmin, xmax, xabs, *]; rfl)), by rfl⟩
    · refine ev_iconst_2 dX5_joyOf_96 ?_
      refine ev_iload_5 dX5_joyOf_97 ?_
      refine ev_imul dX5_joyOf_99 ?_
      exact ev_ireturn dX5_joyOf_100 ⟨by ((try simp only [← i_nlt] at *); first | (simp [joyC, brideC, plainC, xmin, xmax, xabs, *]; done) | (simp [joyC, brideC, plainC, xmin, xmax, xabs, *]; rfl)), by rfl⟩
    · refine ev_iload_3 dX5_joyOf_101 ?_
      exact ev_ireturn dX5_joyOf_102 ⟨by ((try simp only [← i_nlt] at *); first | (simp [joyC, brideC, plainC, xmin, xmax, xabs, *]; done) | (simp [joyC, brideC, plainC, xmin, xmax, xabs, *]; rfl)), by rfl⟩
