/-! the reference: type, clear, part, image, from, status, count -/
theorem c_X6_type_bad (d : Nat) {E : xE} {σ : xS} {c : Int32} (q7 : ¬ btw c 0 127) : Ct E (d + 1) yX6_type cX6_type 2 (some .int) [.ref (E.1 73), .int c] σ (some (.int (-2))) (mBad σ) := by
  refine Ct.of (by decide +kernel) (Nat.le_of_ble_eq_true rfl) ⟨_, rfl, rfl⟩ ?_
  show Ev E _ RX6 cX6_type 2 _ 0 [some (.ref (E.1 73)), some (.int c)] [] _
  refine ev_iload_1 dX6_type_0 ?_
  refine ev_i2l dX6_type_1 ?_
  refine ev_lconst_0 dX6_type_2 ?_
  refine ev_ldc2_w dX6_type_3 cn_X6_224 ?_
  refine ev_invS dX6_type_6 ml_X6_56 mt_X6_in (c_X6_in d (v := c) (lo := 0) (hi := 127) (by first | rfl | decide) (by first | rfl | decide) (by first | rfl | decide)) rfl rfl (rm_ok (by omega)) (Nat.le_of_ble_eq_true rfl) ?_
  refine Ev.pc 9 rfl ?_
  refine ev_if_ne 19 dX6_type_9 rfl (fun h9 => ?_) (fun h9 => ?_)
  · exact absurd (b2i_n0.mp h9) q7
  · refine ev_aload_0 dX6_type_12 ?_
    refine ev_bipush (-2) dX6_type_13 rfl ?_
    refine ev_invV (ci := 6) dX6_type_15 ml_X6_71 mt_X6_bad (c_X6_bad d) (by first | assumption | decide) (by decide) rfl rfl rfl (rm_ok (by omega)) (Nat.le_of_ble_eq_true rfl) ?_
    refine Ev.pc 18 rfl ?_
    exact ev_ireturn dX6_type_18 ⟨by rfl, by rfl⟩
def mType (σ : xS) (L : Nat) (c : Int32) : Int32 × xS :=
  if L = 150 then (-4, mFull σ) else (nI (L + 1), xu (xrow σ 82 (upd (σ.1 82) L c)) 73 11 (nI (L + 1)))
theorem c_X6_type (d : Nat) {E : xE} {σ : xS} {L : Nat} {c : Int32} (hc : btw c 0 127) (hL : σ.1 73 11 = nI L) (hL5 : L ≤ 150) : Ct E (d + 1) yX6_type cX6_type 2 (some .int) [.ref (E.1 73), .int c] σ (some (.int (mType σ L c).1)) (mType σ L c).2 := by
  by_cases q7 : L = 150
  · rw [mType, if_pos q7]
    refine Ct.of (by decide +kernel) (Nat.le_of_ble_eq_true rfl) ⟨_, rfl, rfl⟩ ?_
    show Ev E _ RX6 cX6_type 2 _ 0 [some (.ref (E.1 73)), some (.int c)] [] _
    refine ev_iload_1 dX6_type_0 ?_
    refine ev_i2l dX6_type_1 ?_
    refine ev_lconst_0 dX6_type_2 ?_
    refine ev_ldc2_w dX6_type_3 cn_X6_224 ?_
    refine ev_invS dX6_type_6 ml_X6_56 mt_X6_in (c_X6_in d (v := c) (lo := 0) (hi := 127) (by first | rfl | decide) (by first | rfl | decide) (by first | rfl | decide)) rfl rfl (rm_ok (by omega)) (Nat.le_of_ble_eq_true rfl) ?_
    refine Ev.pc 9 rfl ?_
    refine ev_if_ne 19 dX6_type_9 rfl (fun h9 => ?_) (fun h9 => ?_)
    · refine ev_aload_0 dX6_type_19 ?_
      refine ev_get dX6_type_20 fk_X6_226 (by first | assumption | decide) (by decide) rfl ?_
      refine ev_sipush (150) dX6_type_23 rfl ?_
      refine ev_icmp_ne 34 dX6_type_26 rfl (fun h26 => ?_) (fun h26 => ?_)
      · exact absurd (show σ.1 73 11 = 150 by rw [hL, q7]; rfl) h26
      · refine ev_aload_0 dX6_type_29 ?_
        refine ev_invV (ci := 6) dX6_type_30 ml_X6_75 mt_X6_full (c_X6_full d) (by first | assumption | decide) (by decide) rfl rfl rfl (rm_ok (by omega)) (Nat.le_of_ble_eq_true rfl) ?_
        refine Ev.pc 33 rfl ?_
        exact ev_ireturn dX6_type_33 ⟨by rfl, by rfl⟩
    · exact absurd hc (b2i_0.mp h9)
  · rw [mType, if_neg q7]
    refine Ct.of (by decide +kernel) (Nat.le_of_ble_eq_true rfl) ⟨_, rfl, rfl⟩ ?_
    show Ev E _ RX6 cX6_type 2 _ 0 [some (.ref (E.1 73)), some (.int c)] [] _
    refine ev_iload_1 dX6_type_0 ?_
    refine ev_i2l dX6_type_1 ?_
    refine ev_lconst_0 dX6_type_2 ?_
    refine ev_ldc2_w dX6_type_3 cn_X6_224 ?_
    refine ev_invS dX6_type_6 ml_X6_56 mt_X6_in (c_X6_in d (v := c) (lo := 0) (hi := 127) (by first | rfl | decide) (by first | rfl | decide) (by first | rfl | decide)) rfl rfl (rm_ok (by omega)) (Nat.le_of_ble_eq_true rfl) ?_
    refine Ev.pc 9 rfl ?_
    refine ev_if_ne 19 dX6_type_9 rfl (fun h9 => ?_) (fun h9 => ?_)
    · refine ev_aload_0 dX6_type_19 ?_
      refine ev_get dX6_type_20 fk_X6_226 (by first | assumption | decide) (by decide) rfl ?_
      refine ev_sipush (150) dX6_type_23 rfl ?_
      refine ev_icmp_ne 34 dX6_type_26 rfl (fun h26 => ?_) (fun h26 => ?_)
      · refine ev_aload_0 dX6_type_34 ?_
        refine ev_get dX6_type_35 fk_X6_39 (by first | assumption | decide) (by decide) rfl ?_
        refine ev_aload_0 dX6_type_38 ?_
        refine ev_get dX6_type_39 fk_X6_226 (by first | assumption | decide) (by decide) rfl ?_
        rw [hL]
        refine ev_iload_1 dX6_type_42 ?_
        refine Ev.pc 43 rfl ?_
        refine ev_astV dX6_type_43 (by first | assumption | decide) (by have := xls; omega) ?_
        refine ev_aload_0 dX6_type_44 ?_
        refine ev_dup dX6_type_45 rfl ?_
        refine ev_get dX6_type_46 fk_X6_226 (by first | assumption | decide) (by decide) rfl ?_
        rw [xrow_ne _ _ (by decide), hL]
        refine ev_iconst_1 dX6_type_49 ?_
        refine Ev.pc 50 rfl ?_
        refine ev_iadd dX6_type_50 ?_
        rw [nI_1]
        refine ev_put dX6_type_51 fk_X6_226 (by first | assumption | decide) (by decide) rfl ?_
        refine ev_aload_0 dX6_type_54 ?_
        refine ev_get dX6_type_55 fk_X6_226 (by first | assumption | decide) (by decide) rfl ?_
        exact ev_ireturn dX6_type_58 ⟨by (simp [xu]), by rfl⟩
      · exact absurd ((nI_eq (a := L) (b := 150) (by omega) (by omega)).mp (by rw [← hL]; exact h26)) q7
    · exact absurd hc (b2i_0.mp h9)
theorem c_X6_clear (d : Nat) {E : xE} {σ : xS} : Ct E d yX6_clear cX6_clear 2 (some .int) [.ref (E.1 73)] σ (some (.int (σ.1 73 11))) (xu σ 73 11 0) := by
  refine Ct.of (by decide +kernel) (Nat.le_of_ble_eq_true rfl) ⟨_, rfl, rfl⟩ ?_
  show Ev E _ RX6 cX6_clear 2 _ 0 [some (.ref (E.1 73)), none] [] _
  refine ev_aload_0 dX6_clear_0 ?_
  refine ev_get dX6_clear_1 fk_X6_226 (by first | assumption | decide) (by decide) rfl ?_
  refine ev_istore_1 dX6_clear_4 rfl ?_
  refine ev_aload_0 dX6_clear_5 ?_
  refine ev_iconst_0 dX6_clear_6 ?_
  refine Ev.pc 7 rfl ?_
  refine ev_put dX6_clear_7 fk_X6_226 (by first | assumption | decide) (by decide) rfl ?_
  refine ev_iload_1 dX6_clear_10 ?_
  exact ev_ireturn dX6_clear_11 ⟨by rfl, by rfl⟩
theorem c_X6_part (d : Nat) {E : xE} {σ : xS} {w : Int32} : Ct E (d + 1) yX6_part cX6_part 2 (some .long) [.ref (E.1 73), .int w] σ (some (.long (if w = 0 then σ.2 73 4 else if w = 1 then σ.2 73 5 else (-2 : Int32).toInt64))) (if w = 0 then σ else if w = 1 then σ else mBad σ) := by
  by_cases q7 : w = 0
  · rw [if_pos q7, if_pos q7]
    refine Ct.of (by decide +kernel) (Nat.le_of_ble_eq_true rfl) rfl ?_
    show Ev E _ RX6 cX6_part 2 _ 0 [some (.ref (E.1 73)), some (.int w)] [] _
    refine ev_iload_1 dX6_part_0 ?_
    refine ev_if_ne 11 dX6_part_1 rfl (fun h1 => ?_) (fun h1 => ?_)
    · exact absurd q7 h1
    · refine ev_aload_0 dX6_part_4 ?_
      refine ev_get dX6_part_5 fk_X6_199 (by first | assumption | decide) (by decide) rfl ?_
      refine ev_goto 30 dX6_part_8 rfl ?_
      exact ev_lreturn dX6_part_30 ⟨by rfl, by rfl⟩
  · rw [if_neg q7, if_neg q7]
    by_cases q8 : w = 1
    · rw [if_pos q8, if_pos q8]
      refine Ct.of (by decide +kernel) (Nat.le_of_ble_eq_true rfl) rfl ?_
      show Ev E _ RX6 cX6_part 2 _ 0 [some (.ref (E.1 73)), some (.int w)] [] _
      refine ev_iload_1 dX6_part_0 ?_
      refine ev_if_ne 11 dX6_part_1 rfl (fun h1 => ?_) (fun h1 => ?_)
      · refine ev_iload_1 dX6_part_11 ?_
        refine ev_iconst_1 dX6_part_12 ?_
        refine ev_icmp_ne 23 dX6_part_13 rfl (fun h13 => ?_) (fun h13 => ?_)
        · exact absurd q8 h13
        · refine ev_aload_0 dX6_part_16 ?_
          refine ev_get dX6_part_17 fk_X6_23 (by first | assumption | decide) (by decide) rfl ?_
          refine ev_goto 30 dX6_part_20 rfl ?_
          exact ev_lreturn dX6_part_30 ⟨by rfl, by rfl⟩
      · exact absurd h1 q7
    · rw [if_neg q8, if_neg q8]
      refine Ct.of (by decide +kernel) (Nat.le_of_ble_eq_true rfl) rfl ?_
      show Ev E _ RX6 cX6_part 2 _ 0 [some (.ref (E.1 73)), some (.int w)] [] _
      refine ev_iload_1 dX6_part_0 ?_
      refine ev_if_ne 11 dX6_part_1 rfl (fun h1 => ?_) (fun h1 => ?_)
      · refine ev_iload_1 dX6_part_11 ?_
        refine ev_iconst_1 dX6_part_12 ?_
        refine ev_icmp_ne 23 dX6_part_13 rfl (fun h13 => ?_) (fun h13 => ?_)
        · refine ev_aload_0 dX6_part_23 ?_
          refine ev_bipush (-2) dX6_part_24 rfl ?_
          refine ev_invV (ci := 6) dX6_part_26 ml_X6_71 mt_X6_bad (c_X6_bad d) (by first | assumption | decide) (by decide) rfl rfl rfl (rm_ok (by omega)) (Nat.le_of_ble_eq_true rfl) ?_
          refine Ev.pc 29 rfl ?_
          refine ev_i2l dX6_part_29 ?_
          exact ev_lreturn dX6_part_30 ⟨by rfl, by rfl⟩
        · exact absurd h13 q8
      · exact absurd h1 q7
/-- k cells of row r from s on, laid into g from t on -/
def cqF (g r : Nat → Int32) (t s n : Nat) : Nat → Int32 := fun k => if t ≤ k ∧ k < t + n then r (k - t + s) else g k
theorem cqF_0 (g r : Nat → Int32) (t s : Nat) : cqF g r t s 0 = g := by
  funext k; simp only [cqF, show ¬ (t ≤ k ∧ k < t + 0) by omega, if_false]
theorem cqF_s (g r : Nat → Int32) (t s n : Nat) : upd (cqF g r t s n) (t + n) (r (s + n)) = cqF g r t s (n + 1) := by
  funext k
  by_cases hk : k = t + n
  · subst hk
    simp only [upd, cqF, if_true, show t ≤ t + n ∧ t + n < t + (n + 1) by omega, show t + n - t + s = s + n by omega, and_self]
  · simp only [upd, hk, if_false, cqF, show (t ≤ k ∧ k < t + n) ↔ (t ≤ k ∧ k < t + (n + 1)) by omega]
theorem c_X6_image_bad (d : Nat) {E : xE} {σ : xS} {i : Int32} (q7 : ¬ btw i 0 1) : Ct E (d + 1) yX6_image cX6_image 3 (some .int) [.ref (E.1 73), .int i] σ (some (.int (-2))) (mBad σ) := by
  refine Ct.of (by decide +kernel) (Nat.le_of_ble_eq_true rfl) ⟨_, rfl, rfl⟩ ?_
  show Ev E _ RX6 cX6_image 3 _ 0 [some (.ref (E.1 73)), some (.int i), none] [] _
  refine ev_iload_1 dX6_image_0 ?_
  refine ev_i2l dX6_image_1 ?_
  refine ev_lconst_0 dX6_image_2 ?_
  refine ev_lconst_1 dX6_image_3 ?_
  refine ev_invS dX6_image_4 ml_X6_56 mt_X6_in (c_X6_in d (v := i) (lo := 0) (hi := 1) (by first | rfl | decide) (by first | rfl | decide) (by first | rfl | decide)) rfl rfl (rm_ok (by omega)) (Nat.le_of_ble_eq_true rfl) ?_
  refine Ev.pc 7 rfl ?_
  refine ev_if_ne 17 dX6_image_7 rfl (fun h7 => ?_) (fun h7 => ?_)
  · exact absurd (b2i_n0.mp h7) q7
  · refine ev_aload_0 dX6_image_10 ?_
    refine ev_bipush (-2) dX6_image_11 rfl ?_
    refine ev_invV (ci := 6) dX6_image_13 ml_X6_71 mt_X6_bad (c_X6_bad d) (by first | assumption | decide) (by decide) rfl rfl rfl (rm_ok (by omega)) (Nat.le_of_ble_eq_true rfl) ?_
    refine Ev.pc 16 rfl ?_
    exact ev_ireturn dX6_image_16 ⟨by rfl, by rfl⟩
theorem c_X6_image (d : Nat) {E : xE} {σ : xS} {i : Nat} (hi : i < 2) : Ct E (d + 1) yX6_image cX6_image 3 (some .int) [.ref (E.1 73), .int (nI i)] σ (some (.int 1)) (xu (xrow σ 75 (cqF (σ.1 75) (σ.1 74) (258 * i) 0 258)) 76 i 1) := by
  have e1 : btw (nI i) 0 1 := ⟨nI_pos' (by omega), show nI i ≤ nI 1 from nI_le (by omega) (by omega)⟩
  have loop : ∀ (n k : Nat), k + n = 258 → Ev E (rm (d + 1)) RX6 cX6_image 3 (fun v t => v = some (.int 1) ∧ t = xu (xrow σ 75 (cqF (σ.1 75) (σ.1 74) (258 * i) 0 258)) 76 i 1) 19 [some (.ref (E.1 73)), some (.int (nI i)), some (.int (nI k))] [] (xrow σ 75 (cqF (σ.1 75) (σ.1 74) (258 * i) 0 k)) := by
    intro n
    induction n with
    | zero =>
      intro k hk
      refine ev_iload_2 dX6_image_19 ?_
      refine ev_sipush (258) dX6_image_20 rfl ?_
      refine ev_icmp_ge 50 dX6_image_23 rfl (fun h23 => ?_) (fun h23 => ?_)
      · refine ev_aload_0 dX6_image_50 ?_
        refine ev_get dX6_image_51 fk_X6_16 (by first | assumption | decide) (by decide) rfl ?_
        refine ev_iload_1 dX6_image_54 ?_
        refine ev_iconst_1 dX6_image_55 ?_
        refine ev_bastore dX6_image_56 (by first | assumption | decide) (vp_in_nI (by have := xls; omega) (by decide)) (by decide) ?_
        refine Ev.pc 57 rfl ?_
        refine ev_iconst_1 dX6_image_57 ?_
        exact ev_ireturn dX6_image_58 ⟨by rfl, by (rw [nI_clamp (by omega), show k = 258 by omega])⟩
      · exact absurd (show nI 258 ≤ nI k from nI_le (by omega) (by omega)) h23
    | succ n ih =>
      intro k hk
      have e2 : σ.1 74 k = σ.1 74 (0 + k) := by rw [Nat.zero_add]
      refine ev_iload_2 dX6_image_19 ?_
      refine ev_sipush (258) dX6_image_20 rfl ?_
      refine ev_icmp_ge 50 dX6_image_23 rfl (fun h23 => ?_) (fun h23 => ?_)
      · exact absurd h23 (show ¬ nI 258 ≤ nI k from nI_ge (by omega) (by omega))
      · refine ev_aload_0 dX6_image_26 ?_
        refine ev_get dX6_image_27 fk_X6_13 (by first | assumption | decide) (by decide) rfl ?_
        refine ev_sipush (258) dX6_image_30 rfl ?_
        refine ev_iload_1 dX6_image_33 ?_
        refine ev_imul dX6_image_34 ?_
        refine Ev.pc 35 rfl ?_
        refine ev_iload_2 dX6_image_35 ?_
        refine ev_iadd dX6_image_36 ?_
        refine ev_aload_0 dX6_image_37 ?_
        refine ev_get dX6_image_38 fk_X6_7 (by first | assumption | decide) (by decide) rfl ?_
        refine ev_iload_2 dX6_image_41 ?_
        refine Ev.pc 42 rfl ?_
        refine ev_aldV dX6_image_42 (by first | assumption | decide) (by have := xls; omega) ?_
        refine ev_astN (k := 258 * i + k) dX6_image_43 (by first | assumption | decide) (by first | rfl | (simp only [fa_lit, nI_add, pk_mul]; done) | (simp only [fa_lit, nI_add, pk_mul]; congr 1; omega)) (by have := xls; omega) ?_
        refine ev_iinc_2 (1) dX6_image_44 rfl rfl ?_
        refine ev_goto 19 dX6_image_47 rfl ?_
        rw [xrow_ne _ _ (show (74 : Nat) ≠ 75 by decide), xrow_at, xrow_row, e2, cqF_s, nI_1]
        exact ih (k + 1) (by omega)
  refine Ct.of (by decide +kernel) (Nat.le_of_ble_eq_true rfl) ⟨_, rfl, rfl⟩ ?_
  show Ev E _ RX6 cX6_image 3 _ 0 [some (.ref (E.1 73)), some (.int (nI i)), none] [] _
  refine ev_iload_1 dX6_image_0 ?_
  refine ev_i2l dX6_image_1 ?_
  refine ev_lconst_0 dX6_image_2 ?_
  refine ev_lconst_1 dX6_image_3 ?_
  refine ev_invS dX6_image_4 ml_X6_56 mt_X6_in (c_X6_in d (v := nI i) (lo := 0) (hi := 1) (by first | rfl | decide) (by first | rfl | decide) (by first | rfl | decide)) rfl rfl (rm_ok (by omega)) (Nat.le_of_ble_eq_true rfl) ?_
  refine Ev.pc 7 rfl ?_
  refine ev_if_ne 17 dX6_image_7 rfl (fun h7 => ?_) (fun h7 => ?_)
  · refine ev_iconst_0 dX6_image_17 ?_
    refine ev_istore_2 dX6_image_18 rfl ?_
    have h := loop 258 0 (by omega)
    rw [cqF_0, xrow_id] at h
    exact h
  · exact absurd e1 (b2i_0.mp h7)
theorem c_X6_from_bad (d : Nat) {E : xE} {σ : xS} {i : Int32} (q7 : ¬ btw i 0 1) : Ct E (d + 1) yX6_from cX6_from 3 (some .int) [.ref (E.1 73), .int i] σ (some (.int (-2))) (mBad σ) := by
  refine Ct.of (by decide +kernel) (Nat.le_of_ble_eq_true rfl) ⟨_, rfl, rfl⟩ ?_
  show Ev E _ RX6 cX6_from 3 _ 0 [some (.ref (E.1 73)), some (.int i), none] [] _
  refine ev_iload_1 dX6_from_0 ?_
  refine ev_i2l dX6_from_1 ?_
  refine ev_lconst_0 dX6_from_2 ?_
  refine ev_lconst_1 dX6_from_3 ?_
  refine ev_invS dX6_from_4 ml_X6_56 mt_X6_in (c_X6_in d (v := i) (lo := 0) (hi := 1) (by first | rfl | decide) (by first | rfl | decide) (by first | rfl | decide)) rfl rfl (rm_ok (by omega)) (Nat.le_of_ble_eq_true rfl) ?_
  refine Ev.pc 7 rfl ?_
  refine ev_if_ne 17 dX6_from_7 rfl (fun h7 => ?_) (fun h7 => ?_)
  · exact absurd (b2i_n0.mp h7) q7
  · refine ev_aload_0 dX6_from_10 ?_
    refine ev_bipush (-2) dX6_from_11 rfl ?_
    refine ev_invV (ci := 6) dX6_from_13 ml_X6_71 mt_X6_bad (c_X6_bad d) (by first | assumption | decide) (by decide) rfl rfl rfl (rm_ok (by omega)) (Nat.le_of_ble_eq_true rfl) ?_
    refine Ev.pc 16 rfl ?_
    exact ev_ireturn dX6_from_16 ⟨by rfl, by rfl⟩
theorem c_X6_from_no (d : Nat) {E : xE} {σ : xS} {i : Nat} (hi : i < 2) (q7 : σ.1 76 i = 0) : Ct E (d + 1) yX6_from cX6_from 3 (some .int) [.ref (E.1 73), .int (nI i)] σ (some (.int (-3))) (mNo σ) := by
  have e1 : btw (nI i) 0 1 := ⟨nI_pos' (by omega), show nI i ≤ nI 1 from nI_le (by omega) (by omega)⟩
  refine Ct.of (by decide +kernel) (Nat.le_of_ble_eq_true rfl) ⟨_, rfl, rfl⟩ ?_
  show Ev E _ RX6 cX6_from 3 _ 0 [some (.ref (E.1 73)), some (.int (nI i)), none] [] _
  refine ev_iload_1 dX6_from_0 ?_
  refine ev_i2l dX6_from_1 ?_
  refine ev_lconst_0 dX6_from_2 ?_
  refine ev_lconst_1 dX6_from_3 ?_
  refine ev_invS dX6_from_4 ml_X6_56 mt_X6_in (c_X6_in d (v := nI i) (lo := 0) (hi := 1) (by first | rfl | decide) (by first | rfl | decide) (by first | rfl | decide)) rfl rfl (rm_ok (by omega)) (Nat.le_of_ble_eq_true rfl) ?_
  refine Ev.pc 7 rfl ?_
  refine ev_if_ne 17 dX6_from_7 rfl (fun h7 => ?_) (fun h7 => ?_)
  · refine ev_aload_0 dX6_from_17 ?_
    refine ev_get dX6_from_18 fk_X6_16 (by first | assumption | decide) (by decide) rfl ?_
    refine ev_iload_1 dX6_from_21 ?_
    refine ev_baload dX6_from_22 (by first | assumption | decide) (vp_in_nI (by have := xls; omega) (by decide)) ?_
    rw [nI_clamp (by omega)]
    refine ev_if_ne 31 dX6_from_23 rfl (fun h23 => ?_) (fun h23 => ?_)
    · exact absurd q7 h23
    · refine ev_aload_0 dX6_from_26 ?_
      refine ev_invV (ci := 6) dX6_from_27 ml_X6_128 mt_X6_no (c_X6_no d) (by first | assumption | decide) (by decide) rfl rfl rfl (rm_ok (by omega)) (Nat.le_of_ble_eq_true rfl) ?_
      refine Ev.pc 30 rfl ?_
      exact ev_ireturn dX6_from_30 ⟨by rfl, by rfl⟩
  · exact absurd e1 (b2i_0.mp h7)
theorem c_X6_from (d : Nat) {E : xE} {σ : xS} {i : Nat} (hi : i < 2) (q7 : ¬ σ.1 76 i = 0) : Ct E (d + 1) yX6_from cX6_from 3 (some .int) [.ref (E.1 73), .int (nI i)] σ (some (.int 1)) (xrow σ 74 (cqF (σ.1 74) (σ.1 75) 0 (258 * i) 258)) := by
  have e1 : btw (nI i) 0 1 := ⟨nI_pos' (by omega), show nI i ≤ nI 1 from nI_le (by omega) (by omega)⟩
  have loop : ∀ (n k : Nat), k + n = 258 → Ev E (rm (d + 1)) RX6 cX6_from 3 (fun v t => v = some (.int 1) ∧ t = xrow σ 74 (cqF (σ.1 74) (σ.1 75) 0 (258 * i) 258)) 33 [some (.ref (E.1 73)), some (.int (nI i)), some (.int (nI k))] [] (xrow σ 74 (cqF (σ.1 74) (σ.1 75) 0 (258 * i) k)) := by
    intro n
    induction n with
    | zero =>
      intro k hk
      refine ev_iload_2 dX6_from_33 ?_
      refine ev_sipush (258) dX6_from_34 rfl ?_
      refine ev_icmp_ge 64 dX6_from_37 rfl (fun h37 => ?_) (fun h37 => ?_)
      · refine ev_iconst_1 dX6_from_64 ?_
        exact ev_ireturn dX6_from_65 ⟨by rfl, by (rw [show k = 258 by omega])⟩
      · exact absurd (show nI 258 ≤ nI k from nI_le (by omega) (by omega)) h37
    | succ n ih =>
      intro k hk
      have e2 : upd (cqF (σ.1 74) (σ.1 75) 0 (258 * i) k) k (σ.1 75 (258 * i + k)) = cqF (σ.1 74) (σ.1 75) 0 (258 * i) (k + 1) := by
        have := cqF_s (σ.1 74) (σ.1 75) 0 (258 * i) k
        rw [Nat.zero_add] at this
        exact this
      refine ev_iload_2 dX6_from_33 ?_
      refine ev_sipush (258) dX6_from_34 rfl ?_
      refine ev_icmp_ge 64 dX6_from_37 rfl (fun h37 => ?_) (fun h37 => ?_)
      · exact absurd h37 (show ¬ nI 258 ≤ nI k from nI_ge (by omega) (by omega))
      · refine ev_aload_0 dX6_from_40 ?_
        refine ev_get dX6_from_41 fk_X6_7 (by first | assumption | decide) (by decide) rfl ?_
        refine ev_iload_2 dX6_from_44 ?_
        refine ev_aload_0 dX6_from_45 ?_
        refine ev_get dX6_from_46 fk_X6_13 (by first | assumption | decide) (by decide) rfl ?_
        refine Ev.pc 49 rfl ?_
        refine ev_sipush (258) dX6_from_49 rfl ?_
        refine ev_iload_1 dX6_from_52 ?_
        refine ev_imul dX6_from_53 ?_
        refine ev_iload_2 dX6_from_54 ?_
        refine ev_iadd dX6_from_55 ?_
        refine Ev.pc 56 rfl ?_
        refine ev_aldN (k := 258 * i + k) dX6_from_56 (by first | assumption | decide) (by first | rfl | (simp only [fa_lit, nI_add, pk_mul]; done) | (simp only [fa_lit, nI_add, pk_mul]; congr 1; omega)) (by have := xls; omega) ?_
        refine ev_astV dX6_from_57 (by first | assumption | decide) (by have := xls; omega) ?_
        refine ev_iinc_2 (1) dX6_from_58 rfl rfl ?_
        refine ev_goto 33 dX6_from_61 rfl ?_
        rw [xrow_ne _ _ (show (75 : Nat) ≠ 74 by decide), xrow_at, xrow_row, e2, nI_1]
        exact ih (k + 1) (by omega)
  refine Ct.of (by decide +kernel) (Nat.le_of_ble_eq_true rfl) ⟨_, rfl, rfl⟩ ?_
  show Ev E _ RX6 cX6_from 3 _ 0 [some (.ref (E.1 73)), some (.int (nI i)), none] [] _
  refine ev_iload_1 dX6_from_0 ?_
  refine ev_i2l dX6_from_1 ?_
  refine ev_lconst_0 dX6_from_2 ?_
  refine ev_lconst_1 dX6_from_3 ?_
  refine ev_invS dX6_from_4 ml_X6_56 mt_X6_in (c_X6_in d (v := nI i) (lo := 0) (hi := 1) (by first | rfl | decide) (by first | rfl | decide) (by first | rfl | decide)) rfl rfl (rm_ok (by omega)) (Nat.le_of_ble_eq_true rfl) ?_
  refine Ev.pc 7 rfl ?_
  refine ev_if_ne 17 dX6_from_7 rfl (fun h7 => ?_) (fun h7 => ?_)
  · refine ev_aload_0 dX6_from_17 ?_
    refine ev_get dX6_from_18 fk_X6_16 (by first | assumption | decide) (by decide) rfl ?_
    refine ev_iload_1 dX6_from_21 ?_
    refine ev_baload dX6_from_22 (by first | assumption | decide) (vp_in_nI (by have := xls; omega) (by decide)) ?_
    rw [nI_clamp (by omega)]
    refine ev_if_ne 31 dX6_from_23 rfl (fun h23 => ?_) (fun h23 => ?_)
    · refine ev_iconst_0 dX6_from_31 ?_
      refine ev_istore_2 dX6_from_32 rfl ?_
      have h := loop 258 0 (by omega)
      rw [cqF_0, xrow_id] at h
      exact h
    · exact absurd h23 q7
  · exact absurd e1 (b2i_0.mp h7)
theorem c_X6_status_bad (d : Nat) {E : xE} {σ : xS} {w : Int32} (q7 : ¬ btw w 0 2) : Ct E (d + 1) yX6_status cX6_status 2 (some .int) [.ref (E.1 73), .int w] σ (some (.int (-1))) (mBad σ) := by
  refine Ct.of (by decide +kernel) (Nat.le_of_ble_eq_true rfl) ⟨_, rfl, rfl⟩ ?_
  show Ev E _ RX6 cX6_status 2 _ 0 [some (.ref (E.1 73)), some (.int w)] [] _
  refine ev_iload_1 dX6_status_0 ?_
  refine ev_i2l dX6_status_1 ?_
  refine ev_lconst_0 dX6_status_2 ?_
  refine ev_ldc2_w dX6_status_3 cn_X6_147 ?_
  refine ev_invS dX6_status_6 ml_X6_56 mt_X6_in (c_X6_in d (v := w) (lo := 0) (hi := 2) (by first | rfl | decide) (by first | rfl | decide) (by first | rfl | decide)) rfl rfl (rm_ok (by omega)) (Nat.le_of_ble_eq_true rfl) ?_
  refine Ev.pc 9 rfl ?_
  refine ev_if_eq 21 dX6_status_9 rfl (fun h9 => ?_) (fun h9 => ?_)
  · refine ev_aload_0 dX6_status_21 ?_
    refine ev_iconst_m1 dX6_status_22 ?_
    refine ev_invV (ci := 6) dX6_status_23 ml_X6_71 mt_X6_bad (c_X6_bad d) (by first | assumption | decide) (by decide) rfl rfl rfl (rm_ok (by omega)) (Nat.le_of_ble_eq_true rfl) ?_
    refine Ev.pc 26 rfl ?_
    exact ev_ireturn dX6_status_26 ⟨by rfl, by rfl⟩
  · exact absurd (b2i_n0.mp h9) q7
theorem c_X6_status (d : Nat) {E : xE} {σ : xS} {k : Nat} (hk : k < 3) : Ct E (d + 1) yX6_status cX6_status 2 (some .int) [.ref (E.1 73), .int (nI k)] σ (some (.int (σ.1 77 k))) σ := by
  have e1 : btw (nI k) 0 2 := ⟨nI_pos' (by omega), show nI k ≤ nI 2 from nI_le (by omega) (by omega)⟩
  refine Ct.of (by decide +kernel) (Nat.le_of_ble_eq_true rfl) ⟨_, rfl, rfl⟩ ?_
  show Ev E _ RX6 cX6_status 2 _ 0 [some (.ref (E.1 73)), some (.int (nI k))] [] _
  refine ev_iload_1 dX6_status_0 ?_
  refine ev_i2l dX6_status_1 ?_
  refine ev_lconst_0 dX6_status_2 ?_
  refine ev_ldc2_w dX6_status_3 cn_X6_147 ?_
  refine ev_invS dX6_status_6 ml_X6_56 mt_X6_in (c_X6_in d (v := nI k) (lo := 0) (hi := 2) (by first | rfl | decide) (by first | rfl | decide) (by first | rfl | decide)) rfl rfl (rm_ok (by omega)) (Nat.le_of_ble_eq_true rfl) ?_
  refine Ev.pc 9 rfl ?_
  refine ev_if_eq 21 dX6_status_9 rfl (fun h9 => ?_) (fun h9 => ?_)
  · exact absurd e1 (b2i_0.mp h9)
  · refine ev_aload_0 dX6_status_12 ?_
    refine ev_get dX6_status_13 fk_X6_20 (by first | assumption | decide) (by decide) rfl ?_
    refine ev_iload_1 dX6_status_16 ?_
    refine ev_aldV dX6_status_17 (by first | assumption | decide) (by have := xls; omega) ?_
    refine ev_goto 26 dX6_status_18 rfl ?_
    exact ev_ireturn dX6_status_26 ⟨by rfl, by rfl⟩
