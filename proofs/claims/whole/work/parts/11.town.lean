/-! a town: eight cells from t on -/
def TownAt (t : Nat) : Prop := (t < xN ∧ xcls t = 4) ∧ (t + 1 < xN ∧ xcls (t + 1) = 7) ∧ (t + 2 < xN ∧ xcls (t + 2) = 7) ∧ (t + 3 < xN ∧ xcls (t + 3) = 7) ∧ (t + 4 < xN ∧ xcls (t + 4) = 7) ∧ (t + 5 < xN ∧ xcls (t + 5) = 7) ∧ (t + 6 < xN ∧ xcls (t + 6) = 7) ∧ (t + 7 < xN ∧ xcls (t + 7) = 7) ∧
  xlen (t + 1) = 7 ∧ xlen (t + 2) = 7 ∧ xlen (t + 3) = 7 ∧ xlen (t + 4) = 7 ∧ xlen (t + 5) = 4 ∧ xlen (t + 6) = 4 ∧ xlen (t + 7) = 3
theorem town_now : TownAt 2 := by unfold TownAt; decide +kernel
theorem town_i0 : TownAt 19 := by unfold TownAt; decide +kernel
theorem town_i1 : TownAt 36 := by unfold TownAt; decide +kernel
theorem town_draft : TownAt 54 := by unfold TownAt; decide +kernel
theorem town_trial : TownAt 62 := by unfold TownAt; decide +kernel
def gB (σ : xS) (t : Nat) (p m : Int32) : Int32 := goodC (xat σ (t + 1) p) (xat σ (t + 2) p) (xat σ (t + 3) p + (if xat σ (t + 4) p = 0 then m else 0))
def prB (σ : xS) (t : Nat) (p : Int32) : Int32 := 2 * gB σ t p 0 + 1
def jB (σ : xS) (t : Nat) (p h : Int32) : Int32 := joyC (xat σ (t + 5) h) (xat σ (t + 6) h) (gB σ t p 0)
abbrev hasIn (n p : Int32) : Prop := 0 ≤ p ∧ p ≤ n - 1
abbrev inW (σ : xS) (t : Nat) (p : Int32) : Prop := hasIn (σ.1 t 7) p ∧ xat σ (t + 4) p = 0
abbrev held (σ : xS) (t : Nat) (p : Int32) : Prop := hasIn (σ.1 t 7) p ∧ 1 ≤ xat σ (t + 4) p ∧ xat σ (t + 4) p ≤ 3
abbrev canB (σ : xS) (t : Nat) (b p : Int32) : Prop := hasIn (σ.1 t 9) b ∧ inW σ t p ∧ prB σ t p ≤ xat σ (t + 7) b
/-- bits of a set of numbers below n -/
def mkI (f : Nat → Bool) : Nat → Int32
  | 0 => 0
  | n + 1 => if f n then mkI f n ||| (1 <<< (nI n &&& 31)) else mkI f n
def smI (f : Nat → Int32) : Nat → Int32
  | 0 => 0
  | n + 1 => smI f n + f n
def bitCnt (x : Int32) : Int32 :=
  let us := fun (x s : Int32) => (x.toUInt32 >>> (s.toUInt32 &&& Int32.toUInt32 31)).toInt32
  let a := x - (us x 1 &&& 1431655765)
  let b := (a &&& 858993459) + (us a 2 &&& 858993459)
  let c := (b + us b 4) &&& 252645135
  let e := c + us c 8
  (e + us e 16) &&& 63
theorem c_J6_bitCount_0f7a4 (d : Nat) {E : xE} {σ : xS} {x : Int32} : Ct E d yJ6_bitCount_0f7a4 cJ6_bitCount_0f7a4 1 (some .int) [.int x] σ (some (.int (bitCnt x))) σ := by
  refine Ct.of (by decide +kernel) (Nat.le_of_ble_eq_true rfl) ⟨_, rfl, rfl⟩ ?_
  show Ev E _ RJ6 cJ6_bitCount_0f7a4 1 _ 0 [some (.int x)] [] _
  refine ev_iload_0 dJ6_bitCount_0f7a4_0 ?_
  refine ev_iload_0 dJ6_bitCount_0f7a4_1 ?_
  refine ev_iconst_1 dJ6_bitCount_0f7a4_2 ?_
  refine ev_iushr dJ6_bitCount_0f7a4_3 ?_
  refine ev_ldc_w dJ6_bitCount_0f7a4_4 cn_J6_265 ?_
  refine Ev.pc 7 rfl ?_
  refine ev_iand dJ6_bitCount_0f7a4_7 ?_
  refine ev_isub dJ6_bitCount_0f7a4_8 ?_
  refine ev_istore_0 dJ6_bitCount_0f7a4_9 ?_
  refine ev_iload_0 dJ6_bitCount_0f7a4_10 ?_
  refine ev_ldc_w dJ6_bitCount_0f7a4_11 cn_J6_266 ?_
  refine Ev.pc 14 rfl ?_
  refine ev_iand dJ6_bitCount_0f7a4_14 ?_
  refine ev_iload_0 dJ6_bitCount_0f7a4_15 ?_
  refine ev_iconst_2 dJ6_bitCount_0f7a4_16 ?_
  refine ev_iushr dJ6_bitCount_0f7a4_17 ?_
  refine ev_ldc_w dJ6_bitCount_0f7a4_18 cn_J6_266 ?_
  refine Ev.pc 21 rfl ?_
  refine ev_iand dJ6_bitCount_0f7a4_21 ?_
  refine ev_iadd dJ6_bitCount_0f7a4_22 ?_
  refine ev_istore_0 dJ6_bitCount_0f7a4_23 ?_
  refine ev_iload_0 dJ6_bitCount_0f7a4_24 ?_
  refine ev_iload_0 dJ6_bitCount_0f7a4_25 ?_
  refine Ev.pc 26 rfl ?_
  refine ev_iconst_4 dJ6_bitCount_0f7a4_26 ?_
  refine ev_iushr dJ6_bitCount_0f7a4_27 ?_
  refine ev_iadd dJ6_bitCount_0f7a4_28 ?_
  refine ev_ldc_w dJ6_bitCount_0f7a4_29 cn_J6_267 ?_
  refine ev_iand dJ6_bitCount_0f7a4_32 ?_
  refine Ev.pc 33 rfl ?_
  refine ev_istore_0 dJ6_bitCount_0f7a4_33 ?_
  refine ev_iload_0 dJ6_bitCount_0f7a4_34 ?_
  refine ev_iload_0 dJ6_bitCount_0f7a4_35 ?_
  refine ev_bipush (8) dJ6_bitCount_0f7a4_36 rfl ?_
  refine ev_iushr dJ6_bitCount_0f7a4_38 ?_
  refine Ev.pc 39 rfl ?_
  refine ev_iadd dJ6_bitCount_0f7a4_39 ?_
  refine ev_istore_0 dJ6_bitCount_0f7a4_40 ?_
  refine ev_iload_0 dJ6_bitCount_0f7a4_41 ?_
  refine ev_iload_0 dJ6_bitCount_0f7a4_42 ?_
  refine ev_bipush (16) dJ6_bitCount_0f7a4_43 rfl ?_
  refine Ev.pc 45 rfl ?_
  refine ev_iushr dJ6_bitCount_0f7a4_45 ?_
  refine ev_iadd dJ6_bitCount_0f7a4_46 ?_
  refine ev_istore_0 dJ6_bitCount_0f7a4_47 ?_
  refine ev_iload_0 dJ6_bitCount_0f7a4_48 ?_
  refine ev_bipush (63) dJ6_bitCount_0f7a4_49 rfl ?_
  refine Ev.pc 51 rfl ?_
  refine ev_iand dJ6_bitCount_0f7a4_51 ?_
  exact ev_ireturn dJ6_bitCount_0f7a4_52 ⟨by rfl, by rfl⟩
theorem c_X4_empty (d : Nat) {E : xE} {σ : xS} {t : Nat} (ht : t < xN ∧ xcls t = 4) : Ct E d yX4_empty cX4_empty 1 none [.ref (E.1 t)] σ none (xu (xu (xu (xu (xu σ t 7 0) t 8 0) t 9 0) t 10 0) t 11 0) := by
  refine Ct.of (by decide +kernel) (Nat.le_of_ble_eq_true rfl) rfl ?_
  show Ev E _ RX4 cX4_empty 1 _ 0 [some (.ref (E.1 t))] [] _
  refine ev_aload_0 dX4_empty_0 ?_
  refine ev_iconst_0 dX4_empty_1 ?_
  refine ev_put dX4_empty_2 fk_X4_33 (by first | assumption | decide) (by decide) rfl ?_
  refine ev_aload_0 dX4_empty_5 ?_
  refine ev_iconst_0 dX4_empty_6 ?_
  refine Ev.pc 7 rfl ?_
  refine ev_put dX4_empty_7 fk_X4_37 (by first | assumption | decide) (by decide) rfl ?_
  refine ev_aload_0 dX4_empty_10 ?_
  refine ev_iconst_0 dX4_empty_11 ?_
  refine ev_put dX4_empty_12 fk_X4_40 (by first | assumption | decide) (by decide) rfl ?_
  refine ev_aload_0 dX4_empty_15 ?_
  refine Ev.pc 16 rfl ?_
  refine ev_iconst_0 dX4_empty_16 ?_
  refine ev_put dX4_empty_17 fk_X4_43 (by first | assumption | decide) (by decide) rfl ?_
  refine ev_aload_0 dX4_empty_20 ?_
  refine ev_iconst_0 dX4_empty_21 ?_
  refine ev_put dX4_empty_22 fk_X4_46 (by first | assumption | decide) (by decide) rfl ?_
  refine Ev.pc 25 rfl ?_
  exact ev_return dX4_empty_25 ⟨by rfl, by rfl⟩
theorem c_X4_hasPromise (d : Nat) {E : xE} {σ : xS} {t : Nat} {p : Int32} (ht : t < xN ∧ xcls t = 4) : Ct E (d + 1) yX4_hasPromise cX4_hasPromise 2 (some .boolean) [.ref (E.1 t), .int p] σ (some (.int (b2i (hasIn (σ.1 t 7) p)))) σ := by
  refine Ct.of (by decide +kernel) (Nat.le_of_ble_eq_true rfl) ⟨_, rfl, nb_b2i _⟩ ?_
  show Ev E _ RX4 cX4_hasPromise 2 _ 0 [some (.ref (E.1 t)), some (.int p)] [] _
  refine ev_iload_1 dX4_hasPromise_0 ?_
  refine ev_iconst_0 dX4_hasPromise_1 ?_
  refine ev_aload_0 dX4_hasPromise_2 ?_
  refine ev_get dX4_hasPromise_3 fk_X4_33 (by first | assumption | decide) (by decide) rfl ?_
  refine ev_iconst_1 dX4_hasPromise_6 ?_
  refine Ev.pc 7 rfl ?_
  refine ev_isub dX4_hasPromise_7 ?_
  refine ev_invS dX4_hasPromise_8 ml_X4_57 mt_X5_between (c_X5_between d) rfl rfl (rm_ok (by omega)) (Nat.le_of_ble_eq_true rfl) ?_
  refine Ev.pc 11 rfl ?_
  exact ev_ireturn dX4_hasPromise_11 ⟨by rfl, by rfl⟩
theorem c_X4_hasHearer (d : Nat) {E : xE} {σ : xS} {t : Nat} {p : Int32} (ht : t < xN ∧ xcls t = 4) : Ct E (d + 1) yX4_hasHearer cX4_hasHearer 2 (some .boolean) [.ref (E.1 t), .int p] σ (some (.int (b2i (hasIn (σ.1 t 8) p)))) σ := by
  refine Ct.of (by decide +kernel) (Nat.le_of_ble_eq_true rfl) ⟨_, rfl, nb_b2i _⟩ ?_
  show Ev E _ RX4 cX4_hasHearer 2 _ 0 [some (.ref (E.1 t)), some (.int p)] [] _
  refine ev_iload_1 dX4_hasHearer_0 ?_
  refine ev_iconst_0 dX4_hasHearer_1 ?_
  refine ev_aload_0 dX4_hasHearer_2 ?_
  refine ev_get dX4_hasHearer_3 fk_X4_37 (by first | assumption | decide) (by decide) rfl ?_
  refine ev_iconst_1 dX4_hasHearer_6 ?_
  refine Ev.pc 7 rfl ?_
  refine ev_isub dX4_hasHearer_7 ?_
  refine ev_invS dX4_hasHearer_8 ml_X4_57 mt_X5_between (c_X5_between d) rfl rfl (rm_ok (by omega)) (Nat.le_of_ble_eq_true rfl) ?_
  refine Ev.pc 11 rfl ?_
  exact ev_ireturn dX4_hasHearer_11 ⟨by rfl, by rfl⟩
theorem c_X4_hasBuyer (d : Nat) {E : xE} {σ : xS} {t : Nat} {p : Int32} (ht : t < xN ∧ xcls t = 4) : Ct E (d + 1) yX4_hasBuyer cX4_hasBuyer 2 (some .boolean) [.ref (E.1 t), .int p] σ (some (.int (b2i (hasIn (σ.1 t 9) p)))) σ := by
  refine Ct.of (by decide +kernel) (Nat.le_of_ble_eq_true rfl) ⟨_, rfl, nb_b2i _⟩ ?_
  show Ev E _ RX4 cX4_hasBuyer 2 _ 0 [some (.ref (E.1 t)), some (.int p)] [] _
  refine ev_iload_1 dX4_hasBuyer_0 ?_
  refine ev_iconst_0 dX4_hasBuyer_1 ?_
  refine ev_aload_0 dX4_hasBuyer_2 ?_
  refine ev_get dX4_hasBuyer_3 fk_X4_40 (by first | assumption | decide) (by decide) rfl ?_
  refine ev_iconst_1 dX4_hasBuyer_6 ?_
  refine Ev.pc 7 rfl ?_
  refine ev_isub dX4_hasBuyer_7 ?_
  refine ev_invS dX4_hasBuyer_8 ml_X4_57 mt_X5_between (c_X5_between d) rfl rfl (rm_ok (by omega)) (Nat.le_of_ble_eq_true rfl) ?_
  refine Ev.pc 11 rfl ?_
  exact ev_ireturn dX4_hasBuyer_11 ⟨by rfl, by rfl⟩
theorem c_X4_isInWindow (d : Nat) {E : xE} {σ : xS} {t : Nat} {p : Int32} (ht : TownAt t) : Ct E (d + 2) yX4_isInWindow cX4_isInWindow 2 (some .boolean) [.ref (E.1 t), .int p] σ (some (.int (b2i (inW σ t p)))) σ := by
  obtain ⟨a0, a1, a2, a3, a4, a5, a6, a7, -⟩ := ht
  refine Ct.of (by decide +kernel) (Nat.le_of_ble_eq_true rfl) ⟨_, rfl, nb_b2i _⟩ ?_
  show Ev E _ RX4 cX4_isInWindow 2 _ 0 [some (.ref (E.1 t)), some (.int p)] [] _
  refine ev_aload_0 dX4_isInWindow_0 ?_
  refine ev_iload_1 dX4_isInWindow_1 ?_
  refine ev_invV (ci := 4) dX4_isInWindow_2 ml_X4_61 mt_X4_hasPromise (c_X4_hasPromise d (by first | assumption | decide)) (by first | assumption | decide) (by decide) rfl rfl rfl (rm_ok (by omega)) (Nat.le_of_ble_eq_true rfl) ?_
  refine Ev.pc 5 rfl ?_
  refine ev_if_eq 23 dX4_isInWindow_5 rfl (fun h5 => ?_) (fun h5 => ?_)
  · refine ev_iconst_0 dX4_isInWindow_23 ?_
    exact ev_ireturn dX4_isInWindow_24 ⟨by (simp only [b2i_0, b2i_1, Decidable.not_not] at *; simp [b2i, *]), by rfl⟩
  · refine ev_aload_0 dX4_isInWindow_8 ?_
    refine ev_get dX4_isInWindow_9 fk_X4_21 (by first | assumption | decide) (by decide) rfl ?_
    refine ev_iload_1 dX4_isInWindow_12 ?_
    refine ev_invS dX4_isInWindow_13 ml_X4_65 mt_X5_at (c_X5_at d (by first | assumption | decide)) rfl rfl (rm_ok (by omega)) (Nat.le_of_ble_eq_true rfl) ?_
    refine Ev.pc 16 rfl ?_
    refine ev_if_ne 23 dX4_isInWindow_16 rfl (fun h16 => ?_) (fun h16 => ?_)
    · refine ev_iconst_0 dX4_isInWindow_23 ?_
      exact ev_ireturn dX4_isInWindow_24 ⟨by (simp only [b2i_0, b2i_1, Decidable.not_not] at *; simp [b2i, *]), by rfl⟩
    · refine ev_iconst_1 dX4_isInWindow_19 ?_
      refine ev_goto 24 dX4_isInWindow_20 rfl ?_
      exact ev_ireturn dX4_isInWindow_24 ⟨by (simp only [b2i_0, b2i_1, Decidable.not_not] at *; simp [b2i, *]), by rfl⟩
theorem c_X4_isHeld (d : Nat) {E : xE} {σ : xS} {t : Nat} {p : Int32} (ht : TownAt t) : Ct E (d + 2) yX4_isHeld cX4_isHeld 2 (some .boolean) [.ref (E.1 t), .int p] σ (some (.int (b2i (held σ t p)))) σ := by
  obtain ⟨a0, a1, a2, a3, a4, a5, a6, a7, -⟩ := ht
  refine Ct.of (by decide +kernel) (Nat.le_of_ble_eq_true rfl) ⟨_, rfl, nb_b2i _⟩ ?_
  show Ev E _ RX4 cX4_isHeld 2 _ 0 [some (.ref (E.1 t)), some (.int p)] [] _
  refine ev_aload_0 dX4_isHeld_0 ?_
  refine ev_iload_1 dX4_isHeld_1 ?_
  refine ev_invV (ci := 4) dX4_isHeld_2 ml_X4_61 mt_X4_hasPromise (c_X4_hasPromise d (by first | assumption | decide)) (by first | assumption | decide) (by decide) rfl rfl rfl (rm_ok (by omega)) (Nat.le_of_ble_eq_true rfl) ?_
  refine Ev.pc 5 rfl ?_
  refine ev_if_eq 28 dX4_isHeld_5 rfl (fun h5 => ?_) (fun h5 => ?_)
  · refine ev_iconst_0 dX4_isHeld_28 ?_
    exact ev_ireturn dX4_isHeld_29 ⟨by (simp only [b2i_0, b2i_1, Decidable.not_not] at *; first | exact congrArg (fun z => some (Value.int z)) (b2i_t (⟨h5, h21⟩)) | (refine congrArg (fun z => some (Value.int z)) (b2i_f ?_); simp [*])), by rfl⟩
  · refine ev_aload_0 dX4_isHeld_8 ?_
    refine ev_get dX4_isHeld_9 fk_X4_21 (by first | assumption | decide) (by decide) rfl ?_
    refine ev_iload_1 dX4_isHeld_12 ?_
    refine ev_invS dX4_isHeld_13 ml_X4_65 mt_X5_at (c_X5_at d (by first | assumption | decide)) rfl rfl (rm_ok (by omega)) (Nat.le_of_ble_eq_true rfl) ?_
    refine Ev.pc 16 rfl ?_
    refine ev_iconst_1 dX4_isHeld_16 ?_
    refine Ev.pc 17 rfl ?_
    refine ev_iconst_3 dX4_isHeld_17 ?_
    refine ev_invS dX4_isHeld_18 ml_X4_57 mt_X5_between (c_X5_between d) rfl rfl (rm_ok (by omega)) (Nat.le_of_ble_eq_true rfl) ?_
    refine Ev.pc 21 rfl ?_
    refine ev_if_eq 28 dX4_isHeld_21 rfl (fun h21 => ?_) (fun h21 => ?_)
    · refine ev_iconst_0 dX4_isHeld_28 ?_
      exact ev_ireturn dX4_isHeld_29 ⟨by (simp only [b2i_0, b2i_1, Decidable.not_not] at *; first | exact congrArg (fun z => some (Value.int z)) (b2i_t (⟨h5, h21⟩)) | (refine congrArg (fun z => some (Value.int z)) (b2i_f ?_); simp [*])), by rfl⟩
    · refine ev_iconst_1 dX4_isHeld_24 ?_
      refine ev_goto 29 dX4_isHeld_25 rfl ?_
      exact ev_ireturn dX4_isHeld_29 ⟨by (simp only [b2i_0, b2i_1, Decidable.not_not] at *; first | exact congrArg (fun z => some (Value.int z)) (b2i_t (⟨h5, h21⟩)) | (refine congrArg (fun z => some (Value.int z)) (b2i_f ?_); simp [*])), by rfl⟩
theorem c_X4_goodBehind (d : Nat) {E : xE} {σ : xS} {t : Nat} {p m : Int32} (ht : TownAt t) : Ct E (d + 2) yX4_goodBehind cX4_goodBehind 4 (some .int) [.ref (E.1 t), .int p, .int m] σ (some (.int (gB σ t p m))) σ := by
  obtain ⟨a0, a1, a2, a3, a4, a5, a6, a7, -⟩ := ht
  refine Ct.of (by decide +kernel) (Nat.le_of_ble_eq_true rfl) ⟨_, rfl, rfl⟩ ?_
  show Ev E _ RX4 cX4_goodBehind 4 _ 0 [some (.ref (E.1 t)), some (.int p), some (.int m), none] [] _
  refine ev_aload_0 dX4_goodBehind_0 ?_
  refine ev_get dX4_goodBehind_1 fk_X4_21 (by first | assumption | decide) (by decide) rfl ?_
  refine ev_iload_1 dX4_goodBehind_4 ?_
  refine ev_invS dX4_goodBehind_5 ml_X4_65 mt_X5_at (c_X5_at d (by first | assumption | decide)) rfl rfl (rm_ok (by omega)) (Nat.le_of_ble_eq_true rfl) ?_
  refine Ev.pc 8 rfl ?_
  refine ev_if_ne 15 dX4_goodBehind_8 rfl (fun h8 => ?_) (fun h8 => ?_)
  · refine ev_iconst_0 dX4_goodBehind_15 ?_
    refine ev_istore_3 dX4_goodBehind_16 rfl ?_
    refine ev_aload_0 dX4_goodBehind_17 ?_
    refine ev_get dX4_goodBehind_18 fk_X4_9 (by first | assumption | decide) (by decide) rfl ?_
    refine ev_iload_1 dX4_goodBehind_21 ?_
    refine Ev.pc 22 rfl ?_
    refine ev_invS dX4_goodBehind_22 ml_X4_65 mt_X5_at (c_X5_at d (by first | assumption | decide)) rfl rfl (rm_ok (by omega)) (Nat.le_of_ble_eq_true rfl) ?_
    refine Ev.pc 25 rfl ?_
    refine ev_aload_0 dX4_goodBehind_25 ?_
    refine ev_get dX4_goodBehind_26 fk_X4_15 (by first | assumption | decide) (by decide) rfl ?_
    refine ev_iload_1 dX4_goodBehind_29 ?_
    refine ev_invS dX4_goodBehind_30 ml_X4_65 mt_X5_at (c_X5_at d (by first | assumption | decide)) rfl rfl (rm_ok (by omega)) (Nat.le_of_ble_eq_true rfl) ?_
    refine Ev.pc 33 rfl ?_
    refine ev_aload_0 dX4_goodBehind_33 ?_
    refine ev_get dX4_goodBehind_34 fk_X4_18 (by first | assumption | decide) (by decide) rfl ?_
    refine ev_iload_1 dX4_goodBehind_37 ?_
    refine ev_invS dX4_goodBehind_38 ml_X4_65 mt_X5_at (c_X5_at d (by first | assumption | decide)) rfl rfl (rm_ok (by omega)) (Nat.le_of_ble_eq_true rfl) ?_
    refine Ev.pc 41 rfl ?_
    refine ev_iload_3 dX4_goodBehind_41 ?_
    refine Ev.pc 42 rfl ?_
    refine ev_if_eq 49 dX4_goodBehind_42 rfl (fun h42 => ?_) (fun h42 => ?_)
    · refine ev_iconst_0 dX4_goodBehind_49 ?_
      refine ev_iadd dX4_goodBehind_50 ?_
      refine ev_invS dX4_goodBehind_51 ml_X4_69 mt_X5_goodOf (c_X5_goodOf d) rfl rfl (rm_ok (by omega)) (Nat.le_of_ble_eq_true rfl) ?_
      refine Ev.pc 54 rfl ?_
      exact ev_ireturn dX4_goodBehind_54 ⟨by (first | (exfalso; revert h42; decide) | (simp [gB, *])), by rfl⟩
    · refine ev_iload_2 dX4_goodBehind_45 ?_
      refine ev_goto 50 dX4_goodBehind_46 rfl ?_
      refine ev_iadd dX4_goodBehind_50 ?_
      refine ev_invS dX4_goodBehind_51 ml_X4_69 mt_X5_goodOf (c_X5_goodOf d) rfl rfl (rm_ok (by omega)) (Nat.le_of_ble_eq_true rfl) ?_
      refine Ev.pc 54 rfl ?_
      exact ev_ireturn dX4_goodBehind_54 ⟨by (first | (exfalso; revert h42; decide) | (simp [gB, *])), by rfl⟩
  · refine ev_iconst_1 dX4_goodBehind_11 ?_
    refine ev_goto 16 dX4_goodBehind_12 rfl ?_
    refine ev_istore_3 dX4_goodBehind_16 rfl ?_
    refine ev_aload_0 dX4_goodBehind_17 ?_
    refine ev_get dX4_goodBehind_18 fk_X4_9 (by first | assumption | decide) (by decide) rfl ?_
    refine ev_iload_1 dX4_goodBehind_21 ?_
    refine Ev.pc 22 rfl ?_
    refine ev_invS dX4_goodBehind_22 ml_X4_65 mt_X5_at (c_X5_at d (by first | assumption | decide)) rfl rfl (rm_ok (by omega)) (Nat.le_of_ble_eq_true rfl) ?_
    refine Ev.pc 25 rfl ?_
    refine ev_aload_0 dX4_goodBehind_25 ?_
    refine ev_get dX4_goodBehind_26 fk_X4_15 (by first | assumption | decide) (by decide) rfl ?_
    refine ev_iload_1 dX4_goodBehind_29 ?_
    refine ev_invS dX4_goodBehind_30 ml_X4_65 mt_X5_at (c_X5_at d (by first | assumption | decide)) rfl rfl (rm_ok (by omega)) (Nat.le_of_ble_eq_true rfl) ?_
    refine Ev.pc 33 rfl ?_
    refine ev_aload_0 dX4_goodBehind_33 ?_
    refine ev_get dX4_goodBehind_34 fk_X4_18 (by first | assumption | decide) (by decide) rfl ?_
    refine ev_iload_1 dX4_goodBehind_37 ?_
    refine ev_invS dX4_goodBehind_38 ml_X4_65 mt_X5_at (c_X5_at d (by first | assumption | decide)) rfl rfl (rm_ok (by omega)) (Nat.le_of_ble_eq_true rfl) ?_
    refine Ev.pc 41 rfl ?_
    refine ev_iload_3 dX4_goodBehind_41 ?_
    refine Ev.pc 42 rfl ?_
    refine ev_if_eq 49 dX4_goodBehind_42 rfl (fun h42 => ?_) (fun h42 => ?_)
    · refine ev_iconst_0 dX4_goodBehind_49 ?_
      refine ev_iadd dX4_goodBehind_50 ?_
      refine ev_invS dX4_goodBehind_51 ml_X4_69 mt_X5_goodOf (c_X5_goodOf d) rfl rfl (rm_ok (by omega)) (Nat.le_of_ble_eq_true rfl) ?_
      refine Ev.pc 54 rfl ?_
      exact ev_ireturn dX4_goodBehind_54 ⟨by (first | (exfalso; revert h42; decide) | (simp [gB, *])), by rfl⟩
    · refine ev_iload_2 dX4_goodBehind_45 ?_
      refine ev_goto 50 dX4_goodBehind_46 rfl ?_
      refine ev_iadd dX4_goodBehind_50 ?_
      refine ev_invS dX4_goodBehind_51 ml_X4_69 mt_X5_goodOf (c_X5_goodOf d) rfl rfl (rm_ok (by omega)) (Nat.le_of_ble_eq_true rfl) ?_
      refine Ev.pc 54 rfl ?_
      exact ev_ireturn dX4_goodBehind_54 ⟨by (first | (exfalso; revert h42; decide) | (simp [gB, *])), by rfl⟩
theorem c_X4_priceOf (d : Nat) {E : xE} {σ : xS} {t : Nat} {p : Int32} (ht : TownAt t) : Ct E (d + 3) yX4_priceOf cX4_priceOf 2 (some .int) [.ref (E.1 t), .int p] σ (some (.int (prB σ t p))) σ := by
  have a0 := ht.1
  refine Ct.of (by decide +kernel) (Nat.le_of_ble_eq_true rfl) ⟨_, rfl, rfl⟩ ?_
  show Ev E _ RX4 cX4_priceOf 2 _ 0 [some (.ref (E.1 t)), some (.int p)] [] _
  refine ev_iconst_2 dX4_priceOf_0 ?_
  refine ev_aload_0 dX4_priceOf_1 ?_
  refine ev_iload_1 dX4_priceOf_2 ?_
  refine ev_iconst_0 dX4_priceOf_3 ?_
  refine ev_invV (ci := 4) dX4_priceOf_4 ml_X4_73 mt_X4_goodBehind (c_X4_goodBehind d ‹TownAt _›) (by first | assumption | decide) (by decide) rfl rfl rfl (rm_ok (by omega)) (Nat.le_of_ble_eq_true rfl) ?_
  refine Ev.pc 7 rfl ?_
  refine ev_imul dX4_priceOf_7 ?_
  refine ev_iconst_1 dX4_priceOf_8 ?_
  refine ev_iadd dX4_priceOf_9 ?_
  exact ev_ireturn dX4_priceOf_10 ⟨by rfl, by rfl⟩
theorem c_X4_joyTo (d : Nat) {E : xE} {σ : xS} {t : Nat} {p h : Int32} (ht : TownAt t) : Ct E (d + 3) yX4_joyTo cX4_joyTo 3 (some .int) [.ref (E.1 t), .int p, .int h] σ (some (.int (jB σ t p h))) σ := by
  obtain ⟨a0, a1, a2, a3, a4, a5, a6, a7, -⟩ := id ht
  refine Ct.of (by decide +kernel) (Nat.le_of_ble_eq_true rfl) ⟨_, rfl, rfl⟩ ?_
  show Ev E _ RX4 cX4_joyTo 3 _ 0 [some (.ref (E.1 t)), some (.int p), some (.int h)] [] _
  refine ev_aload_0 dX4_joyTo_0 ?_
  refine ev_get dX4_joyTo_1 fk_X4_24 (by first | assumption | decide) (by decide) rfl ?_
  refine ev_iload_2 dX4_joyTo_4 ?_
  refine ev_invS dX4_joyTo_5 ml_X4_65 mt_X5_at (c_X5_at d (by first | assumption | decide)) rfl rfl (rm_ok (by omega)) (Nat.le_of_ble_eq_true rfl) ?_
  refine Ev.pc 8 rfl ?_
  refine ev_aload_0 dX4_joyTo_8 ?_
  refine Ev.pc 9 rfl ?_
  refine ev_get dX4_joyTo_9 fk_X4_27 (by first | assumption | decide) (by decide) rfl ?_
  refine ev_iload_2 dX4_joyTo_12 ?_
  refine ev_invS dX4_joyTo_13 ml_X4_65 mt_X5_at (c_X5_at d (by first | assumption | decide)) rfl rfl (rm_ok (by omega)) (Nat.le_of_ble_eq_true rfl) ?_
  refine Ev.pc 16 rfl ?_
  refine ev_aload_0 dX4_joyTo_16 ?_
  refine ev_iload_1 dX4_joyTo_17 ?_
  refine Ev.pc 18 rfl ?_
  refine ev_iconst_0 dX4_joyTo_18 ?_
  refine ev_invV (ci := 4) dX4_joyTo_19 ml_X4_73 mt_X4_goodBehind (c_X4_goodBehind d ‹TownAt _›) (by first | assumption | decide) (by decide) rfl rfl rfl (rm_ok (by omega)) (Nat.le_of_ble_eq_true rfl) ?_
  refine Ev.pc 22 rfl ?_
  refine ev_invS dX4_joyTo_22 ml_X4_77 mt_X5_joyOf (c_X5_joyOf d) rfl rfl (rm_ok (by omega)) (Nat.le_of_ble_eq_true rfl) ?_
  refine Ev.pc 25 rfl ?_
  exact ev_ireturn dX4_joyTo_25 ⟨by rfl, by rfl⟩
theorem c_X4_canSell (d : Nat) {E : xE} {σ : xS} {t : Nat} {b p : Int32} (ht : TownAt t) : Ct E (d + 4) yX4_canSell cX4_canSell 3 (some .boolean) [.ref (E.1 t), .int b, .int p] σ (some (.int (b2i (canB σ t b p)))) σ := by
  obtain ⟨a0, a1, a2, a3, a4, a5, a6, a7, -⟩ := id ht
  refine Ct.of (by decide +kernel) (Nat.le_of_ble_eq_true rfl) ⟨_, rfl, nb_b2i _⟩ ?_
  show Ev E _ RX4 cX4_canSell 3 _ 0 [some (.ref (E.1 t)), some (.int b), some (.int p)] [] _
  refine ev_aload_0 dX4_canSell_0 ?_
  refine ev_iload_1 dX4_canSell_1 ?_
  refine ev_invV (ci := 4) dX4_canSell_2 ml_X4_83 mt_X4_hasBuyer (c_X4_hasBuyer d (by first | assumption | decide)) (by first | assumption | decide) (by decide) rfl rfl rfl (rm_ok (by omega)) (Nat.le_of_ble_eq_true rfl) ?_
  refine Ev.pc 5 rfl ?_
  refine ev_if_eq 36 dX4_canSell_5 rfl (fun h5 => ?_) (fun h5 => ?_)
  · refine ev_iconst_0 dX4_canSell_36 ?_
    exact ev_ireturn dX4_canSell_37 ⟨by (simp only [b2i_0, b2i_1, Decidable.not_not] at *; simp only [b2i, canB, ← i_nlt, *]; first | rfl | simp [*]), by rfl⟩
  · refine ev_aload_0 dX4_canSell_8 ?_
    refine ev_iload_2 dX4_canSell_9 ?_
    refine ev_invV (ci := 4) dX4_canSell_10 ml_X4_80 mt_X4_isInWindow (c_X4_isInWindow d ‹TownAt _›) (by first | assumption | decide) (by decide) rfl rfl rfl (rm_ok (by omega)) (Nat.le_of_ble_eq_true rfl) ?_
    refine Ev.pc 13 rfl ?_
    refine ev_if_eq 36 dX4_canSell_13 rfl (fun h13 => ?_) (fun h13 => ?_)
    · refine ev_iconst_0 dX4_canSell_36 ?_
      exact ev_ireturn dX4_canSell_37 ⟨by (simp only [b2i_0, b2i_1, Decidable.not_not] at *; simp only [b2i, canB, ← i_nlt, *]; first | rfl | simp [*]), by rfl⟩
    · refine ev_aload_0 dX4_canSell_16 ?_
      refine ev_get dX4_canSell_17 fk_X4_30 (by first | assumption | decide) (by decide) rfl ?_
      refine ev_iload_1 dX4_canSell_20 ?_
      refine ev_invS dX4_canSell_21 ml_X4_65 mt_X5_at (c_X5_at d (by first | assumption | decide)) rfl rfl (rm_ok (by omega)) (Nat.le_of_ble_eq_true rfl) ?_
      refine Ev.pc 24 rfl ?_
      refine ev_aload_0 dX4_canSell_24 ?_
      refine Ev.pc 25 rfl ?_
      refine ev_iload_2 dX4_canSell_25 ?_
      refine ev_invV (ci := 4) dX4_canSell_26 ml_X4_86 mt_X4_priceOf (c_X4_priceOf d ‹TownAt _›) (by first | assumption | decide) (by decide) rfl rfl rfl (rm_ok (by omega)) (Nat.le_of_ble_eq_true rfl) ?_
      refine Ev.pc 29 rfl ?_
      refine ev_icmp_lt 36 dX4_canSell_29 rfl (fun h29 => ?_) (fun h29 => ?_)
      · refine ev_iconst_0 dX4_canSell_36 ?_
        exact ev_ireturn dX4_canSell_37 ⟨by (simp only [b2i_0, b2i_1, Decidable.not_not] at *; simp only [b2i, canB, ← i_nlt, *]; first | rfl | simp [*]), by rfl⟩
      · refine ev_iconst_1 dX4_canSell_32 ?_
        refine ev_goto 37 dX4_canSell_33 rfl ?_
        exact ev_ireturn dX4_canSell_37 ⟨by (simp only [b2i_0, b2i_1, Decidable.not_not] at *; simp only [b2i, canB, ← i_nlt, *]; first | rfl | simp [*]), by rfl⟩
theorem c_X4_sell (d : Nat) {E : xE} {σ : xS} {t : Nat} {b p : Int32} (ht : TownAt t) : Ct E (d + 4) yX4_sell cX4_sell 3 none [.ref (E.1 t), .int b, .int p] σ none (xput (xput σ (t + 7) b (xat σ (t + 7) b - prB σ t p)) (t + 4) p (1 + b)) := by
  obtain ⟨a0, a1, a2, a3, a4, a5, a6, a7, -⟩ := id ht
  refine Ct.of (by decide +kernel) (Nat.le_of_ble_eq_true rfl) rfl ?_
  show Ev E _ RX4 cX4_sell 3 _ 0 [some (.ref (E.1 t)), some (.int b), some (.int p)] [] _
  refine ev_aload_0 dX4_sell_0 ?_
  refine ev_get dX4_sell_1 fk_X4_30 (by first | assumption | decide) (by decide) rfl ?_
  refine ev_iload_1 dX4_sell_4 ?_
  refine ev_aload_0 dX4_sell_5 ?_
  refine ev_get dX4_sell_6 fk_X4_30 (by first | assumption | decide) (by decide) rfl ?_
  refine Ev.pc 9 rfl ?_
  refine ev_iload_1 dX4_sell_9 ?_
  refine ev_invS dX4_sell_10 ml_X4_65 mt_X5_at (c_X5_at d (by first | assumption | decide)) rfl rfl (rm_ok (by omega)) (Nat.le_of_ble_eq_true rfl) ?_
  refine Ev.pc 13 rfl ?_
  refine ev_aload_0 dX4_sell_13 ?_
  refine ev_iload_2 dX4_sell_14 ?_
  refine ev_invV (ci := 4) dX4_sell_15 ml_X4_86 mt_X4_priceOf (c_X4_priceOf d ‹TownAt _›) (by first | assumption | decide) (by decide) rfl rfl rfl (rm_ok (by omega)) (Nat.le_of_ble_eq_true rfl) ?_
  refine Ev.pc 18 rfl ?_
  refine ev_isub dX4_sell_18 ?_
  refine ev_invS dX4_sell_19 ml_X4_53 mt_X5_put (c_X5_put d (by first | assumption | decide)) rfl rfl (rm_ok (by omega)) (Nat.le_of_ble_eq_true rfl) ?_
  refine Ev.pc 22 rfl ?_
  refine ev_aload_0 dX4_sell_22 ?_
  refine ev_get dX4_sell_23 fk_X4_21 (by first | assumption | decide) (by decide) rfl ?_
  refine ev_iload_2 dX4_sell_26 ?_
  refine Ev.pc 27 rfl ?_
  refine ev_iconst_1 dX4_sell_27 ?_
  refine ev_iload_1 dX4_sell_28 ?_
  refine ev_iadd dX4_sell_29 ?_
  refine ev_invS dX4_sell_30 ml_X4_53 mt_X5_put (c_X5_put d (by first | assumption | decide)) rfl rfl (rm_ok (by omega)) (Nat.le_of_ble_eq_true rfl) ?_
  refine Ev.pc 33 rfl ?_
  exact ev_return dX4_sell_33 ⟨by rfl, by rfl⟩
theorem c_X4_give (d : Nat) {E : xE} {σ : xS} {t : Nat} {p h : Int32} (ht : TownAt t) : Ct E (d + 4) yX4_give cX4_give 4 (some .int) [.ref (E.1 t), .int p, .int h] σ (some (.int (jB σ t p h))) (xput (xu σ t 11 (σ.1 t 11 + jB σ t p h)) (t + 4) p (10 + h)) := by
  obtain ⟨a0, a1, a2, a3, a4, a5, a6, a7, -⟩ := id ht
  refine Ct.of (by decide +kernel) (Nat.le_of_ble_eq_true rfl) ⟨_, rfl, rfl⟩ ?_
  show Ev E _ RX4 cX4_give 4 _ 0 [some (.ref (E.1 t)), some (.int p), some (.int h), none] [] _
  refine ev_aload_0 dX4_give_0 ?_
  refine ev_iload_1 dX4_give_1 ?_
  refine ev_iload_2 dX4_give_2 ?_
  refine ev_invV (ci := 4) dX4_give_3 ml_X4_90 mt_X4_joyTo (c_X4_joyTo d ‹TownAt _›) (by first | assumption | decide) (by decide) rfl rfl rfl (rm_ok (by omega)) (Nat.le_of_ble_eq_true rfl) ?_
  refine Ev.pc 6 rfl ?_
  refine ev_istore_3 dX4_give_6 rfl ?_
  refine Ev.pc 7 rfl ?_
  refine ev_aload_0 dX4_give_7 ?_
  refine ev_dup dX4_give_8 rfl ?_
  refine ev_get dX4_give_9 fk_X4_46 (by first | assumption | decide) (by decide) rfl ?_
  refine ev_iload_3 dX4_give_12 ?_
  refine ev_iadd dX4_give_13 ?_
  refine Ev.pc 14 rfl ?_
  refine ev_put dX4_give_14 fk_X4_46 (by first | assumption | decide) (by decide) rfl ?_
  refine ev_aload_0 dX4_give_17 ?_
  refine ev_get dX4_give_18 fk_X4_21 (by first | assumption | decide) (by decide) rfl ?_
  refine ev_iload_1 dX4_give_21 ?_
  refine ev_bipush (10) dX4_give_22 rfl ?_
  refine Ev.pc 24 rfl ?_
  refine ev_iload_2 dX4_give_24 ?_
  refine ev_iadd dX4_give_25 ?_
  refine ev_invS dX4_give_26 ml_X4_53 mt_X5_put (c_X5_put d (by first | assumption | decide)) rfl rfl (rm_ok (by omega)) (Nat.le_of_ble_eq_true rfl) ?_
  refine Ev.pc 29 rfl ?_
  refine ev_iload_3 dX4_give_29 ?_
  exact ev_ireturn dX4_give_30 ⟨by rfl, by rfl⟩
theorem l_X4_bitsAt (d : Nat) {E : xE} {σ : xS} {t P : Nat} {place : Int32} {F : Option Value → xS → Prop} (ht : TownAt t) (hP : σ.1 t 7 = nI P) (hP7 : P ≤ 7) (hF : F (some (.int (mkI (fun k => decide (σ.1 (t + 4) k = place)) P))) σ) :
    ∀ (n k : Nat) (bits : Int32), k + n = P → bits = mkI (fun k => decide (σ.1 (t + 4) k = place)) k → Ev E (rm (d + 1)) RX4 cX4_bitsAt 4 F 4 [some (.ref (E.1 t)), some (.int place), some (.int bits), some (.int (nI k))] [] σ := by
  obtain ⟨a0, a1, a2, a3, a4, a5, a6, a7, b1, b2, b3, b4, b5, b6, b7⟩ := id ht
  intro n
  induction n with
  | zero =>
    intro k bits hk hb
    refine ev_iload_3 dX4_bitsAt_4 ?_
    refine ev_aload_0 dX4_bitsAt_5 ?_
    refine ev_get dX4_bitsAt_6 fk_X4_33 (by first | assumption | decide) (by decide) rfl ?_
    refine ev_icmp_ge 36 dX4_bitsAt_9 rfl (fun h9 => ?_) (fun h9 => ?_)
    · refine ev_iload_2 dX4_bitsAt_36 ?_
      exact ev_ireturn dX4_bitsAt_37 (by (rw [hb, show k = P by omega]; exact hF))
    · exact absurd (by rw [hP]; exact nI_le (by omega) (by omega)) h9
  | succ n ih =>
    intro k bits hk hb
    have hat : xat σ (t + 4) (nI k) = σ.1 (t + 4) k := xat_nI (by omega)
    refine ev_iload_3 dX4_bitsAt_4 ?_
    refine ev_aload_0 dX4_bitsAt_5 ?_
    refine ev_get dX4_bitsAt_6 fk_X4_33 (by first | assumption | decide) (by decide) rfl ?_
    refine ev_icmp_ge 36 dX4_bitsAt_9 rfl (fun h9 => ?_) (fun h9 => ?_)
    · exact absurd h9 (by rw [hP]; exact nI_ge (by omega) (by omega))
    · refine ev_aload_0 dX4_bitsAt_12 ?_
      refine ev_get dX4_bitsAt_13 fk_X4_21 (by first | assumption | decide) (by decide) rfl ?_
      refine ev_iload_3 dX4_bitsAt_16 ?_
      refine ev_invS dX4_bitsAt_17 ml_X4_65 mt_X5_at (c_X5_at d (by first | assumption | decide)) rfl rfl (rm_ok (by omega)) (Nat.le_of_ble_eq_true rfl) ?_
      refine Ev.pc 20 rfl ?_
      refine ev_iload_1 dX4_bitsAt_20 ?_
      refine Ev.pc 21 rfl ?_
      refine ev_icmp_ne 30 dX4_bitsAt_21 rfl (fun h21 => ?_) (fun h21 => ?_)
      · refine ev_iinc_3 (1) dX4_bitsAt_30 rfl rfl ?_
        refine ev_goto 4 dX4_bitsAt_33 rfl ?_
        rw [nI_1]
        exact ih (k + 1) _ (by omega) (by rw [mkI, hb]; rw [hat] at h21; simp [h21])
      · refine ev_iload_2 dX4_bitsAt_24 ?_
        refine ev_iconst_1 dX4_bitsAt_25 ?_
        refine ev_iload_3 dX4_bitsAt_26 ?_
        refine ev_ishl dX4_bitsAt_27 ?_
        refine ev_ior dX4_bitsAt_28 ?_
        refine Ev.pc 29 rfl ?_
        refine ev_istore_2 dX4_bitsAt_29 rfl ?_
        refine ev_iinc_3 (1) dX4_bitsAt_30 rfl rfl ?_
        refine ev_goto 4 dX4_bitsAt_33 rfl ?_
        rw [nI_1]
        exact ih (k + 1) _ (by omega) (by rw [mkI, hb]; rw [hat] at h21; simp [h21])
theorem c_X4_bitsAt (d : Nat) {E : xE} {σ : xS} {t P : Nat} {place : Int32} (ht : TownAt t) (hP : σ.1 t 7 = nI P) (hP7 : P ≤ 7) : Ct E (d + 1) yX4_bitsAt cX4_bitsAt 4 (some .int) [.ref (E.1 t), .int place] σ (some (.int (mkI (fun k => decide (σ.1 (t + 4) k = place)) P))) σ := by
  refine Ct.of (by decide +kernel) (Nat.le_of_ble_eq_true rfl) ⟨_, rfl, rfl⟩ ?_
  show Ev E _ RX4 cX4_bitsAt 4 _ 0 [some (.ref (E.1 t)), some (.int place), none, none] [] _
  refine ev_iconst_0 dX4_bitsAt_0 ?_
  refine ev_istore_2 dX4_bitsAt_1 rfl ?_
  refine ev_iconst_0 dX4_bitsAt_2 ?_
  refine ev_istore_3 dX4_bitsAt_3 rfl ?_
  exact l_X4_bitsAt d ht hP hP7 ⟨rfl, rfl⟩ P 0 0 (by omega) rfl

theorem l_X4_keptCount (d : Nat) {E : xE} {σ : xS} {t P H : Nat} {F : Option Value → xS → Prop} (ht : TownAt t) (hP : σ.1 t 7 = nI P) (hP7 : P ≤ 7) (hH : σ.1 t 8 = nI H) (hH4 : H ≤ 4) (hF : F (some (.int (smI (fun h => bitCnt (mkI (fun k => decide (σ.1 (t + 4) k = 10 + nI h)) P)) H))) σ) :
    ∀ (n k : Nat) (sm : Int32), k + n = H → sm = smI (fun h => bitCnt (mkI (fun k => decide (σ.1 (t + 4) k = 10 + nI h)) P)) k → Ev E (rm (d + 2)) RX4 cX4_keptCount 3 F 4 [some (.ref (E.1 t)), some (.int sm), some (.int (nI k))] [] σ := by
  obtain ⟨a0, a1, a2, a3, a4, a5, a6, a7, b1, b2, b3, b4, b5, b6, b7⟩ := id ht
  intro n
  induction n with
  | zero =>
    intro k bits hk hb
    refine ev_iload_2 dX4_keptCount_4 ?_
    refine ev_aload_0 dX4_keptCount_5 ?_
    refine ev_get dX4_keptCount_6 fk_X4_37 (by first | assumption | decide) (by decide) rfl ?_
    refine ev_icmp_ge 32 dX4_keptCount_9 rfl (fun h9 => ?_) (fun h9 => ?_)
    · refine ev_iload_1 dX4_keptCount_32 ?_
      exact ev_ireturn dX4_keptCount_33 (by (rw [hb, show k = H by omega]; exact hF))
    · exact absurd (by rw [hH]; exact nI_le (by omega) (by omega)) h9
  | succ n ih =>
    intro k bits hk hb
    refine ev_iload_2 dX4_keptCount_4 ?_
    refine ev_aload_0 dX4_keptCount_5 ?_
    refine ev_get dX4_keptCount_6 fk_X4_37 (by first | assumption | decide) (by decide) rfl ?_
    refine ev_icmp_ge 32 dX4_keptCount_9 rfl (fun h9 => ?_) (fun h9 => ?_)
    · exact absurd h9 (by rw [hH]; exact nI_ge (by omega) (by omega))
    · refine ev_iload_1 dX4_keptCount_12 ?_
      refine ev_aload_0 dX4_keptCount_13 ?_
      refine ev_bipush (10) dX4_keptCount_14 rfl ?_
      refine ev_iload_2 dX4_keptCount_16 ?_
      refine ev_iadd dX4_keptCount_17 ?_
      refine Ev.pc 18 rfl ?_
      refine ev_invV (ci := 4) dX4_keptCount_18 ml_X4_93 mt_X4_bitsAt (c_X4_bitsAt d ‹TownAt _› (by assumption) (by omega)) (by first | assumption | decide) (by decide) rfl rfl rfl (rm_ok (by omega)) (Nat.le_of_ble_eq_true rfl) ?_
      refine Ev.pc 21 rfl ?_
      refine ev_invS dX4_keptCount_21 ml_X4_96 mt_J6_bitCount_0f7a4 (c_J6_bitCount_0f7a4 d) rfl rfl (rm_ok (by omega)) (Nat.le_of_ble_eq_true rfl) ?_
      refine Ev.pc 24 rfl ?_
      refine ev_iadd dX4_keptCount_24 ?_
      refine ev_istore_1 dX4_keptCount_25 rfl ?_
      refine ev_iinc_2 (1) dX4_keptCount_26 rfl rfl ?_
      refine Ev.pc 29 rfl ?_
      refine ev_goto 4 dX4_keptCount_29 rfl ?_
      rw [nI_1]
      exact ih (k + 1) _ (by omega) (by rw [smI, hb])
theorem c_X4_keptCount (d : Nat) {E : xE} {σ : xS} {t P H : Nat} (ht : TownAt t) (hP : σ.1 t 7 = nI P) (hP7 : P ≤ 7) (hH : σ.1 t 8 = nI H) (hH4 : H ≤ 4) : Ct E (d + 2) yX4_keptCount cX4_keptCount 3 (some .int) [.ref (E.1 t)] σ (some (.int (smI (fun h => bitCnt (mkI (fun k => decide (σ.1 (t + 4) k = 10 + nI h)) P)) H))) σ := by
  refine Ct.of (by decide +kernel) (Nat.le_of_ble_eq_true rfl) ⟨_, rfl, rfl⟩ ?_
  show Ev E _ RX4 cX4_keptCount 3 _ 0 [some (.ref (E.1 t)), none, none] [] _
  refine ev_iconst_0 dX4_keptCount_0 ?_
  refine ev_istore_1 dX4_keptCount_1 rfl ?_
  refine ev_iconst_0 dX4_keptCount_2 ?_
  refine ev_istore_2 dX4_keptCount_3 rfl ?_
  exact l_X4_keptCount d ht hP hP7 hH hH4 ⟨rfl, rfl⟩ H 0 0 (by omega) rfl
theorem l_X4_waitingBits (d : Nat) {E : xE} {σ : xS} {t P H : Nat} {F : Option Value → xS → Prop} (ht : TownAt t) (hP : σ.1 t 7 = nI P) (hP7 : P ≤ 7) (hH : σ.1 t 8 = nI H) (hH4 : H ≤ 4) (hF : F (some (.int (mkI (fun h => decide (mkI (fun k => decide (σ.1 (t + 4) k = 10 + nI h)) P = 0)) H))) σ) :
    ∀ (n k : Nat) (sm : Int32), k + n = H → sm = mkI (fun h => decide (mkI (fun k => decide (σ.1 (t + 4) k = 10 + nI h)) P = 0)) k → Ev E (rm (d + 2)) RX4 cX4_waitingBits 3 F 4 [some (.ref (E.1 t)), some (.int sm), some (.int (nI k))] [] σ := by
  obtain ⟨a0, a1, a2, a3, a4, a5, a6, a7, b1, b2, b3, b4, b5, b6, b7⟩ := id ht
  intro n
  induction n with
  | zero =>
    intro k bits hk hb
    refine ev_iload_2 dX4_waitingBits_4 ?_
    refine ev_aload_0 dX4_waitingBits_5 ?_
    refine ev_get dX4_waitingBits_6 fk_X4_37 (by first | assumption | decide) (by decide) rfl ?_
    refine ev_icmp_ge 35 dX4_waitingBits_9 rfl (fun h9 => ?_) (fun h9 => ?_)
    · refine ev_iload_1 dX4_waitingBits_35 ?_
      exact ev_ireturn dX4_waitingBits_36 (by (rw [hb, show k = H by omega]; exact hF))
    · exact absurd (by rw [hH]; exact nI_le (by omega) (by omega)) h9
  | succ n ih =>
    intro k bits hk hb
    refine ev_iload_2 dX4_waitingBits_4 ?_
    refine ev_aload_0 dX4_waitingBits_5 ?_
    refine ev_get dX4_waitingBits_6 fk_X4_37 (by first | assumption | decide) (by decide) rfl ?_
    refine ev_icmp_ge 35 dX4_waitingBits_9 rfl (fun h9 => ?_) (fun h9 => ?_)
    · exact absurd h9 (by rw [hH]; exact nI_ge (by omega) (by omega))
    · refine ev_aload_0 dX4_waitingBits_12 ?_
      refine ev_bipush (10) dX4_waitingBits_13 rfl ?_
      refine ev_iload_2 dX4_waitingBits_15 ?_
      refine ev_iadd dX4_waitingBits_16 ?_
      refine ev_invV (ci := 4) dX4_waitingBits_17 ml_X4_93 mt_X4_bitsAt (c_X4_bitsAt d ‹TownAt _› (by assumption) (by omega)) (by first | assumption | decide) (by decide) rfl rfl rfl (rm_ok (by omega)) (Nat.le_of_ble_eq_true rfl) ?_
      refine Ev.pc 20 rfl ?_
      refine ev_if_ne 29 dX4_waitingBits_20 rfl (fun h20 => ?_) (fun h20 => ?_)
      · refine ev_iinc_2 (1) dX4_waitingBits_29 rfl rfl ?_
        refine ev_goto 4 dX4_waitingBits_32 rfl ?_
        rw [nI_1]
        exact ih (k + 1) _ (by omega) (by rw [mkI, hb]; simp [h20])
      · refine ev_iload_1 dX4_waitingBits_23 ?_
        refine ev_iconst_1 dX4_waitingBits_24 ?_
        refine ev_iload_2 dX4_waitingBits_25 ?_
        refine ev_ishl dX4_waitingBits_26 ?_
        refine ev_ior dX4_waitingBits_27 ?_
        refine Ev.pc 28 rfl ?_
        refine ev_istore_1 dX4_waitingBits_28 rfl ?_
        refine ev_iinc_2 (1) dX4_waitingBits_29 rfl rfl ?_
        refine ev_goto 4 dX4_waitingBits_32 rfl ?_
        rw [nI_1]
        exact ih (k + 1) _ (by omega) (by rw [mkI, hb]; simp [h20])
theorem c_X4_waitingBits (d : Nat) {E : xE} {σ : xS} {t P H : Nat} (ht : TownAt t) (hP : σ.1 t 7 = nI P) (hP7 : P ≤ 7) (hH : σ.1 t 8 = nI H) (hH4 : H ≤ 4) : Ct E (d + 2) yX4_waitingBits cX4_waitingBits 3 (some .int) [.ref (E.1 t)] σ (some (.int (mkI (fun h => decide (mkI (fun k => decide (σ.1 (t + 4) k = 10 + nI h)) P = 0)) H))) σ := by
  refine Ct.of (by decide +kernel) (Nat.le_of_ble_eq_true rfl) ⟨_, rfl, rfl⟩ ?_
  show Ev E _ RX4 cX4_waitingBits 3 _ 0 [some (.ref (E.1 t)), none, none] [] _
  refine ev_iconst_0 dX4_waitingBits_0 ?_
  refine ev_istore_1 dX4_waitingBits_1 rfl ?_
  refine ev_iconst_0 dX4_waitingBits_2 ?_
  refine ev_istore_2 dX4_waitingBits_3 rfl ?_
  exact l_X4_waitingBits d ht hP hP7 hH hH4 ⟨rfl, rfl⟩ H 0 0 (by omega) rfl
theorem c_X4_addPromise (d : Nat) {E : xE} {σ : xS} {t P : Nat} {k w : Int32} (ht : TownAt t) (hP : σ.1 t 7 = nI P) (hP7 : P < 7) : Ct E (d + 1) yX4_addPromise cX4_addPromise 3 (some .int) [.ref (E.1 t), .int k, .int w] σ (some (.int (nI P))) (xu (xu (xu (xu (xu σ (t + 1) P k) (t + 2) P w) (t + 3) P 0) (t + 4) P 0) t 7 (nI (P + 1))) := by
  obtain ⟨a0, a1, a2, a3, a4, a5, a6, a7, b1, b2, b3, b4, b5, b6, b7⟩ := id ht
  refine Ct.of (by decide +kernel) (Nat.le_of_ble_eq_true rfl) ⟨_, rfl, rfl⟩ ?_
  show Ev E _ RX4 cX4_addPromise 3 _ 0 [some (.ref (E.1 t)), some (.int k), some (.int w)] [] _
  refine ev_aload_0 dX4_addPromise_0 ?_
  refine ev_get dX4_addPromise_1 fk_X4_9 (by first | assumption | decide) (by decide) rfl ?_
  refine ev_aload_0 dX4_addPromise_4 ?_
  refine ev_get dX4_addPromise_5 fk_X4_33 (by first | assumption | decide) (by decide) rfl ?_
  refine ev_iload_1 dX4_addPromise_8 ?_
  refine Ev.pc 9 rfl ?_
  refine ev_invS dX4_addPromise_9 ml_X4_53 mt_X5_put (c_X5_put d (by first | assumption | decide)) rfl rfl (rm_ok (by omega)) (Nat.le_of_ble_eq_true rfl) ?_
  rw [xput_eq (k := P) (by simp [xu, hP]) (by omega)]
  refine Ev.pc 12 rfl ?_
  refine ev_aload_0 dX4_addPromise_12 ?_
  refine ev_get dX4_addPromise_13 fk_X4_15 (by first | assumption | decide) (by decide) rfl ?_
  refine ev_aload_0 dX4_addPromise_16 ?_
  refine ev_get dX4_addPromise_17 fk_X4_33 (by first | assumption | decide) (by decide) rfl ?_
  refine Ev.pc 20 rfl ?_
  refine ev_iload_2 dX4_addPromise_20 ?_
  refine ev_invS dX4_addPromise_21 ml_X4_53 mt_X5_put (c_X5_put d (by first | assumption | decide)) rfl rfl (rm_ok (by omega)) (Nat.le_of_ble_eq_true rfl) ?_
  rw [xput_eq (k := P) (by simp [xu, hP]) (by omega)]
  refine Ev.pc 24 rfl ?_
  refine ev_aload_0 dX4_addPromise_24 ?_
  refine ev_get dX4_addPromise_25 fk_X4_18 (by first | assumption | decide) (by decide) rfl ?_
  refine ev_aload_0 dX4_addPromise_28 ?_
  refine Ev.pc 29 rfl ?_
  refine ev_get dX4_addPromise_29 fk_X4_33 (by first | assumption | decide) (by decide) rfl ?_
  refine ev_iconst_0 dX4_addPromise_32 ?_
  refine ev_invS dX4_addPromise_33 ml_X4_53 mt_X5_put (c_X5_put d (by first | assumption | decide)) rfl rfl (rm_ok (by omega)) (Nat.le_of_ble_eq_true rfl) ?_
  rw [xput_eq (k := P) (by simp [xu, hP]) (by omega)]
  refine Ev.pc 36 rfl ?_
  refine ev_aload_0 dX4_addPromise_36 ?_
  refine ev_get dX4_addPromise_37 fk_X4_21 (by first | assumption | decide) (by decide) rfl ?_
  refine Ev.pc 40 rfl ?_
  refine ev_aload_0 dX4_addPromise_40 ?_
  refine ev_get dX4_addPromise_41 fk_X4_33 (by first | assumption | decide) (by decide) rfl ?_
  refine ev_iconst_0 dX4_addPromise_44 ?_
  refine ev_invS dX4_addPromise_45 ml_X4_53 mt_X5_put (c_X5_put d (by first | assumption | decide)) rfl rfl (rm_ok (by omega)) (Nat.le_of_ble_eq_true rfl) ?_
  rw [xput_eq (k := P) (by simp [xu, hP]) (by omega)]
  refine Ev.pc 48 rfl ?_
  refine ev_aload_0 dX4_addPromise_48 ?_
  refine Ev.pc 49 rfl ?_
  refine ev_dup dX4_addPromise_49 rfl ?_
  refine ev_get dX4_addPromise_50 fk_X4_33 (by first | assumption | decide) (by decide) rfl ?_
  refine ev_iconst_1 dX4_addPromise_53 ?_
  refine ev_iadd dX4_addPromise_54 ?_
  refine ev_put dX4_addPromise_55 fk_X4_33 (by first | assumption | decide) (by decide) rfl ?_
  refine Ev.pc 58 rfl ?_
  refine ev_aload_0 dX4_addPromise_58 ?_
  refine ev_get dX4_addPromise_59 fk_X4_33 (by first | assumption | decide) (by decide) rfl ?_
  refine ev_iconst_1 dX4_addPromise_62 ?_
  refine ev_isub dX4_addPromise_63 ?_
  exact ev_ireturn dX4_addPromise_64 ⟨by simp [xu, hP, nI_1, nI_pred], by simp [xu, hP, nI_1]⟩
theorem c_X4_addHearer (d : Nat) {E : xE} {σ : xS} {t P : Nat} {k w : Int32} (ht : TownAt t) (hP : σ.1 t 8 = nI P) (hP7 : P < 4) : Ct E (d + 1) yX4_addHearer cX4_addHearer 3 (some .int) [.ref (E.1 t), .int k, .int w] σ (some (.int (nI P))) (xu (xu (xu σ (t + 5) P k) (t + 6) P w) t 8 (nI (P + 1))) := by
  obtain ⟨a0, a1, a2, a3, a4, a5, a6, a7, b1, b2, b3, b4, b5, b6, b7⟩ := id ht
  refine Ct.of (by decide +kernel) (Nat.le_of_ble_eq_true rfl) ⟨_, rfl, rfl⟩ ?_
  show Ev E _ RX4 cX4_addHearer 3 _ 0 [some (.ref (E.1 t)), some (.int k), some (.int w)] [] _
  refine ev_aload_0 dX4_addHearer_0 ?_
  refine ev_get dX4_addHearer_1 fk_X4_24 (by first | assumption | decide) (by decide) rfl ?_
  refine ev_aload_0 dX4_addHearer_4 ?_
  refine ev_get dX4_addHearer_5 fk_X4_37 (by first | assumption | decide) (by decide) rfl ?_
  refine ev_iload_1 dX4_addHearer_8 ?_
  refine Ev.pc 9 rfl ?_
  refine ev_invS dX4_addHearer_9 ml_X4_53 mt_X5_put (c_X5_put d (by first | assumption | decide)) rfl rfl (rm_ok (by omega)) (Nat.le_of_ble_eq_true rfl) ?_
  rw [xput_eq (k := P) (by simp [xu, hP]) (by omega)]
  refine Ev.pc 12 rfl ?_
  refine ev_aload_0 dX4_addHearer_12 ?_
  refine ev_get dX4_addHearer_13 fk_X4_27 (by first | assumption | decide) (by decide) rfl ?_
  refine ev_aload_0 dX4_addHearer_16 ?_
  refine ev_get dX4_addHearer_17 fk_X4_37 (by first | assumption | decide) (by decide) rfl ?_
  refine Ev.pc 20 rfl ?_
  refine ev_iload_2 dX4_addHearer_20 ?_
  refine ev_invS dX4_addHearer_21 ml_X4_53 mt_X5_put (c_X5_put d (by first | assumption | decide)) rfl rfl (rm_ok (by omega)) (Nat.le_of_ble_eq_true rfl) ?_
  rw [xput_eq (k := P) (by simp [xu, hP]) (by omega)]
  refine Ev.pc 24 rfl ?_
  refine ev_aload_0 dX4_addHearer_24 ?_
  refine ev_dup dX4_addHearer_25 rfl ?_
  refine ev_get dX4_addHearer_26 fk_X4_37 (by first | assumption | decide) (by decide) rfl ?_
  refine Ev.pc 29 rfl ?_
  refine ev_iconst_1 dX4_addHearer_29 ?_
  refine ev_iadd dX4_addHearer_30 ?_
  refine ev_put dX4_addHearer_31 fk_X4_37 (by first | assumption | decide) (by decide) rfl ?_
  refine ev_aload_0 dX4_addHearer_34 ?_
  refine ev_get dX4_addHearer_35 fk_X4_37 (by first | assumption | decide) (by decide) rfl ?_
  refine Ev.pc 38 rfl ?_
  refine ev_iconst_1 dX4_addHearer_38 ?_
  refine ev_isub dX4_addHearer_39 ?_
  exact ev_ireturn dX4_addHearer_40 ⟨by simp [xu, hP, nI_1, nI_pred], by simp [xu, hP, nI_1]⟩
theorem c_X4_addBuyer (d : Nat) {E : xE} {σ : xS} {t P : Nat} {k : Int32} (ht : TownAt t) (hP : σ.1 t 9 = nI P) (hP7 : P < 3) : Ct E (d + 1) yX4_addBuyer cX4_addBuyer 2 (some .int) [.ref (E.1 t), .int k] σ (some (.int (nI P))) (xu (xu σ (t + 7) P k) t 9 (nI (P + 1))) := by
  obtain ⟨a0, a1, a2, a3, a4, a5, a6, a7, b1, b2, b3, b4, b5, b6, b7⟩ := id ht
  refine Ct.of (by decide +kernel) (Nat.le_of_ble_eq_true rfl) ⟨_, rfl, rfl⟩ ?_
  show Ev E _ RX4 cX4_addBuyer 2 _ 0 [some (.ref (E.1 t)), some (.int k)] [] _
  refine ev_aload_0 dX4_addBuyer_0 ?_
  refine ev_get dX4_addBuyer_1 fk_X4_30 (by first | assumption | decide) (by decide) rfl ?_
  refine ev_aload_0 dX4_addBuyer_4 ?_
  refine ev_get dX4_addBuyer_5 fk_X4_40 (by first | assumption | decide) (by decide) rfl ?_
  refine ev_iload_1 dX4_addBuyer_8 ?_
  refine Ev.pc 9 rfl ?_
  refine ev_invS dX4_addBuyer_9 ml_X4_53 mt_X5_put (c_X5_put d (by first | assumption | decide)) rfl rfl (rm_ok (by omega)) (Nat.le_of_ble_eq_true rfl) ?_
  rw [xput_eq (k := P) (by simp [xu, hP]) (by omega)]
  refine Ev.pc 12 rfl ?_
  refine ev_aload_0 dX4_addBuyer_12 ?_
  refine ev_dup dX4_addBuyer_13 rfl ?_
  refine ev_get dX4_addBuyer_14 fk_X4_40 (by first | assumption | decide) (by decide) rfl ?_
  refine ev_iconst_1 dX4_addBuyer_17 ?_
  refine Ev.pc 18 rfl ?_
  refine ev_iadd dX4_addBuyer_18 ?_
  refine ev_put dX4_addBuyer_19 fk_X4_40 (by first | assumption | decide) (by decide) rfl ?_
  refine ev_aload_0 dX4_addBuyer_22 ?_
  refine ev_get dX4_addBuyer_23 fk_X4_40 (by first | assumption | decide) (by decide) rfl ?_
  refine ev_iconst_1 dX4_addBuyer_26 ?_
  refine Ev.pc 27 rfl ?_
  refine ev_isub dX4_addBuyer_27 ?_
  exact ev_ireturn dX4_addBuyer_28 ⟨by simp [xu, hP, nI_1, nI_pred], by simp [xu, hP, nI_1]⟩
/-- n days go by, of the first j promises -/
def daysTo (σ : xS) (t j : Nat) (n : Int32) : xS := (fun a b => if a = t + 3 ∧ b < j ∧ σ.1 (t + 4) b = 0 then σ.1 a b + n else σ.1 a b, σ.2)
theorem daysTo_0 (σ : xS) (t : Nat) (n : Int32) : daysTo σ t 0 n = σ := by
  simp [daysTo]
theorem daysTo_s (σ : xS) (t j : Nat) (n : Int32) : daysTo σ t (j + 1) n = if σ.1 (t + 4) j = 0 then xu (daysTo σ t j n) (t + 3) j (σ.1 (t + 3) j + n) else daysTo σ t j n := by
  have key : ∀ (x y : Nat → Nat → Int32), (∀ a b, x a b = y a b) → x = y := fun x y h => by funext a b; exact h a b
  split
  · rename_i h
    refine Prod.ext (key _ _ (fun a b => ?_)) rfl
    by_cases ha : a = t + 3
    · by_cases hb : b = j
      · subst ha hb; simp [daysTo, xu, h]
      · simp [daysTo, xu, ha, hb, show b < j + 1 ↔ b < j by omega]
    · simp [daysTo, xu, ha]
  · rename_i h
    refine Prod.ext (key _ _ (fun a b => ?_)) rfl
    by_cases ha : a = t + 3
    · by_cases hb : b = j
      · subst ha hb; simp [daysTo, h]
      · simp [daysTo, ha, show b < j + 1 ↔ b < j by omega]
    · simp [daysTo, ha]
theorem l_X4_passDays (d : Nat) {E : xE} {σ : xS} {t P : Nat} {m : Int32} {F : Option Value → xS → Prop} (ht : TownAt t) (hP : σ.1 t 7 = nI P) (hP7 : P ≤ 7) (hF : F none (xu (daysTo σ t P m) t 10 (σ.1 t 10 + m))) :
    ∀ (n k : Nat), k + n = P → Ev E (rm (d + 3)) RX4 cX4_passDays 3 F 2 [some (.ref (E.1 t)), some (.int m), some (.int (nI k))] [] (daysTo σ t k m) := by
  obtain ⟨a0, a1, a2, a3, a4, a5, a6, a7, b1, b2, b3, b4, b5, b6, b7⟩ := id ht
  intro n
  induction n with
  | zero =>
    intro k hk
    have hq : (daysTo σ t k m).1 t 7 = nI P := by simp [daysTo, hP]
    have hq2 : (daysTo σ t k m).1 t 10 = σ.1 t 10 := by simp [daysTo]
    refine ev_iload_2 dX4_passDays_2 ?_
    refine ev_aload_0 dX4_passDays_3 ?_
    refine ev_get dX4_passDays_4 fk_X4_33 (by first | assumption | decide) (by decide) rfl ?_
    refine ev_icmp_ge 42 dX4_passDays_7 rfl (fun h7 => ?_) (fun h7 => ?_)
    · refine ev_aload_0 dX4_passDays_42 ?_
      refine ev_dup dX4_passDays_43 rfl ?_
      refine ev_get dX4_passDays_44 fk_X4_43 (by first | assumption | decide) (by decide) rfl ?_
      refine ev_iload_1 dX4_passDays_47 ?_
      refine ev_iadd dX4_passDays_48 ?_
      refine Ev.pc 49 rfl ?_
      refine ev_put dX4_passDays_49 fk_X4_43 (by first | assumption | decide) (by decide) rfl ?_
      exact ev_return dX4_passDays_52 (by (rw [hq2, show k = P by omega]; exact hF))
    · exact absurd (by rw [hq]; exact nI_le (by omega) (by omega)) h7
  | succ n ih =>
    intro k hk
    have hq : (daysTo σ t k m).1 t 7 = nI P := by simp [daysTo, hP]
    have hq2 : (daysTo σ t k m).1 (t + 4) k = σ.1 (t + 4) k := by simp [daysTo]
    have hq3 : (daysTo σ t k m).1 (t + 3) k = σ.1 (t + 3) k := by simp [daysTo]
    have hin : hasIn (nI P) (nI k) := ⟨nI_pos' (by omega), by rw [show P = (P - 1) + 1 by omega, nI_pred]; exact nI_le (by omega) (by omega)⟩
    have hat : xat (daysTo σ t k m) (t + 4) (nI k) = σ.1 (t + 4) k := by rw [xat_nI (by omega), hq2]
    have hat3 : xat (daysTo σ t k m) (t + 3) (nI k) = σ.1 (t + 3) k := by rw [xat_nI (by omega), hq3]
    refine ev_iload_2 dX4_passDays_2 ?_
    refine ev_aload_0 dX4_passDays_3 ?_
    refine ev_get dX4_passDays_4 fk_X4_33 (by first | assumption | decide) (by decide) rfl ?_
    refine ev_icmp_ge 42 dX4_passDays_7 rfl (fun h7 => ?_) (fun h7 => ?_)
    · exact absurd h7 (by rw [hq]; exact nI_ge (by omega) (by omega))
    · refine ev_aload_0 dX4_passDays_10 ?_
      refine ev_iload_2 dX4_passDays_11 ?_
      refine ev_invV (ci := 4) dX4_passDays_12 ml_X4_80 mt_X4_isInWindow (c_X4_isInWindow d ‹TownAt _›) (by first | assumption | decide) (by decide) rfl rfl rfl (rm_ok (by omega)) (Nat.le_of_ble_eq_true rfl) ?_
      refine Ev.pc 15 rfl ?_
      refine ev_if_eq 36 dX4_passDays_15 rfl (fun h15 => ?_) (fun h15 => ?_)
      · simp only [b2i_0, inW, hq, hat] at h15
        refine ev_iinc_2 (1) dX4_passDays_36 rfl rfl ?_
        refine ev_goto 2 dX4_passDays_39 rfl ?_
        rw [nI_1]
        have hs := daysTo_s σ t k m
        first
          | (rw [if_pos h15.2] at hs; rw [← hs]; exact ih (k + 1) (by omega))
          | (rw [if_neg (fun h => h15 ⟨hin, h⟩)] at hs; rw [← hs]; exact ih (k + 1) (by omega))
      · simp only [b2i_0, inW, hq, hat, Decidable.not_not] at h15
        refine ev_aload_0 dX4_passDays_18 ?_
        refine ev_get dX4_passDays_19 fk_X4_18 (by first | assumption | decide) (by decide) rfl ?_
        refine ev_iload_2 dX4_passDays_22 ?_
        refine ev_aload_0 dX4_passDays_23 ?_
        refine ev_get dX4_passDays_24 fk_X4_18 (by first | assumption | decide) (by decide) rfl ?_
        refine Ev.pc 27 rfl ?_
        refine ev_iload_2 dX4_passDays_27 ?_
        refine ev_invS dX4_passDays_28 ml_X4_65 mt_X5_at (c_X5_at d (by first | assumption | decide)) rfl rfl (rm_ok (by omega)) (Nat.le_of_ble_eq_true rfl) ?_
        refine Ev.pc 31 rfl ?_
        refine ev_iload_1 dX4_passDays_31 ?_
        refine ev_iadd dX4_passDays_32 ?_
        refine ev_invS dX4_passDays_33 ml_X4_53 mt_X5_put (c_X5_put d (by first | assumption | decide)) rfl rfl (rm_ok (by omega)) (Nat.le_of_ble_eq_true rfl) ?_
        rw [hat3, xput_nI (by omega)]
        refine Ev.pc 36 rfl ?_
        refine ev_iinc_2 (1) dX4_passDays_36 rfl rfl ?_
        refine ev_goto 2 dX4_passDays_39 rfl ?_
        rw [nI_1]
        have hs := daysTo_s σ t k m
        first
          | (rw [if_pos h15.2] at hs; rw [← hs]; exact ih (k + 1) (by omega))
          | (rw [if_neg (fun h => h15 ⟨hin, h⟩)] at hs; rw [← hs]; exact ih (k + 1) (by omega))
theorem c_X4_passDays (d : Nat) {E : xE} {σ : xS} {t P : Nat} {m : Int32} (ht : TownAt t) (hP : σ.1 t 7 = nI P) (hP7 : P ≤ 7) : Ct E (d + 3) yX4_passDays cX4_passDays 3 none [.ref (E.1 t), .int m] σ none (xu (daysTo σ t P m) t 10 (σ.1 t 10 + m)) := by
  refine Ct.of (by decide +kernel) (Nat.le_of_ble_eq_true rfl) rfl ?_
  show Ev E _ RX4 cX4_passDays 3 _ 0 [some (.ref (E.1 t)), some (.int m), none] [] _
  refine ev_iconst_0 dX4_passDays_0 ?_
  refine ev_istore_2 dX4_passDays_1 rfl ?_
  have h := l_X4_passDays (E := E) d ht hP hP7 (F := fun v s => v = none ∧ s = xu (daysTo σ t P m) t 10 (σ.1 t 10 + m)) ⟨rfl, rfl⟩ P 0 (by omega)
  rw [daysTo_0] at h
  exact h
