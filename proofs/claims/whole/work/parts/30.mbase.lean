/-! the reference: its rows by plain numbers, its small functions -/
theorem fa_lit (n : Nat) : (OfNat.ofNat n : Int32) = nI n := rfl
theorem xls : xlen 74 = 258 ∧ xlen 75 = 516 ∧ xlen 76 = 2 ∧ xlen 77 = 3 ∧ xlen 78 = 4 ∧ xlen 79 = 4 ∧ xlen 80 = 7 ∧ xlen 81 = 48 ∧ xlen 82 = 150 ∧ xlen 83 = 106 ∧ xlen 84 = 2 := by decide +kernel
section
variable {E : xE} {R : Room} {own : String} {cc : ByteArray} {nL : Nat} {F : Option Value → xS → Prop} {pc : Nat} {l : xL} {st : List Value} {σ : xS}
theorem ev_aldN {i k : Nat} {j : Int32} (d : decode cc pc = .ok (.iaload, 1)) (hi : i < xN ∧ xcls i = 7) (hj : j = nI k) (hk : k < xlen i) (kk : Ev E R own cc nL F (pc + 1) l (.int (σ.1 i k) :: st) σ) : Ev E R own cc nL F pc l (.int j :: .ref (E.1 i) :: st) σ := by
  have h5 := xlen_le i
  subst hj
  refine ev_iaload d hi (vp_in_nI hk (by omega)) ?_
  rw [nI_clamp (by omega)]
  exact kk
theorem ev_aldL {i n : Nat} (d : decode cc pc = .ok (.iaload, 1)) (hi : i < xN ∧ xcls i = 7) (hk : n < xlen i) (kk : Ev E R own cc nL F (pc + 1) l (.int (σ.1 i n) :: st) σ) : Ev E R own cc nL F pc l (.int (OfNat.ofNat n) :: .ref (E.1 i) :: st) σ := ev_aldN d hi rfl hk kk
theorem ev_aldA {i n k : Nat} (d : decode cc pc = .ok (.iaload, 1)) (hi : i < xN ∧ xcls i = 7) (hk : n + k < xlen i) (kk : Ev E R own cc nL F (pc + 1) l (.int (σ.1 i (n + k)) :: st) σ) : Ev E R own cc nL F pc l (.int (OfNat.ofNat n + nI k) :: .ref (E.1 i) :: st) σ := ev_aldN d hi (by rw [fa_lit, nI_add]) hk kk
theorem ev_aldV {i k : Nat} (d : decode cc pc = .ok (.iaload, 1)) (hi : i < xN ∧ xcls i = 7) (hk : k < xlen i) (kk : Ev E R own cc nL F (pc + 1) l (.int (σ.1 i k) :: st) σ) : Ev E R own cc nL F pc l (.int (nI k) :: .ref (E.1 i) :: st) σ := ev_aldN d hi rfl hk kk
theorem xu_row (σ : xS) (i k : Nat) (v : Int32) : xu σ i k v = xrow σ i (upd (σ.1 i) k v) := by
  refine xS_ext (fun a b => ?_) rfl
  by_cases ha : a = i
  · subst ha; simp [xu, xrow, upd]
  · simp [xu, xrow, ha]
theorem ev_astN {i k : Nat} {j v : Int32} (d : decode cc pc = .ok (.iastore, 1)) (hi : i < xN ∧ xcls i = 7) (hj : j = nI k) (hk : k < xlen i) (kk : Ev E R own cc nL F (pc + 1) l st (xrow σ i (upd (σ.1 i) k v))) : Ev E R own cc nL F pc l (.int v :: .int j :: .ref (E.1 i) :: st) σ := by
  have h5 := xlen_le i
  subst hj
  refine ev_iastore d hi (vp_in_nI hk (by omega)) ?_
  rw [nI_clamp (by omega), xu_row]
  exact kk
theorem ev_astL {i n : Nat} {v : Int32} (d : decode cc pc = .ok (.iastore, 1)) (hi : i < xN ∧ xcls i = 7) (hk : n < xlen i) (kk : Ev E R own cc nL F (pc + 1) l st (xrow σ i (upd (σ.1 i) n v))) : Ev E R own cc nL F pc l (.int v :: .int (OfNat.ofNat n) :: .ref (E.1 i) :: st) σ := ev_astN d hi rfl hk kk
theorem ev_astA {i n k : Nat} {v : Int32} (d : decode cc pc = .ok (.iastore, 1)) (hi : i < xN ∧ xcls i = 7) (hk : n + k < xlen i) (kk : Ev E R own cc nL F (pc + 1) l st (xrow σ i (upd (σ.1 i) (n + k) v))) : Ev E R own cc nL F pc l (.int v :: .int (OfNat.ofNat n + nI k) :: .ref (E.1 i) :: st) σ := ev_astN d hi (by rw [fa_lit, nI_add]) hk kk
theorem ev_astV {i k : Nat} {v : Int32} (d : decode cc pc = .ok (.iastore, 1)) (hi : i < xN ∧ xcls i = 7) (hk : k < xlen i) (kk : Ev E R own cc nL F (pc + 1) l st (xrow σ i (upd (σ.1 i) k v))) : Ev E R own cc nL F pc l (.int v :: .int (nI k) :: .ref (E.1 i) :: st) σ := ev_astN d hi rfl hk kk
end
theorem xrow_at (σ : xS) (i : Nat) (f : Nat → Int32) : (xrow σ i f).1 i = f := by simp [xrow]
theorem xrow_ne (σ : xS) {i a : Nat} (f : Nat → Int32) (h : a ≠ i) : (xrow σ i f).1 a = σ.1 a := by simp [xrow, h]
theorem xrow_row (σ : xS) (i : Nat) (f g : Nat → Int32) : xrow (xrow σ i f) i g = xrow σ i g := by
  refine xS_ext (fun a b => ?_) rfl
  by_cases ha : a = i <;> simp [xrow, ha]
theorem xrow_id (σ : xS) (i : Nat) : xrow σ i (σ.1 i) = σ := by
  refine xS_ext (fun a b => ?_) rfl
  by_cases ha : a = i
  · subst ha; simp [xrow]
  · simp [xrow, ha]
theorem upd_at (f : Nat → Int32) (k : Nat) (x : Int32) : upd f k x k = x := by simp [upd]
theorem upd_ne (f : Nat → Int32) {k j : Nat} (x : Int32) (h : j ≠ k) : upd f k x j = f j := by simp [upd, h]
theorem w_le (a b : Int32) : a.toInt64 ≤ b.toInt64 ↔ a ≤ b := by
  rw [Int64.le_iff_toInt_le, Int32.le_iff_toInt_le, Int32.toInt_toInt64, Int32.toInt_toInt64]
theorem w_lt (a b : Int32) : a.toInt64 < b.toInt64 ↔ a < b := by
  rw [Int64.lt_iff_toInt_lt, Int32.lt_iff_toInt_lt, Int32.toInt_toInt64, Int32.toInt_toInt64]
theorem c_X6_in (d : Nat) {E : xE} {σ : xS} {x a b : Int64} {v lo hi : Int32} (hx : x = v.toInt64) (ha : a = lo.toInt64) (hb : b = hi.toInt64) : Ct E d yX6_in cX6_in 6 (some .boolean) [.long x, .long a, .long b] σ (some (.int (b2i (btw v lo hi)))) σ := by
  subst hx ha hb
  refine Ct.of (by decide +kernel) (Nat.le_of_ble_eq_true rfl) ⟨_, rfl, nb_b2i _⟩ ?_
  show Ev E _ RX6 cX6_in 6 _ 0 [some (.long v.toInt64), none, some (.long lo.toInt64), none, some (.long hi.toInt64), none] [] _
  refine ev_lload_0 dX6_in_0 ?_
  refine ev_lload_2 dX6_in_1 ?_
  refine ev_lcmp dX6_in_2 ?_
  refine ev_if_lt 17 dX6_in_3 rfl (fun h3 => ?_) (fun h3 => ?_)
  · refine ev_iconst_0 dX6_in_17 ?_
    exact ev_ireturn dX6_in_18 ⟨by (simp only [lg_cmp_lt, lg_cmp_gt, w_lt] at *; first | exact congrArg (fun z => some (Value.int z)) (b2i_t ⟨Int32.not_lt.mp h3, Int32.not_lt.mp h10⟩) | exact congrArg (fun z => some (Value.int z)) (b2i_f (fun h => absurd h.1 (Int32.not_le.mpr h3))) | exact congrArg (fun z => some (Value.int z)) (b2i_f (fun h => absurd h.2 (Int32.not_le.mpr h10)))), by rfl⟩
  · refine ev_lload_0 dX6_in_6 ?_
    refine ev_lload_4 dX6_in_7 ?_
    refine ev_lcmp dX6_in_9 ?_
    refine ev_if_gt 17 dX6_in_10 rfl (fun h10 => ?_) (fun h10 => ?_)
    · refine ev_iconst_0 dX6_in_17 ?_
      exact ev_ireturn dX6_in_18 ⟨by (simp only [lg_cmp_lt, lg_cmp_gt, w_lt] at *; first | exact congrArg (fun z => some (Value.int z)) (b2i_t ⟨Int32.not_lt.mp h3, Int32.not_lt.mp h10⟩) | exact congrArg (fun z => some (Value.int z)) (b2i_f (fun h => absurd h.1 (Int32.not_le.mpr h3))) | exact congrArg (fun z => some (Value.int z)) (b2i_f (fun h => absurd h.2 (Int32.not_le.mpr h10)))), by rfl⟩
    · refine ev_iconst_1 dX6_in_13 ?_
      refine ev_goto 18 dX6_in_14 rfl ?_
      exact ev_ireturn dX6_in_18 ⟨by (simp only [lg_cmp_lt, lg_cmp_gt, w_lt] at *; first | exact congrArg (fun z => some (Value.int z)) (b2i_t ⟨Int32.not_lt.mp h3, Int32.not_lt.mp h10⟩) | exact congrArg (fun z => some (Value.int z)) (b2i_f (fun h => absurd h.1 (Int32.not_le.mpr h3))) | exact congrArg (fun z => some (Value.int z)) (b2i_f (fun h => absurd h.2 (Int32.not_le.mpr h10)))), by rfl⟩
def mBad (σ : xS) : xS := xrow σ 77 (upd (σ.1 77) 0 (σ.1 77 0 + 1))
def mNo (σ : xS) : xS := xrow σ 77 (upd (σ.1 77) 1 (σ.1 77 1 + 1))
def mFull (σ : xS) : xS := xrow σ 77 (upd (σ.1 77) 2 (σ.1 77 2 + 1))
theorem c_X6_bad (d : Nat) {E : xE} {σ : xS} {a : Int32} : Ct E d yX6_bad cX6_bad 2 (some .int) [.ref (E.1 73), .int a] σ (some (.int a)) (mBad σ) := by
  refine Ct.of (by decide +kernel) (Nat.le_of_ble_eq_true rfl) ⟨_, rfl, rfl⟩ ?_
  show Ev E _ RX6 cX6_bad 2 _ 0 [some (.ref (E.1 73)), some (.int a)] [] _
  refine ev_aload_0 dX6_bad_0 ?_
  refine ev_get dX6_bad_1 fk_X6_20 (by first | assumption | decide) (by decide) rfl ?_
  refine ev_iconst_0 dX6_bad_4 ?_
  refine ev_dup2 dX6_bad_5 rfl rfl ?_
  refine ev_aldL (n := 0) dX6_bad_6 (by first | assumption | decide) (by have := xls; omega) ?_
  refine Ev.pc 7 rfl ?_
  refine ev_iconst_1 dX6_bad_7 ?_
  refine ev_iadd dX6_bad_8 ?_
  refine ev_astL (n := 0) dX6_bad_9 (by first | assumption | decide) (by have := xls; omega) ?_
  refine ev_iload_1 dX6_bad_10 ?_
  exact ev_ireturn dX6_bad_11 ⟨by rfl, by rfl⟩
theorem c_X6_no (d : Nat) {E : xE} {σ : xS} : Ct E d yX6_no cX6_no 1 (some .int) [.ref (E.1 73)] σ (some (.int (-3))) (mNo σ) := by
  refine Ct.of (by decide +kernel) (Nat.le_of_ble_eq_true rfl) ⟨_, rfl, rfl⟩ ?_
  show Ev E _ RX6 cX6_no 1 _ 0 [some (.ref (E.1 73))] [] _
  refine ev_aload_0 dX6_no_0 ?_
  refine ev_get dX6_no_1 fk_X6_20 (by first | assumption | decide) (by decide) rfl ?_
  refine ev_iconst_1 dX6_no_4 ?_
  refine ev_dup2 dX6_no_5 rfl rfl ?_
  refine ev_aldL (n := 1) dX6_no_6 (by first | assumption | decide) (by have := xls; omega) ?_
  refine Ev.pc 7 rfl ?_
  refine ev_iconst_1 dX6_no_7 ?_
  refine ev_iadd dX6_no_8 ?_
  refine ev_astL (n := 1) dX6_no_9 (by first | assumption | decide) (by have := xls; omega) ?_
  refine ev_bipush (-3) dX6_no_10 rfl ?_
  exact ev_ireturn dX6_no_12 ⟨by rfl, by rfl⟩
theorem c_X6_full (d : Nat) {E : xE} {σ : xS} : Ct E d yX6_full cX6_full 1 (some .int) [.ref (E.1 73)] σ (some (.int (-4))) (mFull σ) := by
  refine Ct.of (by decide +kernel) (Nat.le_of_ble_eq_true rfl) ⟨_, rfl, rfl⟩ ?_
  show Ev E _ RX6 cX6_full 1 _ 0 [some (.ref (E.1 73))] [] _
  refine ev_aload_0 dX6_full_0 ?_
  refine ev_get dX6_full_1 fk_X6_20 (by first | assumption | decide) (by decide) rfl ?_
  refine ev_iconst_2 dX6_full_4 ?_
  refine ev_dup2 dX6_full_5 rfl rfl ?_
  refine ev_aldL (n := 2) dX6_full_6 (by first | assumption | decide) (by have := xls; omega) ?_
  refine Ev.pc 7 rfl ?_
  refine ev_iconst_1 dX6_full_7 ?_
  refine ev_iadd dX6_full_8 ?_
  refine ev_astL (n := 2) dX6_full_9 (by first | assumption | decide) (by have := xls; omega) ?_
  refine ev_bipush (-4) dX6_full_10 rfl ?_
  exact ev_ireturn dX6_full_12 ⟨by rfl, by rfl⟩
theorem c_X6_has (d : Nat) {E : xE} {σ : xS} {bits i : Int32} : Ct E d yX6_has cX6_has 2 (some .boolean) [.int bits, .int i] σ (some (.int (b2i ((bits >>> (i &&& 31)) &&& 1 = 1)))) σ := by
  refine Ct.of (by decide +kernel) (Nat.le_of_ble_eq_true rfl) ⟨_, rfl, nb_b2i _⟩ ?_
  show Ev E _ RX6 cX6_has 2 _ 0 [some (.int bits), some (.int i)] [] _
  refine ev_iload_0 dX6_has_0 ?_
  refine ev_iload_1 dX6_has_1 ?_
  refine ev_ishr dX6_has_2 ?_
  refine ev_iconst_1 dX6_has_3 ?_
  refine ev_iand dX6_has_4 ?_
  refine Ev.pc 5 rfl ?_
  refine ev_iconst_1 dX6_has_5 ?_
  refine ev_icmp_ne 13 dX6_has_6 rfl (fun h6 => ?_) (fun h6 => ?_)
  · refine ev_iconst_0 dX6_has_13 ?_
    exact ev_ireturn dX6_has_14 ⟨by (simp [b2i, *]), by rfl⟩
  · refine ev_iconst_1 dX6_has_9 ?_
    refine ev_goto 14 dX6_has_10 rfl ?_
    exact ev_ireturn dX6_has_14 ⟨by (simp [b2i, *]), by rfl⟩
theorem c_X6_many (d : Nat) {E : xE} {σ : xS} : Ct E d yX6_many cX6_many 1 (some .int) [.ref (E.1 73)] σ (some (.int (σ.1 74 0))) σ := by
  refine Ct.of (by decide +kernel) (Nat.le_of_ble_eq_true rfl) ⟨_, rfl, rfl⟩ ?_
  show Ev E _ RX6 cX6_many 1 _ 0 [some (.ref (E.1 73))] [] _
  refine ev_aload_0 dX6_many_0 ?_
  refine ev_get dX6_many_1 fk_X6_7 (by first | assumption | decide) (by decide) rfl ?_
  refine ev_iconst_0 dX6_many_4 ?_
  refine ev_aldL (n := 0) dX6_many_5 (by first | assumption | decide) (by have := xls; omega) ?_
  exact ev_ireturn dX6_many_6 ⟨by rfl, by rfl⟩
theorem c_X6_isPromise (d : Nat) {E : xE} {σ : xS} {p : Int32} : Ct E (d + 1) yX6_isPromise cX6_isPromise 2 (some .boolean) [.ref (E.1 73), .int p] σ (some (.int (b2i (hasIn (σ.1 74 0) p)))) σ := by
  refine Ct.of (by decide +kernel) (Nat.le_of_ble_eq_true rfl) ⟨_, rfl, nb_b2i _⟩ ?_
  show Ev E _ RX6 cX6_isPromise 2 _ 0 [some (.ref (E.1 73)), some (.int p)] [] _
  refine ev_iload_1 dX6_isPromise_0 ?_
  refine ev_i2l dX6_isPromise_1 ?_
  refine ev_lconst_0 dX6_isPromise_2 ?_
  refine ev_aload_0 dX6_isPromise_3 ?_
  refine ev_invV (ci := 6) dX6_isPromise_4 ml_X6_52 mt_X6_many (c_X6_many d) (by first | assumption | decide) (by decide) rfl rfl rfl (rm_ok (by omega)) (Nat.le_of_ble_eq_true rfl) ?_
  refine Ev.pc 7 rfl ?_
  refine ev_iconst_1 dX6_isPromise_7 ?_
  refine ev_isub dX6_isPromise_8 ?_
  refine ev_i2l dX6_isPromise_9 ?_
  refine ev_invS dX6_isPromise_10 ml_X6_56 mt_X6_in (c_X6_in d (v := p) (lo := 0) (hi := σ.1 74 0 - 1) (by first | rfl | decide) (by first | rfl | decide) (by first | rfl | decide)) rfl rfl (rm_ok (by omega)) (Nat.le_of_ble_eq_true rfl) ?_
  refine Ev.pc 13 rfl ?_
  exact ev_ireturn dX6_isPromise_13 ⟨by rfl, by rfl⟩
theorem c_X6_isHearer (d : Nat) {E : xE} {σ : xS} {p : Int32} : Ct E (d + 1) yX6_isHearer cX6_isHearer 2 (some .boolean) [.ref (E.1 73), .int p] σ (some (.int (b2i (hasIn (σ.1 74 1) p)))) σ := by
  refine Ct.of (by decide +kernel) (Nat.le_of_ble_eq_true rfl) ⟨_, rfl, nb_b2i _⟩ ?_
  show Ev E _ RX6 cX6_isHearer 2 _ 0 [some (.ref (E.1 73)), some (.int p)] [] _
  refine ev_iload_1 dX6_isHearer_0 ?_
  refine ev_i2l dX6_isHearer_1 ?_
  refine ev_lconst_0 dX6_isHearer_2 ?_
  refine ev_aload_0 dX6_isHearer_3 ?_
  refine ev_get dX6_isHearer_4 fk_X6_7 (by first | assumption | decide) (by decide) rfl ?_
  refine Ev.pc 7 rfl ?_
  refine ev_iconst_1 dX6_isHearer_7 ?_
  refine ev_aldL (n := 1) dX6_isHearer_8 (by first | assumption | decide) (by have := xls; omega) ?_
  refine ev_iconst_1 dX6_isHearer_9 ?_
  refine ev_isub dX6_isHearer_10 ?_
  refine ev_i2l dX6_isHearer_11 ?_
  refine Ev.pc 12 rfl ?_
  refine ev_invS dX6_isHearer_12 ml_X6_56 mt_X6_in (c_X6_in d (v := p) (lo := 0) (hi := σ.1 74 1 - 1) (by first | rfl | decide) (by first | rfl | decide) (by first | rfl | decide)) rfl rfl (rm_ok (by omega)) (Nat.le_of_ble_eq_true rfl) ?_
  refine Ev.pc 15 rfl ?_
  exact ev_ireturn dX6_isHearer_15 ⟨by rfl, by rfl⟩
theorem c_X6_isBuyer (d : Nat) {E : xE} {σ : xS} {p : Int32} : Ct E (d + 1) yX6_isBuyer cX6_isBuyer 2 (some .boolean) [.ref (E.1 73), .int p] σ (some (.int (b2i (hasIn (σ.1 74 2) p)))) σ := by
  refine Ct.of (by decide +kernel) (Nat.le_of_ble_eq_true rfl) ⟨_, rfl, nb_b2i _⟩ ?_
  show Ev E _ RX6 cX6_isBuyer 2 _ 0 [some (.ref (E.1 73)), some (.int p)] [] _
  refine ev_iload_1 dX6_isBuyer_0 ?_
  refine ev_i2l dX6_isBuyer_1 ?_
  refine ev_lconst_0 dX6_isBuyer_2 ?_
  refine ev_aload_0 dX6_isBuyer_3 ?_
  refine ev_get dX6_isBuyer_4 fk_X6_7 (by first | assumption | decide) (by decide) rfl ?_
  refine Ev.pc 7 rfl ?_
  refine ev_iconst_2 dX6_isBuyer_7 ?_
  refine ev_aldL (n := 2) dX6_isBuyer_8 (by first | assumption | decide) (by have := xls; omega) ?_
  refine ev_iconst_1 dX6_isBuyer_9 ?_
  refine ev_isub dX6_isBuyer_10 ?_
  refine ev_i2l dX6_isBuyer_11 ?_
  refine Ev.pc 12 rfl ?_
  refine ev_invS dX6_isBuyer_12 ml_X6_56 mt_X6_in (c_X6_in d (v := p) (lo := 0) (hi := σ.1 74 2 - 1) (by first | rfl | decide) (by first | rfl | decide) (by first | rfl | decide)) rfl rfl (rm_ok (by omega)) (Nat.le_of_ble_eq_true rfl) ?_
  refine Ev.pc 15 rfl ?_
  exact ev_ireturn dX6_isBuyer_15 ⟨by rfl, by rfl⟩
theorem c_X6_isKind (d : Nat) {E : xE} {σ : xS} {p : Int32} : Ct E (d + 1) yX6_isKind cX6_isKind 1 (some .boolean) [.int p] σ (some (.int (b2i (btw p 0 5)))) σ := by
  refine Ct.of (by decide +kernel) (Nat.le_of_ble_eq_true rfl) ⟨_, rfl, nb_b2i _⟩ ?_
  show Ev E _ RX6 cX6_isKind 1 _ 0 [some (.int p)] [] _
  refine ev_iload_0 dX6_isKind_0 ?_
  refine ev_i2l dX6_isKind_1 ?_
  refine ev_lconst_0 dX6_isKind_2 ?_
  refine ev_ldc2_w dX6_isKind_3 cn_X6_60 ?_
  refine ev_invS dX6_isKind_6 ml_X6_56 mt_X6_in (c_X6_in d (v := p) (lo := 0) (hi := 5) (by first | rfl | decide) (by first | rfl | decide) (by first | rfl | decide)) rfl rfl (rm_ok (by omega)) (Nat.le_of_ble_eq_true rfl) ?_
  refine Ev.pc 9 rfl ?_
  exact ev_ireturn dX6_isKind_9 ⟨by rfl, by rfl⟩
theorem c_X6_isNine (d : Nat) {E : xE} {σ : xS} {p : Int32} : Ct E (d + 1) yX6_isNine cX6_isNine 1 (some .boolean) [.int p] σ (some (.int (b2i (btw p 1 9)))) σ := by
  refine Ct.of (by decide +kernel) (Nat.le_of_ble_eq_true rfl) ⟨_, rfl, nb_b2i _⟩ ?_
  show Ev E _ RX6 cX6_isNine 1 _ 0 [some (.int p)] [] _
  refine ev_iload_0 dX6_isNine_0 ?_
  refine ev_i2l dX6_isNine_1 ?_
  refine ev_lconst_1 dX6_isNine_2 ?_
  refine ev_ldc2_w dX6_isNine_3 cn_X6_62 ?_
  refine ev_invS dX6_isNine_6 ml_X6_56 mt_X6_in (c_X6_in d (v := p) (lo := 1) (hi := 9) (by first | rfl | decide) (by first | rfl | decide) (by first | rfl | decide)) rfl rfl (rm_ok (by omega)) (Nat.le_of_ble_eq_true rfl) ?_
  refine Ev.pc 9 rfl ?_
  exact ev_ireturn dX6_isNine_9 ⟨by rfl, by rfl⟩
