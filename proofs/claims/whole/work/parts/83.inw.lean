/-! ===== THE CONSTRUCTORS: what they make ===== -/
def zI (E : xE) (n : Nat) : va_E := .inl (E.2.2.1, (n, .inl fun _ => 0))
def zB (E : xE) (n : Nat) : va_E := .inl (E.2.2.2, (n, .inl fun _ => 0))
def tB (E : xE) (a : Nat → Nat) : va_W := [(a 0, .inr (4, [.ref (a 1), .ref (a 2), .ref (a 3), .ref (a 4), .ref (a 5), .ref (a 6), .ref (a 7), .int 0, .int 0, .int 0, .int 0, .int 0])), (a 1, zI E 7), (a 2, zI E 7), (a 3, zI E 7), (a 4, zI E 7), (a 5, zI E 4), (a 6, zI E 4), (a 7, zI E 3)]
def pB (E : xE) (a : Nat → Nat) : va_W := [(a 0, .inr (1, [.ref (a 1), .int 0])), (a 1, zI E 152)]
def hB (E : xE) (n : Int32) (N : Nat) (a : Nat → Nat) : va_W := [(a 0, .inr (0, [.int n, .ref (a 1), .int 0])), (a 1, zI E N)]
def sB (E : xE) (a : Nat → Nat) : va_W := (a 0, .inr (3, [.ref (a 1), .ref (a 9), .ref (a 11), .ref (a 13), .ref (a 15), .int 0])) :: (tB E (fun i => a (1 + i)) ++ pB E (fun i => a (9 + i)) ++ hB E 5 20 (fun i => a (11 + i)) ++ hB E 6 24 (fun i => a (13 + i)) ++ hB E 6 24 (fun i => a (15 + i)))
def rB (E : xE) (a : Nat → Nat) : va_W := (a 0, .inr (2, [.ref (a 1), .ref (a 2), .int 0, .int (-1), .int 0, .int 0, .int 0, .int 0, .int 0])) :: ([(a 1, zI E 150)] ++ tB E (fun i => a (2 + i)))
def wB (E : xE) (a : Nat → Nat) : va_W := (a 0, .inr (5, [.ref (a 1), .ref (a 18), .ref (a 35), .ref (a 52), .ref (a 62), .ref (a 70), .ref (a 71), .ref (a 72), .long 0, .long 1, .int 0, .int 0, .int 0])) :: (sB E (fun i => a (1 + i)) ++ sB E (fun i => a (18 + i)) ++ sB E (fun i => a (35 + i)) ++ rB E (fun i => a (52 + i)) ++ tB E (fun i => a (62 + i)) ++ [(a 70, zI E 28)] ++ [(a 71, zI E 7)] ++ [(a 72, zI E 7)])
def mB (E : xE) (a : Nat → Nat) : va_W := [(a 0, .inr (6, [.ref (a 1), .ref (a 2), .ref (a 3), .ref (a 4), .long 0, .long 1, .ref (a 5), .ref (a 6), .ref (a 7), .ref (a 8), .ref (a 9), .int 0, .int 0, .int 0, .int 0, .int 0, .ref (a 10), .ref (a 11)])), (a 1, zI E 258), (a 2, zI E 516), (a 3, zB E 2), (a 4, zI E 3), (a 5, zI E 4), (a 6, zI E 4), (a 7, zI E 7), (a 8, zI E 48), (a 9, zI E 150), (a 10, zI E 106), (a 11, zI E 2)]
theorem x_mem {w : Cond} (h : w ∈ lw_tbl) (hg : goodWord w = true) : w ∈ xtbl := List.mem_filter.mpr ⟨h, hg⟩
theorem aw_int : Cond.arrayClass .int ∈ xtbl := x_mem (by decide +kernel) rfl
theorem aw_bool : Cond.arrayClass .boolean ∈ xtbl := x_mem (by decide +kernel) rfl

theorem Iv.stk {E : xE} {R : Room} {own : String} {cc : ByteArray} {nL : Nat} {F : va_W → Prop} {mc ms pc : Nat} {l : xL} {st : List Value} {ws : va_W} {cells slots : Nat} {u v : Value} (h : u = v) (k : Iv E R own cc nL F mc ms pc l (v :: st) ws cells slots) : Iv E R own cc nL F mc ms pc l (u :: st) ws cells slots := h ▸ k
theorem oi_X4 : OI RX4 3 := ⟨x_mem (by decide +kernel) rfl, x_mem (by decide +kernel) rfl, x_mem (by decide +kernel) rfl⟩
theorem fi_X4_9 : FI RX4 9 4 0 (.array .int) := ⟨RX4, TX4, 12, tyX4, rfl, by decide, hin_X4, tyX4_ok, nmX4, rfl, rfl, x_in 133 (by decide +kernel) rfl⟩
theorem fi_X4_15 : FI RX4 15 4 1 (.array .int) := ⟨RX4, TX4, 12, tyX4, rfl, by decide, hin_X4, tyX4_ok, nmX4, rfl, rfl, x_in 135 (by decide +kernel) rfl⟩
theorem fi_X4_18 : FI RX4 18 4 2 (.array .int) := ⟨RX4, TX4, 12, tyX4, rfl, by decide, hin_X4, tyX4_ok, nmX4, rfl, rfl, x_in 137 (by decide +kernel) rfl⟩
theorem fi_X4_21 : FI RX4 21 4 3 (.array .int) := ⟨RX4, TX4, 12, tyX4, rfl, by decide, hin_X4, tyX4_ok, nmX4, rfl, rfl, x_in 140 (by decide +kernel) rfl⟩
theorem fi_X4_24 : FI RX4 24 4 4 (.array .int) := ⟨RX4, TX4, 12, tyX4, rfl, by decide, hin_X4, tyX4_ok, nmX4, rfl, rfl, x_in 143 (by decide +kernel) rfl⟩
theorem fi_X4_27 : FI RX4 27 4 5 (.array .int) := ⟨RX4, TX4, 12, tyX4, rfl, by decide, hin_X4, tyX4_ok, nmX4, rfl, rfl, x_in 145 (by decide +kernel) rfl⟩
theorem fi_X4_30 : FI RX4 30 4 6 (.array .int) := ⟨RX4, TX4, 12, tyX4, rfl, by decide, hin_X4, tyX4_ok, nmX4, rfl, rfl, x_in 147 (by decide +kernel) rfl⟩
theorem fi_X4_33 : FI RX4 33 4 7 .int := ⟨RX4, TX4, 12, tyX4, rfl, by decide, hin_X4, tyX4_ok, nmX4, rfl, rfl, x_in 150 (by decide +kernel) rfl⟩
theorem fi_X4_37 : FI RX4 37 4 8 .int := ⟨RX4, TX4, 12, tyX4, rfl, by decide, hin_X4, tyX4_ok, nmX4, rfl, rfl, x_in 153 (by decide +kernel) rfl⟩
theorem fi_X4_40 : FI RX4 40 4 9 .int := ⟨RX4, TX4, 12, tyX4, rfl, by decide, hin_X4, tyX4_ok, nmX4, rfl, rfl, x_in 156 (by decide +kernel) rfl⟩
theorem fi_X4_43 : FI RX4 43 4 10 .int := ⟨RX4, TX4, 12, tyX4, rfl, by decide, hin_X4, tyX4_ok, nmX4, rfl, rfl, x_in 159 (by decide +kernel) rfl⟩
theorem fi_X4_46 : FI RX4 46 4 11 .int := ⟨RX4, TX4, 12, tyX4, rfl, by decide, hin_X4, tyX4_ok, nmX4, rfl, rfl, x_in 162 (by decide +kernel) rfl⟩
set_option maxHeartbeats 4000000 in
set_option maxRecDepth 100000 in
theorem i_X4 (E : xE) : Mi E 1 yX4_init cX4_init 1 (fun h => [.ref h]) (.inr (4, [.null, .null, .null, .null, .null, .null, .null, .int 0, .int 0, .int 0, .int 0, .int 0])) 7 39 (fun h ws => ∃ a : Nat → Nat, a 0 = h ∧ ws = tB E a) := by
  refine Mi.of (as := []) rfl rfl (by decide) (fun h0 => ?_)
  show Iv E _ _ _ _ _ _ _ 0 [some (.ref h0)] [] [(h0, _)] 0 0
  refine iv_aload_0 dX4_init_0 ?_
  refine iv_obj dX4_init_1 oi_X4 ⟨by decide, by decide⟩ ⟨by decide, by decide⟩ ?_
  refine iv_aload_0 dX4_init_4 ?_
  refine iv_bipush 7 dX4_init_5 rfl ?_
  refine iv_newa .int E.2.2.1 7 dX4_init_7 rfl aw_int List.mem_cons_self (fun _ _ h => h) (fun _ => rfl) (by decide) (by decide) (by decide) (by decide) (by decide) (fun q1 => ?_)
  refine iv_put dX4_init_9 fi_X4_9 (fs' := [.ref q1, .null, .null, .null, .null, .null, .null, .int 0, .int 0, .int 0, .int 0, .int 0]) rfl rfl rfl rfl ?_
  refine iv_aload_0 dX4_init_12 ?_
  refine iv_bipush 7 dX4_init_13 rfl ?_
  refine iv_newa .int E.2.2.1 7 dX4_init_15 rfl aw_int List.mem_cons_self (fun _ _ h => h) (fun _ => rfl) (by decide) (by decide) (by decide) (by decide) (by decide) (fun q2 => ?_)
  refine iv_put dX4_init_17 fi_X4_15 (fs' := [.ref q1, .ref q2, .null, .null, .null, .null, .null, .int 0, .int 0, .int 0, .int 0, .int 0]) rfl rfl rfl rfl ?_
  refine iv_aload_0 dX4_init_20 ?_
  refine iv_bipush 7 dX4_init_21 rfl ?_
  refine iv_newa .int E.2.2.1 7 dX4_init_23 rfl aw_int List.mem_cons_self (fun _ _ h => h) (fun _ => rfl) (by decide) (by decide) (by decide) (by decide) (by decide) (fun q3 => ?_)
  refine iv_put dX4_init_25 fi_X4_18 (fs' := [.ref q1, .ref q2, .ref q3, .null, .null, .null, .null, .int 0, .int 0, .int 0, .int 0, .int 0]) rfl rfl rfl rfl ?_
  refine iv_aload_0 dX4_init_28 ?_
  refine iv_bipush 7 dX4_init_29 rfl ?_
  refine iv_newa .int E.2.2.1 7 dX4_init_31 rfl aw_int List.mem_cons_self (fun _ _ h => h) (fun _ => rfl) (by decide) (by decide) (by decide) (by decide) (by decide) (fun q4 => ?_)
  refine iv_put dX4_init_33 fi_X4_21 (fs' := [.ref q1, .ref q2, .ref q3, .ref q4, .null, .null, .null, .int 0, .int 0, .int 0, .int 0, .int 0]) rfl rfl rfl rfl ?_
  refine iv_aload_0 dX4_init_36 ?_
  refine iv_iconst_4 dX4_init_37 ?_
  refine iv_newa .int E.2.2.1 4 dX4_init_38 rfl aw_int List.mem_cons_self (fun _ _ h => h) (fun _ => rfl) (by decide) (by decide) (by decide) (by decide) (by decide) (fun q5 => ?_)
  refine iv_put dX4_init_40 fi_X4_24 (fs' := [.ref q1, .ref q2, .ref q3, .ref q4, .ref q5, .null, .null, .int 0, .int 0, .int 0, .int 0, .int 0]) rfl rfl rfl rfl ?_
  refine iv_aload_0 dX4_init_43 ?_
  refine iv_iconst_4 dX4_init_44 ?_
  refine iv_newa .int E.2.2.1 4 dX4_init_45 rfl aw_int List.mem_cons_self (fun _ _ h => h) (fun _ => rfl) (by decide) (by decide) (by decide) (by decide) (by decide) (fun q6 => ?_)
  refine iv_put dX4_init_47 fi_X4_27 (fs' := [.ref q1, .ref q2, .ref q3, .ref q4, .ref q5, .ref q6, .null, .int 0, .int 0, .int 0, .int 0, .int 0]) rfl rfl rfl rfl ?_
  refine iv_aload_0 dX4_init_50 ?_
  refine iv_iconst_3 dX4_init_51 ?_
  refine iv_newa .int E.2.2.1 3 dX4_init_52 rfl aw_int List.mem_cons_self (fun _ _ h => h) (fun _ => rfl) (by decide) (by decide) (by decide) (by decide) (by decide) (fun q7 => ?_)
  refine iv_put dX4_init_54 fi_X4_30 (fs' := [.ref q1, .ref q2, .ref q3, .ref q4, .ref q5, .ref q6, .ref q7, .int 0, .int 0, .int 0, .int 0, .int 0]) rfl rfl rfl rfl ?_
  refine iv_aload_0 dX4_init_57 ?_
  refine iv_iconst_0 dX4_init_58 ?_
  refine iv_put dX4_init_59 fi_X4_33 (fs' := [.ref q1, .ref q2, .ref q3, .ref q4, .ref q5, .ref q6, .ref q7, .int 0, .int 0, .int 0, .int 0, .int 0]) rfl rfl rfl rfl ?_
  refine iv_aload_0 dX4_init_62 ?_
  refine iv_iconst_0 dX4_init_63 ?_
  refine iv_put dX4_init_64 fi_X4_37 (fs' := [.ref q1, .ref q2, .ref q3, .ref q4, .ref q5, .ref q6, .ref q7, .int 0, .int 0, .int 0, .int 0, .int 0]) rfl rfl rfl rfl ?_
  refine iv_aload_0 dX4_init_67 ?_
  refine iv_iconst_0 dX4_init_68 ?_
  refine iv_put dX4_init_69 fi_X4_40 (fs' := [.ref q1, .ref q2, .ref q3, .ref q4, .ref q5, .ref q6, .ref q7, .int 0, .int 0, .int 0, .int 0, .int 0]) rfl rfl rfl rfl ?_
  refine iv_aload_0 dX4_init_72 ?_
  refine iv_iconst_0 dX4_init_73 ?_
  refine iv_put dX4_init_74 fi_X4_43 (fs' := [.ref q1, .ref q2, .ref q3, .ref q4, .ref q5, .ref q6, .ref q7, .int 0, .int 0, .int 0, .int 0, .int 0]) rfl rfl rfl rfl ?_
  refine iv_aload_0 dX4_init_77 ?_
  refine iv_iconst_0 dX4_init_78 ?_
  refine iv_put dX4_init_79 fi_X4_46 (fs' := [.ref q1, .ref q2, .ref q3, .ref q4, .ref q5, .ref q6, .ref q7, .int 0, .int 0, .int 0, .int 0, .int 0]) rfl rfl rfl rfl ?_
  exact iv_ret dX4_init_82 ⟨fun i => ([h0, q1, q2, q3, q4, q5, q6, q7] : List Nat).getD i 0, rfl, rfl⟩ (by decide) (by decide)
theorem oi_X1 : OI RX1 5 := ⟨x_mem (by decide +kernel) rfl, x_mem (by decide +kernel) rfl, x_mem (by decide +kernel) rfl⟩
theorem fi_X1_11 : FI RX1 11 1 0 (.array .int) := ⟨RX1, TX1, 2, tyX1, rfl, by decide, hin_X1, tyX1_ok, nmX1, rfl, rfl, x_in 197 (by decide +kernel) rfl⟩
theorem fi_X1_15 : FI RX1 15 1 1 .int := ⟨RX1, TX1, 2, tyX1, rfl, by decide, hin_X1, tyX1_ok, nmX1, rfl, rfl, x_in 198 (by decide +kernel) rfl⟩
set_option maxHeartbeats 4000000 in
set_option maxRecDepth 100000 in
theorem i_X1 (E : xE) : Mi E 1 yX1_init cX1_init 1 (fun h => [.ref h]) (.inr (1, [.null, .int 0])) 1 152 (fun h ws => ∃ a : Nat → Nat, a 0 = h ∧ ws = pB E a) := by
  refine Mi.of (as := []) rfl rfl (by decide) (fun h0 => ?_)
  show Iv E _ _ _ _ _ _ _ 0 [some (.ref h0)] [] [(h0, _)] 0 0
  refine iv_aload_0 dX1_init_0 ?_
  refine iv_obj dX1_init_1 oi_X1 ⟨by decide, by decide⟩ ⟨by decide, by decide⟩ ?_
  refine iv_aload_0 dX1_init_4 ?_
  refine iv_sipush 152 dX1_init_5 rfl ?_
  refine iv_newa .int E.2.2.1 152 dX1_init_8 rfl aw_int List.mem_cons_self (fun _ _ h => h) (fun _ => rfl) (by decide) (by decide) (by decide) (by decide) (by decide) (fun q1 => ?_)
  refine iv_put dX1_init_10 fi_X1_11 (fs' := [.ref q1, .int 0]) rfl rfl rfl rfl ?_
  refine iv_aload_0 dX1_init_13 ?_
  refine iv_iconst_0 dX1_init_14 ?_
  refine iv_put dX1_init_15 fi_X1_15 (fs' := [.ref q1, .int 0]) rfl rfl rfl rfl ?_
  exact iv_ret dX1_init_18 ⟨fun i => ([h0, q1] : List Nat).getD i 0, rfl, rfl⟩ (by decide) (by decide)
theorem oi_X0 : OI RX0 1 := ⟨x_mem (by decide +kernel) rfl, x_mem (by decide +kernel) rfl, x_mem (by decide +kernel) rfl⟩
theorem fi_X0_7 : FI RX0 7 0 2 .int := ⟨RX0, TX0, 3, tyX0, rfl, by decide, hin_X0, tyX0_ok, nmX0, rfl, rfl, x_in 217 (by decide +kernel) rfl⟩
theorem fi_X0_19 : FI RX0 19 0 0 .int := ⟨RX0, TX0, 3, tyX0, rfl, by decide, hin_X0, tyX0_ok, nmX0, rfl, rfl, x_in 215 (by decide +kernel) rfl⟩
theorem fi_X0_22 : FI RX0 22 0 1 (.array .int) := ⟨RX0, TX0, 3, tyX0, rfl, by decide, hin_X0, tyX0_ok, nmX0, rfl, rfl, x_in 216 (by decide +kernel) rfl⟩
set_option maxHeartbeats 4000000 in
set_option maxRecDepth 100000 in
theorem i_X0_5 (E : xE) : Mi E 2 yX0_init cX0_init 2 (fun h => [.ref h, .int 5]) (.inr (0, [.int 0, .null, .int 0])) 1 20 (fun h ws => ∃ a : Nat → Nat, a 0 = h ∧ ws = hB E 5 20 a) := by
  refine Mi.of (as := [.int 5]) rfl rfl (by decide) (fun h0 => ?_)
  show Iv E _ _ _ _ _ _ _ 0 [some (.ref h0), some (.int 5)] [] [(h0, _)] 0 0
  refine iv_aload_0 dX0_init_0 ?_
  refine iv_obj dX0_init_1 oi_X0 ⟨by decide, by decide⟩ ⟨by decide, by decide⟩ ?_
  refine iv_aload_0 dX0_init_4 ?_
  refine iv_iconst_0 dX0_init_5 ?_
  refine iv_put dX0_init_6 fi_X0_7 (fs' := [.int 0, .null, .int 0]) rfl rfl rfl rfl ?_
  refine iv_aload_0 dX0_init_9 ?_
  refine iv_iconst_0 dX0_init_10 ?_
  refine iv_iload_1 dX0_init_11 ?_
  refine iv_mmax dX0_init_12 mm_X0_13 ⟨by decide, by decide⟩ (Nat.le_of_ble_eq_true rfl) ⟨by decide, by decide⟩ (z := 5) (by decide) ?_
  refine iv_put dX0_init_15 fi_X0_19 (fs' := [.int 5, .null, .int 0]) rfl rfl rfl rfl ?_
  refine iv_aload_0 dX0_init_18 ?_
  refine iv_aload_0 dX0_init_19 ?_
  refine iv_get dX0_init_20 fk_X0_19 (v := .int 5) rfl ?_
  refine iv_iconst_4 dX0_init_23 ?_
  refine iv_imul dX0_init_24 ?_
  refine Iv.stk (v := .int 20) (by decide) ?_
  refine iv_newa .int E.2.2.1 20 dX0_init_25 rfl aw_int List.mem_cons_self (fun _ _ h => h) (fun _ => rfl) (by decide) (by decide) (by decide) (by decide) (by decide) (fun q1 => ?_)
  refine iv_put dX0_init_27 fi_X0_22 (fs' := [.int 5, .ref q1, .int 0]) rfl rfl rfl rfl ?_
  exact iv_ret dX0_init_30 ⟨fun i => ([h0, q1] : List Nat).getD i 0, rfl, rfl⟩ (by decide) (by decide)
set_option maxHeartbeats 4000000 in
set_option maxRecDepth 100000 in
theorem i_X0_6 (E : xE) : Mi E 2 yX0_init cX0_init 2 (fun h => [.ref h, .int 6]) (.inr (0, [.int 0, .null, .int 0])) 1 24 (fun h ws => ∃ a : Nat → Nat, a 0 = h ∧ ws = hB E 6 24 a) := by
  refine Mi.of (as := [.int 6]) rfl rfl (by decide) (fun h0 => ?_)
  show Iv E _ _ _ _ _ _ _ 0 [some (.ref h0), some (.int 6)] [] [(h0, _)] 0 0
  refine iv_aload_0 dX0_init_0 ?_
  refine iv_obj dX0_init_1 oi_X0 ⟨by decide, by decide⟩ ⟨by decide, by decide⟩ ?_
  refine iv_aload_0 dX0_init_4 ?_
  refine iv_iconst_0 dX0_init_5 ?_
  refine iv_put dX0_init_6 fi_X0_7 (fs' := [.int 0, .null, .int 0]) rfl rfl rfl rfl ?_
  refine iv_aload_0 dX0_init_9 ?_
  refine iv_iconst_0 dX0_init_10 ?_
  refine iv_iload_1 dX0_init_11 ?_
  refine iv_mmax dX0_init_12 mm_X0_13 ⟨by decide, by decide⟩ (Nat.le_of_ble_eq_true rfl) ⟨by decide, by decide⟩ (z := 6) (by decide) ?_
  refine iv_put dX0_init_15 fi_X0_19 (fs' := [.int 6, .null, .int 0]) rfl rfl rfl rfl ?_
  refine iv_aload_0 dX0_init_18 ?_
  refine iv_aload_0 dX0_init_19 ?_
  refine iv_get dX0_init_20 fk_X0_19 (v := .int 6) rfl ?_
  refine iv_iconst_4 dX0_init_23 ?_
  refine iv_imul dX0_init_24 ?_
  refine Iv.stk (v := .int 24) (by decide) ?_
  refine iv_newa .int E.2.2.1 24 dX0_init_25 rfl aw_int List.mem_cons_self (fun _ _ h => h) (fun _ => rfl) (by decide) (by decide) (by decide) (by decide) (by decide) (fun q1 => ?_)
  refine iv_put dX0_init_27 fi_X0_22 (fs' := [.int 6, .ref q1, .int 0]) rfl rfl rfl rfl ?_
  exact iv_ret dX0_init_30 ⟨fun i => ([h0, q1] : List Nat).getD i 0, rfl, rfl⟩ (by decide) (by decide)
theorem oi_X3 : OI RX3 3 := ⟨x_mem (by decide +kernel) rfl, x_mem (by decide +kernel) rfl, x_mem (by decide +kernel) rfl⟩
theorem ni_X3_9 : NI RX3 9 4 [.null, .null, .null, .null, .null, .null, .null, .int 0, .int 0, .int 0, .int 0, .int 0] := ⟨RX4, TX4, 12, tyX4, rfl, hin_X4, tyX4_ok, x_mem (by decide +kernel) rfl, x_mem (by decide +kernel) rfl, x_mem (by decide +kernel) rfl, (fun j hj => by rcases (show j = 0 ∨ j = 1 ∨ j = 2 ∨ j = 3 ∨ j = 4 ∨ j = 5 ∨ j = 6 ∨ j = 7 ∨ j = 8 ∨ j = 9 ∨ j = 10 ∨ j = 11 by omega) with rfl | rfl | rfl | rfl | rfl | rfl | rfl | rfl | rfl | rfl | rfl | rfl <;> rfl), rfl⟩
theorem fi_X3_12 : FI RX3 12 3 0 (.object "PledgeWindow$Town") := ⟨RX3, TX3, 6, tyX3, rfl, by decide, hin_X3, tyX3_ok, nmX3, rfl, rfl, x_in 227 (by decide +kernel) rfl⟩
theorem ni_X3_18 : NI RX3 18 1 [.null, .int 0] := ⟨RX1, TX1, 2, tyX1, rfl, hin_X1, tyX1_ok, x_mem (by decide +kernel) rfl, x_mem (by decide +kernel) rfl, x_mem (by decide +kernel) rfl, (fun j hj => by rcases (show j = 0 ∨ j = 1 by omega) with rfl | rfl <;> rfl), rfl⟩
theorem fi_X3_21 : FI RX3 21 3 1 (.object "PledgeWindow$Past") := ⟨RX3, TX3, 6, tyX3, rfl, by decide, hin_X3, tyX3_ok, nmX3, rfl, rfl, x_in 229 (by decide +kernel) rfl⟩
theorem ni_X3_25 : NI RX3 25 0 [.int 0, .null, .int 0] := ⟨RX0, TX0, 3, tyX0, rfl, hin_X0, tyX0_ok, x_mem (by decide +kernel) rfl, x_mem (by decide +kernel) rfl, x_mem (by decide +kernel) rfl, (fun j hj => by rcases (show j = 0 ∨ j = 1 ∨ j = 2 by omega) with rfl | rfl | rfl <;> rfl), rfl⟩
theorem fi_X3_30 : FI RX3 30 3 2 (.object "PledgeWindow$Hints") := ⟨RX3, TX3, 6, tyX3, rfl, by decide, hin_X3, tyX3_ok, nmX3, rfl, rfl, x_in 231 (by decide +kernel) rfl⟩
theorem fi_X3_34 : FI RX3 34 3 3 (.object "PledgeWindow$Hints") := ⟨RX3, TX3, 6, tyX3, rfl, by decide, hin_X3, tyX3_ok, nmX3, rfl, rfl, x_in 233 (by decide +kernel) rfl⟩
theorem fi_X3_37 : FI RX3 37 3 4 (.object "PledgeWindow$Hints") := ⟨RX3, TX3, 6, tyX3, rfl, by decide, hin_X3, tyX3_ok, nmX3, rfl, rfl, x_in 235 (by decide +kernel) rfl⟩
theorem fi_X3_40 : FI RX3 40 3 5 .boolean := ⟨RX3, TX3, 6, tyX3, rfl, by decide, hin_X3, tyX3_ok, nmX3, rfl, rfl, x_in 237 (by decide +kernel) rfl⟩
set_option maxHeartbeats 4000000 in
set_option maxRecDepth 100000 in
theorem i_X3 (E : xE) : Mi E 3 yX3_init cX3_init 1 (fun h => [.ref h]) (.inr (3, [.null, .null, .null, .null, .null, .int 0])) 16 286 (fun h ws => ∃ a : Nat → Nat, a 0 = h ∧ ws = sB E a) := by
  refine Mi.of (as := []) rfl rfl (by decide) (fun h0 => ?_)
  show Iv E _ _ _ _ _ _ _ 0 [some (.ref h0)] [] [(h0, _)] 0 0
  refine iv_aload_0 dX3_init_0 ?_
  refine iv_obj dX3_init_1 oi_X3 ⟨by decide, by decide⟩ ⟨by decide, by decide⟩ ?_
  refine iv_aload_0 dX3_init_4 ?_
  refine iv_new 12 dX3_init_5 ni_X3_9 rfl (by decide) (by decide) (fun q1 => ?_)
  refine iv_dup dX3_init_8 rfl ?_
  refine iv_ini (As := []) dX3_init_9 ml_X3_11 mt_X4_init rfl (i_X4 E) rfl rfl ⟨by decide, by decide⟩ (Nat.le_of_ble_eq_true rfl) ⟨by decide, by decide⟩ (fun w1 hw1 => ?_)
  obtain ⟨a1, hq, rfl⟩ := hw1
  subst hq
  refine iv_put dX3_init_12 fi_X3_12 (fs' := [.ref (a1 0), .null, .null, .null, .null, .int 0]) rfl rfl rfl rfl ?_
  refine iv_aload_0 dX3_init_15 ?_
  refine iv_new 2 dX3_init_16 ni_X3_18 rfl (by decide) (by decide) (fun q2 => ?_)
  refine iv_dup dX3_init_19 rfl ?_
  refine iv_ini (As := []) dX3_init_20 ml_X3_20 mt_X1_init rfl (i_X1 E) rfl rfl ⟨by decide, by decide⟩ (Nat.le_of_ble_eq_true rfl) ⟨by decide, by decide⟩ (fun w1 hw1 => ?_)
  obtain ⟨a2, hq, rfl⟩ := hw1
  subst hq
  refine iv_put dX3_init_23 fi_X3_21 (fs' := [.ref (a1 0), .ref (a2 0), .null, .null, .null, .int 0]) rfl rfl rfl rfl ?_
  refine iv_aload_0 dX3_init_26 ?_
  refine iv_new 3 dX3_init_27 ni_X3_25 rfl (by decide) (by decide) (fun q3 => ?_)
  refine iv_dup dX3_init_30 rfl ?_
  refine iv_iconst_5 dX3_init_31 ?_
  refine iv_ini (As := [.int 5]) dX3_init_32 ml_X3_27 mt_X0_init rfl (i_X0_5 E) rfl rfl ⟨by decide, by decide⟩ (Nat.le_of_ble_eq_true rfl) ⟨by decide, by decide⟩ (fun w1 hw1 => ?_)
  obtain ⟨a3, hq, rfl⟩ := hw1
  subst hq
  refine iv_put dX3_init_35 fi_X3_30 (fs' := [.ref (a1 0), .ref (a2 0), .ref (a3 0), .null, .null, .int 0]) rfl rfl rfl rfl ?_
  refine iv_aload_0 dX3_init_38 ?_
  refine iv_new 3 dX3_init_39 ni_X3_25 rfl (by decide) (by decide) (fun q4 => ?_)
  refine iv_dup dX3_init_42 rfl ?_
  refine iv_bipush 6 dX3_init_43 rfl ?_
  refine iv_ini (As := [.int 6]) dX3_init_45 ml_X3_27 mt_X0_init rfl (i_X0_6 E) rfl rfl ⟨by decide, by decide⟩ (Nat.le_of_ble_eq_true rfl) ⟨by decide, by decide⟩ (fun w1 hw1 => ?_)
  obtain ⟨a4, hq, rfl⟩ := hw1
  subst hq
  refine iv_put dX3_init_48 fi_X3_34 (fs' := [.ref (a1 0), .ref (a2 0), .ref (a3 0), .ref (a4 0), .null, .int 0]) rfl rfl rfl rfl ?_
  refine iv_aload_0 dX3_init_51 ?_
  refine iv_new 3 dX3_init_52 ni_X3_25 rfl (by decide) (by decide) (fun q5 => ?_)
  refine iv_dup dX3_init_55 rfl ?_
  refine iv_bipush 6 dX3_init_56 rfl ?_
  refine iv_ini (As := [.int 6]) dX3_init_58 ml_X3_27 mt_X0_init rfl (i_X0_6 E) rfl rfl ⟨by decide, by decide⟩ (Nat.le_of_ble_eq_true rfl) ⟨by decide, by decide⟩ (fun w1 hw1 => ?_)
  obtain ⟨a5, hq, rfl⟩ := hw1
  subst hq
  refine iv_put dX3_init_61 fi_X3_37 (fs' := [.ref (a1 0), .ref (a2 0), .ref (a3 0), .ref (a4 0), .ref (a5 0), .int 0]) rfl rfl rfl rfl ?_
  refine iv_aload_0 dX3_init_64 ?_
  refine iv_iconst_0 dX3_init_65 ?_
  refine iv_put dX3_init_66 fi_X3_40 (fs' := [.ref (a1 0), .ref (a2 0), .ref (a3 0), .ref (a4 0), .ref (a5 0), .int 0]) rfl rfl rfl rfl ?_
  exact iv_ret dX3_init_69 ⟨fun i => ([h0, a1 0, a1 1, a1 2, a1 3, a1 4, a1 5, a1 6, a1 7, a2 0, a2 1, a3 0, a3 1, a4 0, a4 1, a5 0, a5 1] : List Nat).getD i 0, rfl, rfl⟩ (by decide) (by decide)
theorem oi_X2 : OI RX2 3 := ⟨x_mem (by decide +kernel) rfl, x_mem (by decide +kernel) rfl, x_mem (by decide +kernel) rfl⟩
theorem fi_X2_9 : FI RX2 9 2 0 (.array .int) := ⟨RX2, TX2, 9, tyX2, rfl, by decide, hin_X2, tyX2_ok, nmX2, rfl, rfl, x_in 260 (by decide +kernel) rfl⟩
theorem ni_X2_15 : NI RX2 15 4 [.null, .null, .null, .null, .null, .null, .null, .int 0, .int 0, .int 0, .int 0, .int 0] := ⟨RX4, TX4, 12, tyX4, rfl, hin_X4, tyX4_ok, x_mem (by decide +kernel) rfl, x_mem (by decide +kernel) rfl, x_mem (by decide +kernel) rfl, (fun j hj => by rcases (show j = 0 ∨ j = 1 ∨ j = 2 ∨ j = 3 ∨ j = 4 ∨ j = 5 ∨ j = 6 ∨ j = 7 ∨ j = 8 ∨ j = 9 ∨ j = 10 ∨ j = 11 by omega) with rfl | rfl | rfl | rfl | rfl | rfl | rfl | rfl | rfl | rfl | rfl | rfl <;> rfl), rfl⟩
theorem fi_X2_18 : FI RX2 18 2 1 (.object "PledgeWindow$Town") := ⟨RX2, TX2, 9, tyX2, rfl, by decide, hin_X2, tyX2_ok, nmX2, rfl, rfl, x_in 262 (by decide +kernel) rfl⟩
theorem fi_X2_22 : FI RX2 22 2 2 .int := ⟨RX2, TX2, 9, tyX2, rfl, by decide, hin_X2, tyX2_ok, nmX2, rfl, rfl, x_in 264 (by decide +kernel) rfl⟩
theorem fi_X2_26 : FI RX2 26 2 3 .int := ⟨RX2, TX2, 9, tyX2, rfl, by decide, hin_X2, tyX2_ok, nmX2, rfl, rfl, x_in 266 (by decide +kernel) rfl⟩
theorem fi_X2_29 : FI RX2 29 2 4 .int := ⟨RX2, TX2, 9, tyX2, rfl, by decide, hin_X2, tyX2_ok, nmX2, rfl, rfl, x_in 268 (by decide +kernel) rfl⟩
theorem fi_X2_32 : FI RX2 32 2 5 .int := ⟨RX2, TX2, 9, tyX2, rfl, by decide, hin_X2, tyX2_ok, nmX2, rfl, rfl, x_in 270 (by decide +kernel) rfl⟩
theorem fi_X2_35 : FI RX2 35 2 6 .int := ⟨RX2, TX2, 9, tyX2, rfl, by decide, hin_X2, tyX2_ok, nmX2, rfl, rfl, x_in 271 (by decide +kernel) rfl⟩
theorem fi_X2_38 : FI RX2 38 2 7 .int := ⟨RX2, TX2, 9, tyX2, rfl, by decide, hin_X2, tyX2_ok, nmX2, rfl, rfl, x_in 272 (by decide +kernel) rfl⟩
theorem fi_X2_41 : FI RX2 41 2 8 .int := ⟨RX2, TX2, 9, tyX2, rfl, by decide, hin_X2, tyX2_ok, nmX2, rfl, rfl, x_in 273 (by decide +kernel) rfl⟩
set_option maxHeartbeats 4000000 in
set_option maxRecDepth 100000 in
theorem i_X2 (E : xE) : Mi E 2 yX2_init cX2_init 1 (fun h => [.ref h]) (.inr (2, [.null, .null, .int 0, .int 0, .int 0, .int 0, .int 0, .int 0, .int 0])) 9 201 (fun h ws => ∃ a : Nat → Nat, a 0 = h ∧ ws = rB E a) := by
  refine Mi.of (as := []) rfl rfl (by decide) (fun h0 => ?_)
  show Iv E _ _ _ _ _ _ _ 0 [some (.ref h0)] [] [(h0, _)] 0 0
  refine iv_aload_0 dX2_init_0 ?_
  refine iv_obj dX2_init_1 oi_X2 ⟨by decide, by decide⟩ ⟨by decide, by decide⟩ ?_
  refine iv_aload_0 dX2_init_4 ?_
  refine iv_sipush 150 dX2_init_5 rfl ?_
  refine iv_newa .int E.2.2.1 150 dX2_init_8 rfl aw_int List.mem_cons_self (fun _ _ h => h) (fun _ => rfl) (by decide) (by decide) (by decide) (by decide) (by decide) (fun q1 => ?_)
  refine iv_put dX2_init_10 fi_X2_9 (fs' := [.ref q1, .null, .int 0, .int 0, .int 0, .int 0, .int 0, .int 0, .int 0]) rfl rfl rfl rfl ?_
  refine iv_aload_0 dX2_init_13 ?_
  refine iv_new 12 dX2_init_14 ni_X2_15 rfl (by decide) (by decide) (fun q2 => ?_)
  refine iv_dup dX2_init_17 rfl ?_
  refine iv_ini (As := []) dX2_init_18 ml_X2_17 mt_X4_init rfl (i_X4 E) rfl rfl ⟨by decide, by decide⟩ (Nat.le_of_ble_eq_true rfl) ⟨by decide, by decide⟩ (fun w1 hw1 => ?_)
  obtain ⟨a2, hq, rfl⟩ := hw1
  subst hq
  refine iv_put dX2_init_21 fi_X2_18 (fs' := [.ref q1, .ref (a2 0), .int 0, .int 0, .int 0, .int 0, .int 0, .int 0, .int 0]) rfl rfl rfl rfl ?_
  refine iv_aload_0 dX2_init_24 ?_
  refine iv_iconst_0 dX2_init_25 ?_
  refine iv_put dX2_init_26 fi_X2_22 (fs' := [.ref q1, .ref (a2 0), .int 0, .int 0, .int 0, .int 0, .int 0, .int 0, .int 0]) rfl rfl rfl rfl ?_
  refine iv_aload_0 dX2_init_29 ?_
  refine iv_iconst_m1 dX2_init_30 ?_
  refine iv_put dX2_init_31 fi_X2_26 (fs' := [.ref q1, .ref (a2 0), .int 0, .int (-1), .int 0, .int 0, .int 0, .int 0, .int 0]) rfl rfl rfl rfl ?_
  refine iv_aload_0 dX2_init_34 ?_
  refine iv_iconst_0 dX2_init_35 ?_
  refine iv_put dX2_init_36 fi_X2_29 (fs' := [.ref q1, .ref (a2 0), .int 0, .int (-1), .int 0, .int 0, .int 0, .int 0, .int 0]) rfl rfl rfl rfl ?_
  refine iv_aload_0 dX2_init_39 ?_
  refine iv_iconst_0 dX2_init_40 ?_
  refine iv_put dX2_init_41 fi_X2_32 (fs' := [.ref q1, .ref (a2 0), .int 0, .int (-1), .int 0, .int 0, .int 0, .int 0, .int 0]) rfl rfl rfl rfl ?_
  refine iv_aload_0 dX2_init_44 ?_
  refine iv_iconst_0 dX2_init_45 ?_
  refine iv_put dX2_init_46 fi_X2_35 (fs' := [.ref q1, .ref (a2 0), .int 0, .int (-1), .int 0, .int 0, .int 0, .int 0, .int 0]) rfl rfl rfl rfl ?_
  refine iv_aload_0 dX2_init_49 ?_
  refine iv_iconst_0 dX2_init_50 ?_
  refine iv_put dX2_init_51 fi_X2_38 (fs' := [.ref q1, .ref (a2 0), .int 0, .int (-1), .int 0, .int 0, .int 0, .int 0, .int 0]) rfl rfl rfl rfl ?_
  refine iv_aload_0 dX2_init_54 ?_
  refine iv_iconst_0 dX2_init_55 ?_
  refine iv_put dX2_init_56 fi_X2_41 (fs' := [.ref q1, .ref (a2 0), .int 0, .int (-1), .int 0, .int 0, .int 0, .int 0, .int 0]) rfl rfl rfl rfl ?_
  exact iv_ret dX2_init_59 ⟨fun i => ([h0, q1, a2 0, a2 1, a2 2, a2 3, a2 4, a2 5, a2 6, a2 7] : List Nat).getD i 0, rfl, rfl⟩ (by decide) (by decide)
theorem oi_X5 : OI RX5 1 := ⟨x_mem (by decide +kernel) rfl, x_mem (by decide +kernel) rfl, x_mem (by decide +kernel) rfl⟩
theorem ni_X5_7 : NI RX5 7 3 [.null, .null, .null, .null, .null, .int 0] := ⟨RX3, TX3, 6, tyX3, rfl, hin_X3, tyX3_ok, x_mem (by decide +kernel) rfl, x_mem (by decide +kernel) rfl, x_mem (by decide +kernel) rfl, (fun j hj => by rcases (show j = 0 ∨ j = 1 ∨ j = 2 ∨ j = 3 ∨ j = 4 ∨ j = 5 by omega) with rfl | rfl | rfl | rfl | rfl | rfl <;> rfl), rfl⟩
theorem fi_X5_10 : FI RX5 10 5 0 (.object "PledgeWindow$Shop") := ⟨RX5, TX5, 13, tyX5, rfl, by decide, hin_X5, tyX5_ok, nmX5, rfl, rfl, x_in 295 (by decide +kernel) rfl⟩
theorem fi_X5_16 : FI RX5 16 5 1 (.object "PledgeWindow$Shop") := ⟨RX5, TX5, 13, tyX5, rfl, by decide, hin_X5, tyX5_ok, nmX5, rfl, rfl, x_in 296 (by decide +kernel) rfl⟩
theorem fi_X5_19 : FI RX5 19 5 2 (.object "PledgeWindow$Shop") := ⟨RX5, TX5, 13, tyX5, rfl, by decide, hin_X5, tyX5_ok, nmX5, rfl, rfl, x_in 297 (by decide +kernel) rfl⟩
theorem ni_X5_22 : NI RX5 22 2 [.null, .null, .int 0, .int 0, .int 0, .int 0, .int 0, .int 0, .int 0] := ⟨RX2, TX2, 9, tyX2, rfl, hin_X2, tyX2_ok, x_mem (by decide +kernel) rfl, x_mem (by decide +kernel) rfl, x_mem (by decide +kernel) rfl, (fun j hj => by rcases (show j = 0 ∨ j = 1 ∨ j = 2 ∨ j = 3 ∨ j = 4 ∨ j = 5 ∨ j = 6 ∨ j = 7 ∨ j = 8 by omega) with rfl | rfl | rfl | rfl | rfl | rfl | rfl | rfl | rfl <;> rfl), rfl⟩
theorem fi_X5_25 : FI RX5 25 5 3 (.object "PledgeWindow$Reader") := ⟨RX5, TX5, 13, tyX5, rfl, by decide, hin_X5, tyX5_ok, nmX5, rfl, rfl, x_in 298 (by decide +kernel) rfl⟩
theorem ni_X5_29 : NI RX5 29 4 [.null, .null, .null, .null, .null, .null, .null, .int 0, .int 0, .int 0, .int 0, .int 0] := ⟨RX4, TX4, 12, tyX4, rfl, hin_X4, tyX4_ok, x_mem (by decide +kernel) rfl, x_mem (by decide +kernel) rfl, x_mem (by decide +kernel) rfl, (fun j hj => by rcases (show j = 0 ∨ j = 1 ∨ j = 2 ∨ j = 3 ∨ j = 4 ∨ j = 5 ∨ j = 6 ∨ j = 7 ∨ j = 8 ∨ j = 9 ∨ j = 10 ∨ j = 11 by omega) with rfl | rfl | rfl | rfl | rfl | rfl | rfl | rfl | rfl | rfl | rfl | rfl <;> rfl), rfl⟩
theorem fi_X5_32 : FI RX5 32 5 4 (.object "PledgeWindow$Town") := ⟨RX5, TX5, 13, tyX5, rfl, by decide, hin_X5, tyX5_ok, nmX5, rfl, rfl, x_in 299 (by decide +kernel) rfl⟩
theorem fi_X5_36 : FI RX5 36 5 5 (.array .int) := ⟨RX5, TX5, 13, tyX5, rfl, by decide, hin_X5, tyX5_ok, nmX5, rfl, rfl, x_in 300 (by decide +kernel) rfl⟩
theorem fi_X5_40 : FI RX5 40 5 6 (.array .int) := ⟨RX5, TX5, 13, tyX5, rfl, by decide, hin_X5, tyX5_ok, nmX5, rfl, rfl, x_in 301 (by decide +kernel) rfl⟩
theorem fi_X5_43 : FI RX5 43 5 7 (.array .int) := ⟨RX5, TX5, 13, tyX5, rfl, by decide, hin_X5, tyX5_ok, nmX5, rfl, rfl, x_in 302 (by decide +kernel) rfl⟩
theorem fi_X5_46 : FI RX5 46 5 8 .long := ⟨RX5, TX5, 13, tyX5, rfl, by decide, hin_X5, tyX5_ok, nmX5, rfl, rfl, x_in 303 (by decide +kernel) rfl⟩
theorem fi_X5_50 : FI RX5 50 5 9 .long := ⟨RX5, TX5, 13, tyX5, rfl, by decide, hin_X5, tyX5_ok, nmX5, rfl, rfl, x_in 304 (by decide +kernel) rfl⟩
theorem fi_X5_53 : FI RX5 53 5 10 .int := ⟨RX5, TX5, 13, tyX5, rfl, by decide, hin_X5, tyX5_ok, nmX5, rfl, rfl, x_in 305 (by decide +kernel) rfl⟩
theorem fi_X5_57 : FI RX5 57 5 11 .int := ⟨RX5, TX5, 13, tyX5, rfl, by decide, hin_X5, tyX5_ok, nmX5, rfl, rfl, x_in 306 (by decide +kernel) rfl⟩
theorem fi_X5_60 : FI RX5 60 5 12 .int := ⟨RX5, TX5, 13, tyX5, rfl, by decide, hin_X5, tyX5_ok, nmX5, rfl, rfl, x_in 307 (by decide +kernel) rfl⟩
set_option maxHeartbeats 4000000 in
set_option maxRecDepth 100000 in
theorem i_X5 (E : xE) : Mi E 4 yX5_init cX5_init 1 (fun h => [.ref h]) (.inr (5, [.null, .null, .null, .null, .null, .null, .null, .null, .long 0, .long 0, .int 0, .int 0, .int 0])) 72 1179 (fun h ws => ∃ a : Nat → Nat, a 0 = h ∧ ws = wB E a) := by
  refine Mi.of (as := []) rfl rfl (by decide) (fun h0 => ?_)
  show Iv E _ _ _ _ _ _ _ 0 [some (.ref h0)] [] [(h0, _)] 0 0
  refine iv_aload_0 dX5_init_0 ?_
  refine iv_obj dX5_init_1 oi_X5 ⟨by decide, by decide⟩ ⟨by decide, by decide⟩ ?_
  refine iv_aload_0 dX5_init_4 ?_
  refine iv_new 6 dX5_init_5 ni_X5_7 rfl (by decide) (by decide) (fun q1 => ?_)
  refine iv_dup dX5_init_8 rfl ?_
  refine iv_ini (As := []) dX5_init_9 ml_X5_9 mt_X3_init rfl (i_X3 E) rfl rfl ⟨by decide, by decide⟩ (Nat.le_of_ble_eq_true rfl) ⟨by decide, by decide⟩ (fun w1 hw1 => ?_)
  obtain ⟨a1, hq, rfl⟩ := hw1
  subst hq
  refine iv_put dX5_init_12 fi_X5_10 (fs' := [.ref (a1 0), .null, .null, .null, .null, .null, .null, .null, .long 0, .long 0, .int 0, .int 0, .int 0]) rfl rfl rfl rfl ?_
  refine iv_aload_0 dX5_init_15 ?_
  refine iv_new 6 dX5_init_16 ni_X5_7 rfl (by decide) (by decide) (fun q2 => ?_)
  refine iv_dup dX5_init_19 rfl ?_
  refine iv_ini (As := []) dX5_init_20 ml_X5_9 mt_X3_init rfl (i_X3 E) rfl rfl ⟨by decide, by decide⟩ (Nat.le_of_ble_eq_true rfl) ⟨by decide, by decide⟩ (fun w1 hw1 => ?_)
  obtain ⟨a2, hq, rfl⟩ := hw1
  subst hq
  refine iv_put dX5_init_23 fi_X5_16 (fs' := [.ref (a1 0), .ref (a2 0), .null, .null, .null, .null, .null, .null, .long 0, .long 0, .int 0, .int 0, .int 0]) rfl rfl rfl rfl ?_
  refine iv_aload_0 dX5_init_26 ?_
  refine iv_new 6 dX5_init_27 ni_X5_7 rfl (by decide) (by decide) (fun q3 => ?_)
  refine iv_dup dX5_init_30 rfl ?_
  refine iv_ini (As := []) dX5_init_31 ml_X5_9 mt_X3_init rfl (i_X3 E) rfl rfl ⟨by decide, by decide⟩ (Nat.le_of_ble_eq_true rfl) ⟨by decide, by decide⟩ (fun w1 hw1 => ?_)
  obtain ⟨a3, hq, rfl⟩ := hw1
  subst hq
  refine iv_put dX5_init_34 fi_X5_19 (fs' := [.ref (a1 0), .ref (a2 0), .ref (a3 0), .null, .null, .null, .null, .null, .long 0, .long 0, .int 0, .int 0, .int 0]) rfl rfl rfl rfl ?_
  refine iv_aload_0 dX5_init_37 ?_
  refine iv_new 9 dX5_init_38 ni_X5_22 rfl (by decide) (by decide) (fun q4 => ?_)
  refine iv_dup dX5_init_41 rfl ?_
  refine iv_ini (As := []) dX5_init_42 ml_X5_24 mt_X2_init rfl (i_X2 E) rfl rfl ⟨by decide, by decide⟩ (Nat.le_of_ble_eq_true rfl) ⟨by decide, by decide⟩ (fun w1 hw1 => ?_)
  obtain ⟨a4, hq, rfl⟩ := hw1
  subst hq
  refine iv_put dX5_init_45 fi_X5_25 (fs' := [.ref (a1 0), .ref (a2 0), .ref (a3 0), .ref (a4 0), .null, .null, .null, .null, .long 0, .long 0, .int 0, .int 0, .int 0]) rfl rfl rfl rfl ?_
  refine iv_aload_0 dX5_init_48 ?_
  refine iv_new 12 dX5_init_49 ni_X5_29 rfl (by decide) (by decide) (fun q5 => ?_)
  refine iv_dup dX5_init_52 rfl ?_
  refine iv_ini (As := []) dX5_init_53 ml_X5_31 mt_X4_init rfl (i_X4 E) rfl rfl ⟨by decide, by decide⟩ (Nat.le_of_ble_eq_true rfl) ⟨by decide, by decide⟩ (fun w1 hw1 => ?_)
  obtain ⟨a5, hq, rfl⟩ := hw1
  subst hq
  refine iv_put dX5_init_56 fi_X5_32 (fs' := [.ref (a1 0), .ref (a2 0), .ref (a3 0), .ref (a4 0), .ref (a5 0), .null, .null, .null, .long 0, .long 0, .int 0, .int 0, .int 0]) rfl rfl rfl rfl ?_
  refine iv_aload_0 dX5_init_59 ?_
  refine iv_bipush 28 dX5_init_60 rfl ?_
  refine iv_newa .int E.2.2.1 28 dX5_init_62 rfl aw_int List.mem_cons_self (fun _ _ h => h) (fun _ => rfl) (by decide) (by decide) (by decide) (by decide) (by decide) (fun q6 => ?_)
  refine iv_put dX5_init_64 fi_X5_36 (fs' := [.ref (a1 0), .ref (a2 0), .ref (a3 0), .ref (a4 0), .ref (a5 0), .ref q6, .null, .null, .long 0, .long 0, .int 0, .int 0, .int 0]) rfl rfl rfl rfl ?_
  refine iv_aload_0 dX5_init_67 ?_
  refine iv_bipush 7 dX5_init_68 rfl ?_
  refine iv_newa .int E.2.2.1 7 dX5_init_70 rfl aw_int List.mem_cons_self (fun _ _ h => h) (fun _ => rfl) (by decide) (by decide) (by decide) (by decide) (by decide) (fun q7 => ?_)
  refine iv_put dX5_init_72 fi_X5_40 (fs' := [.ref (a1 0), .ref (a2 0), .ref (a3 0), .ref (a4 0), .ref (a5 0), .ref q6, .ref q7, .null, .long 0, .long 0, .int 0, .int 0, .int 0]) rfl rfl rfl rfl ?_
  refine iv_aload_0 dX5_init_75 ?_
  refine iv_bipush 7 dX5_init_76 rfl ?_
  refine iv_newa .int E.2.2.1 7 dX5_init_78 rfl aw_int List.mem_cons_self (fun _ _ h => h) (fun _ => rfl) (by decide) (by decide) (by decide) (by decide) (by decide) (fun q8 => ?_)
  refine iv_put dX5_init_80 fi_X5_43 (fs' := [.ref (a1 0), .ref (a2 0), .ref (a3 0), .ref (a4 0), .ref (a5 0), .ref q6, .ref q7, .ref q8, .long 0, .long 0, .int 0, .int 0, .int 0]) rfl rfl rfl rfl ?_
  refine iv_aload_0 dX5_init_83 ?_
  refine iv_lconst_0 dX5_init_84 ?_
  refine iv_put dX5_init_85 fi_X5_46 (fs' := [.ref (a1 0), .ref (a2 0), .ref (a3 0), .ref (a4 0), .ref (a5 0), .ref q6, .ref q7, .ref q8, .long 0, .long 0, .int 0, .int 0, .int 0]) rfl rfl rfl rfl ?_
  refine iv_aload_0 dX5_init_88 ?_
  refine iv_lconst_1 dX5_init_89 ?_
  refine iv_put dX5_init_90 fi_X5_50 (fs' := [.ref (a1 0), .ref (a2 0), .ref (a3 0), .ref (a4 0), .ref (a5 0), .ref q6, .ref q7, .ref q8, .long 0, .long 1, .int 0, .int 0, .int 0]) rfl rfl rfl rfl ?_
  refine iv_aload_0 dX5_init_93 ?_
  refine iv_iconst_0 dX5_init_94 ?_
  refine iv_put dX5_init_95 fi_X5_53 (fs' := [.ref (a1 0), .ref (a2 0), .ref (a3 0), .ref (a4 0), .ref (a5 0), .ref q6, .ref q7, .ref q8, .long 0, .long 1, .int 0, .int 0, .int 0]) rfl rfl rfl rfl ?_
  refine iv_aload_0 dX5_init_98 ?_
  refine iv_iconst_0 dX5_init_99 ?_
  refine iv_put dX5_init_100 fi_X5_57 (fs' := [.ref (a1 0), .ref (a2 0), .ref (a3 0), .ref (a4 0), .ref (a5 0), .ref q6, .ref q7, .ref q8, .long 0, .long 1, .int 0, .int 0, .int 0]) rfl rfl rfl rfl ?_
  refine iv_aload_0 dX5_init_103 ?_
  refine iv_iconst_0 dX5_init_104 ?_
  refine iv_put dX5_init_105 fi_X5_60 (fs' := [.ref (a1 0), .ref (a2 0), .ref (a3 0), .ref (a4 0), .ref (a5 0), .ref q6, .ref q7, .ref q8, .long 0, .long 1, .int 0, .int 0, .int 0]) rfl rfl rfl rfl ?_
  exact iv_ret dX5_init_108 ⟨fun i => ([h0, a1 0, a1 1, a1 2, a1 3, a1 4, a1 5, a1 6, a1 7, a1 8, a1 9, a1 10, a1 11, a1 12, a1 13, a1 14, a1 15, a1 16, a2 0, a2 1, a2 2, a2 3, a2 4, a2 5, a2 6, a2 7, a2 8, a2 9, a2 10, a2 11, a2 12, a2 13, a2 14, a2 15, a2 16, a3 0, a3 1, a3 2, a3 3, a3 4, a3 5, a3 6, a3 7, a3 8, a3 9, a3 10, a3 11, a3 12, a3 13, a3 14, a3 15, a3 16, a4 0, a4 1, a4 2, a4 3, a4 4, a4 5, a4 6, a4 7, a4 8, a4 9, a5 0, a5 1, a5 2, a5 3, a5 4, a5 5, a5 6, a5 7, q6, q7, q8] : List Nat).getD i 0, rfl, rfl⟩ (by decide) (by decide)
