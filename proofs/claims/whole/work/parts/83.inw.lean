/-! ===== THE CONSTRUCTORS: what they make ===== -/
def zI (E : xE) (n : Nat) : va_E := .inl (E.2.2.1, (n, .inl fun _ => 0))
def zB (E : xE) (n : Nat) : va_E := .inl (E.2.2.2, (n, .inl fun _ => 0))
def tB (E : xE) (a : Nat → Nat) : va_W := [(a 0, .inr (4, [.ref (a 1), .ref (a 2), .ref (a 3), .ref (a 4), .ref (a 5), .ref (a 6), .ref (a 7), .int 0, .int 0, .int 0, .int 0, .int 0])), (a 1, zI E 7), (a 2, zI E 7), (a 3, zI E 7), (a 4, zI E 7), (a 5, zI E 4), (a 6, zI E 4), (a 7, zI E 3)]
def pB (E : xE) (a : Nat → Nat) : va_W := [(a 0, .inr (1, [.ref (a 1), .int 0])), (a 1, zI E 152)]
def hB (E : xE) (n : Int32) (N : Nat) (a : Nat → Nat) : va_W := [(a 0, .inr (0, [.int n, .ref (a 1), .int 0])), (a 1, zI E N)]
def sB (E : xE) (a : Nat → Nat) : va_W := (a 0, .inr (3, [.ref (a 1), .ref (a 9), .ref (a 11), .ref (a 13), .ref (a 15), .int 0])) :: (tB E (fun i => a (1 + i)) ++ pB E (fun i => a (9 + i)) ++ hB E 5 20 (fun i => a (11 + i)) ++ hB E 6 24 (fun i => a (13 + i)) ++ hB E 6 24 (fun i => a (15 + i)))
def rB (E : xE) (a : Nat → Nat) : va_W := (a 0, .inr (2, [.ref (a 1), .ref (a 2), .int 0, .int (-1), .int 0, .int 0, .int 0, .int 0, .int 0])) :: ([(a 1, zI E 150)] ++ tB E (fun i => a (2 + i)))
def wB (E : xE) (a : Nat → Nat) : va_W := (a 0, .inr (5, [.ref (a 1), .ref (a 18), .ref (a 35), .ref (a 52), .ref (a 62), .ref (a 70), .ref (a 71), .ref (a 72), .long 0, .long 1, .int 0, .int 0, .int 0])) :: (sB E (fun i => a (1 + i)) ++ sB E (fun i => a (18 + i)) ++ sB E (fun i => a (35 + i)) ++ rB E (fun i => a (52 + i)) ++ tB E (fun i => a (62 + i)) ++ [(a 70, zI E 28)] ++ [(a 71, zI E 7)] ++ [(a 72, zI E 7)])
def mB (E : xE) (a : Nat → Nat) : va_W := [(a 0, .inr (6, [.ref (a 1), .ref (a 2), .ref (a 3), .ref (a 4), .long 0, .long 1, .ref (a 5), .ref (a 6), .ref (a 7), .ref (a 8), .ref (a 9), .int 0, .int 0, .int 0, .int 0, .int 0, .ref (a 10), .ref (a 11)])), (a 1, zI E 258), (a 2, zI E 516), (a 3, zB E 2), (a 4, zI E 3), (a 5, zI E 4), (a 6, zI E 4), (a 7, zI E 7), (a 8, zI E 48), (a 9, zI E 150), (a 10, zI E 106), (a 11, zI E 2)]
theorem x_mem {w : Cond} (h : w ∈ lw_tbl) (hg : goodWord w = true) : w ∈ xtbl := List.mem_filter.mpr ⟨h, hg⟩
theorem aw_int : Cond.arrayClass .int ∈ xtbl := x_mem (by decide +kernel) rfl
theorem aw_bool : Cond.arrayClass .boolean ∈ xtbl := x_mem (by decide +kernel) rfl

theorem Iv.stk {E : xE} {R : Room} {own : String} {cc : ByteArray} {nL : Nat} {F : va_W → Prop} {mc ms pc : Nat} {l : xL} {st : List Value} {ws : va_W} {cells slots : Nat} {u v : Value} (h : u = v) (k : Iv E R own cc nL F mc ms pc l (v :: st) ws cells slots) : Iv E R own cc nL F mc ms pc l (u :: st) ws cells slots := h ▸ k
theorem oi_X4 : OI RX4 3 := ⟨x_mem (by decide +kernel) rfl, x_mem (by decide +kernel) rfl, x_mem (by decide +kernel) rfl⟩
theorem fi_X4_9 : FI RX4 9 4 0 (.array .int) := ⟨RX4, TX4, 12, tyX4, rfl, by decide, hin_X4, tyX4_ok, nmX4, rfl, rfl, x_in 133 (by decide +kernel) rfl⟩
theorem fi_X4_15 : FI RX4 15 4 1 (.array .int) := ⟨RX4, TX4, 12, tyX4, rfl, by decide, hin_X4, tyX4_ok, nmX4, rfl, rfl, x_in 135 (by decide +kernel) rfl⟩
theorem fi_X4_18 : FI RX4 18 4 2 (.array .int) := ⟨RX4, TX4, 12, tyX4, rfl, by decide, hin_X4, tyX4_ok, nmX4, rfl, rfl, x_in 137 (by decide +kernel) rfl⟩
theorem fi_X4_21 : FI RX4 21 4 3 (.array .int) := ⟨RX4, TX4, 12, tyX4, rfl, by decide, hin_X4, tyX4_ok, nmX4, rfl, rfl, x_in 140 (by decide +kernel) rfl⟩
theorem fi_X4_24 : FI RX4 24 4 4 (.array .int) := ⟨RX4, TX4, 12, tyX4, rfl, by decide, hin_X4, tyX4_ok, nmX4, rfl, rfl, x_in 143 (by decide +kernel) rfl⟩
theorem fi_X4_27 : FI RX4 27 4 5 (.array .int) := ⟨RX4, TX4, 12, tyX4, rfl, by decide, hin_X4, tyX4_ok, nmX4, rfl, rfl, x_in 145 (by decide +kernel) rfl⟩
theorem fi_X4_30 : FI RX4 30 4 6 (.array .int) := ⟨RX4, TX4, 12, tyX4, rfl, by decide, hin_X4, tyX4_ok, nmX4, rfl, rfl, x_in 147 (by decide +kernel) rfl⟩
theorem fi_X4_33 : FI RX4 33 4 7 .int := ⟨RX4, TX4, 12, tyX4, rfl, by decide, hin_X4, tyX4_ok, nmX4, rfl, rfl, x_in 150 (by decide +kernel) rfl⟩
theorem fi_X4_37 : FI RX4 37 4 8 .int := ⟨RX4, TX4, 12, tyX4, rfl, by decide, hin_X4, tyX4_ok, nmX4, rfl, rfl, x_in 153 (by decide +kernel) rfl⟩
theorem fi_X4_40 : FI RX4 40 4 9 .int := ⟨RX4, TX4, 12, tyX4, rfl, by decide, hin_X4, tyX4_ok, nmX4, rfl, rfl, x_in 156 (by decide +kernel) rfl⟩
theorem fi_X4_43 : FI RX4 43 4 10 .int := ⟨RX4, TX4, 12, tyX4, rfl, by decide, hin_X4, tyX4_ok, nmX4, rfl, rfl, x_in 159 (by decide +kernel) rfl⟩
theorem fi_X4_46 : FI RX4 46 4 11 .int := ⟨RX4, TX4, 12, tyX4, rfl, by decide, hin_X4, tyX4_ok, nmX4, rfl, rfl, x_in 162 (by decide +kernel) rfl⟩
set_option maxHeartbeats 4000000 in
set_option maxRecDepth 100000 in
theorem i_X4 (E : xE) : Mi E 1 yX4_init cX4_init 1 (fun h => [.ref h]) (.inr (4, [.null, .null, .null, .null, .null, .null, .null, .int 0, .int 0, .int 0, .int 0, .int 0])) 7 39 (fun h ws => ∃ a : Nat → Nat, a 0 = h ∧ ws = tB E a) := by
  refine Mi.of (as := []) rfl rfl (by decide) (fun h0 => ?_)
  show Iv E _ _ _ _ _ _ _ 0 [some (.ref h0)] [] [(h0, _)] 0 0
  refine iv_aload_0 dX4_init_0 ?_
  refine iv_obj dX4_init_1 oi_X4 ⟨by decide, by decide⟩ ⟨by decide, by decide⟩ ?_
  refine iv_aload_0 dX4_init_4 ?_
  refine iv_bipush 7 dX4_init_5 rfl ?_
  refine iv_newa .int E.2.2.1 7 dX4_init_7 rfl aw_int List.mem_cons_self (fun _ _ h => h) (fun _ => rfl) (by decide) (by decide) (by decide) (by decide) (by decide) (fun q1 => ?_)
  refine iv_put dX4_init_9 fi_X4_9 (fs' := [.ref q1, .null, .null, .null, .null, .null, .null, .int 0, .int 0, .int 0, .int 0, .int 0]) rfl rfl rfl rfl ?_
  refine iv_aload_0 dX4_init_12 ?_
  refine iv_bipush 7 dX4_init_13 rfl ?_
  refine iv_newa .int E.2.2.1 7 dX4_init_15 rfl aw_int List.mem_cons_self (fun _ _ h => h) (fun _ => rfl) (by decide) (by decide) (by decide) (by decide) (by decide) (fun q2 => ?_)
  refine iv_put dX4_init_17 fi_X4_15 (fs' := [.ref q1, .ref q2, .null, .null, .null, .null, .null, .int 0, .int 0, .int 0, .int 0, .int 0]) rfl rfl rfl rfl ?_
  refine iv_aload_0 dX4_init_20 ?_
  refine iv_bipush 7 dX4_init_21 rfl ?_
  refine iv_newa .int E.2.2.1 7 dX4_init_23 rfl aw_int List.mem_cons_self (fun _ _ h => h) (fun _ => rfl) (by decide) (by decide) (by decide) (by decide) (by decide) (fun q3 => ?_)
  refine iv_put dX4_init_25 fi_X4_18 (fs' := [.ref q1, .ref q2, .ref q3, .null, .null, .null, .null, .int 0, .int 0, .int 0, .int 0, .int 0]) rfl rfl rfl rfl ?_
  refine iv_aload_0 dX4_init_28 ?_
  refine iv_bipush 7 dX4_init_29 rfl ?_
  refine iv_newa .int E.2.2.1 7 dX4_init_31 rfl aw_int List.mem_cons_self (fun _ _ h => h) (fun _ => rfl) (by decide) (by decide) (by decide) (by decide) (by decide) (fun q4 => ?_)
  refine iv_put dX4_init_33 fi_X4_21 (fs' := [.ref q1, .ref q2, .ref q3, .ref q4, .null, .null, .null, .int 0, .int 0, .int 0, .int 0, .int 0]) rfl rfl rfl rfl ?_
  refine iv_aload_0 dX4_init_36 ?_
  refine iv_iconst_4 dX4_init_37 ?_
  refine iv_newa .int E.2.2.1 4 dX4_init_38 rfl aw_int List.mem_cons_self (fun _ _ h => h) (fun _ => rfl) (by decide) (by decide) (by decide) (by decide) (by decide) (fun q5 => ?_)
  refine iv_put dX4_init_40 fi_X4_24 (fs' := [.ref q1, .ref q2, .ref q3, .ref q4, .ref q5, .null, .null, .int 0, .int 0, .int 0, .int 0, .int 0]) rfl rfl rfl rfl ?_
  refine iv_aload_0 dX4_init_43 ?_
  refine iv_iconst_4 dX4_init_44 ?_
  refine iv_newa .int E.2.2.1 4 dX4_init_45 rfl aw_int List.mem_cons_self (fun _ _ h => h) (fun _ => rfl) (by decide) (by decide) (by decide) (by decide) (by decide) (fun q6 => ?_)
  refine iv_put dX4_init_47 fi_X4_27 (fs' := [.ref q1, .ref q2, .ref q3, .ref q4, .ref q5, .ref q6, .null, .int 0, .int 0, .int 0, .int 0, .int 0]) rfl rfl rfl rfl ?_
  refine iv_aload_0 dX4_init_50 ?_
  refine iv_iconst_3 dX4_init_51 ?_
  refine iv_newa .int E.2.2.1 3 dX4_init_52 rfl aw_int List.mem_cons_self (fun _ _ h => h) (fun _ => rfl) (by decide) (by decide) (by decide) (by decide) (by decide) (fun q7 => ?_)
  refine iv_put dX4_init_54 fi_X4_30 (fs' := [.ref q1, .ref q2, .ref q3, .ref q4, .ref q5, .ref q6, .ref q7, .int 0, .int 0, .int 0, .int 0, .int 0]) rfl rfl rfl rfl ?_
  refine iv_aload_0 dX4_init_57 ?_
  refine iv_iconst_0 dX4_init_58 ?_
  refine iv_put dX4_init_59 fi_X4_33 (fs' := [.ref q1, .ref q2, .ref q3, .ref q4, .ref q5, .ref q6, .ref q7, .int 0, .int 0, .int 0, .int 0, .int 0]) rfl rfl rfl rfl ?_
  refine iv_aload_0 dX4_init_62 ?_
  refine iv_iconst_0 dX4_init_63 ?_
  refine iv_put dX4_init_64 fi_X4_37 (fs' := [.ref q1, .ref q2, .ref q3, .ref q4, .ref q5, .ref q6, .ref q7, .int 0, .int 0, .int 0, .int 0, .int 0]) rfl rfl rfl rfl ?_
  refine iv_aload_0 dX4_init_67 ?_
  refine iv_iconst_0 dX4_init_68 ?_
  refine iv_put dX4_init_69 fi_X4_40 (fs' := [.ref q1, .ref q2, .ref q3, .ref q4, .ref q5, .ref q6, .ref q7, .int 0, .int 0, .int 0, .int 0, .int 0]) rfl rfl rfl rfl ?_
  refine iv_aload_0 dX4_init_72 ?_
  refine iv_iconst_0 dX4_init_73 ?_
  refine iv_put dX4_init_74 fi_X4_43 (fs' := [.ref q1, .ref q2, .ref q3, .ref q4, .ref q5, .ref q6, .ref q7, .int 0, .int 0, .int 0, .int 0, .int 0]) rfl rfl rfl rfl ?_
  refine iv_aload_0 dX4_init_77 ?_
  refine iv_iconst_0 dX4_init_78 ?_
  refine iv_put dX4_init_79 fi_X4_46 (fs' := [.ref q1, .ref q2, .ref q3, .ref q4, .ref q5, .ref q6, .ref q7, .int 0, .int 0, .int 0, .int 0, .int 0]) rfl rfl rfl rfl ?_
  exact iv_ret dX4_init_82 ⟨fun i => ([h0, q1, q2, q3, q4, q5, q6, q7] : List Nat).getD i 0, rfl, rfl⟩ (by decide) (by decide)
theorem oi_X1 : OI RX1 5 := ⟨x_mem (by decide +kernel) rfl, x_mem (by decide +kernel) rfl, x_mem (by decide +kernel) rfl⟩
theorem fi_X1_11 : FI RX1 11 1 0 (.array .int) := ⟨RX1, TX1, 2, tyX1, rfl, by decide, hin_X1, tyX1_ok, nmX1, rfl, rfl, x_in 197 (by decide +kernel) rfl⟩
theorem fi_X1_15 : FI RX1 15 1 1 .int := ⟨RX1, TX1, 2, tyX1, rfl, by decide, hin_X1, tyX1_ok, nmX1, rfl, rfl, x_in 198 (by decide +kernel) rfl⟩
set_option maxHeartbeats 4000000 in
set_option maxRecDepth 100000 in
theorem i_X1 (E : xE) : Mi E 1 yX1_init cX1_init 1 (fun h => [.ref h]) (.inr (1, [.null, .int 0])) 1 152 (fun h ws => ∃ a : Nat → Nat, a 0 = h ∧ ws = pB E a) := by
  refine Mi.of (as := []) rfl rfl (by decide) (fun h0 => ?_)
  show Iv E _ _ _ _ _ _ _ 0 [some (.ref h0)] [] [(h0, _)] 0 0
  refine iv_aload_0 dX1_init_0 ?_
  refine iv_obj dX1_init_1 oi_X1 ⟨by decide, by decide⟩ ⟨by decide, by decide⟩ ?_
  refine iv_aload_0 dX1_init_4 ?_
  refine iv_sipush 152 dX1_init_5 rfl ?_
  refine iv_newa .int E.2.2.1 152 dX1_init_8 rfl aw_int List.mem_cons_self (fun _ _ h => h) (fun _ => rfl) (by decide) (by decide) (by decide) (by decide) (by decide) (fun q1 => ?_)
  refine iv_put dX1_init_10 fi_X1_11 (fs' := [.ref q1, .int 0]) rfl rfl rfl rfl ?_
  refine iv_aload_0 dX1_init_13 ?_
  refine iv_iconst_0 dX1_init_14 ?_
  refine iv_put dX1_init_15 fi_X1_15 (fs' := [.ref q1, .int 0]) rfl rfl rfl rfl ?_
  exact iv_ret dX1_init_18 ⟨fun i => ([h0, q1] : List Nat).getD i 0, rfl, rfl⟩ (by decide) (by decide)
theorem oi_X0 : OI RX0 1 := ⟨x_mem (by decide +kernel) rfl, x_mem (by decide +kernel) rfl, x_mem (by decide +kernel) rfl⟩
theorem fi_X0_7 : FI RX0 7 0 2 .int := ⟨RX0, TX0, 3, tyX0, rfl, by decide, hin_X0, tyX0_ok, nmX0, rfl, rfl, x_in 217 (by decide +kernel) rfl⟩
theorem fi_X0_19 : FI RX0 19 0 0 .int := ⟨RX0, TX0, 3, tyX0, rfl, by decide, hin_X0, tyX0_ok, nmX0, rfl, rfl, x_in 215 (by decide +kernel) rfl⟩
theorem fi_X0_22 : FI RX0 22 0 1 (.array .int) := ⟨RX0, TX0, 3, tyX0, rfl, by decide, hin_X0, tyX0_ok, nmX0, rfl, rfl, x_in 216 (by decide +kernel) rfl⟩
set_option maxHeartbeats 4000000 in
set_option maxRecDepth 100000 in
theorem i_X0_5 (E : xE) : Mi E 2 yX0_init cX0_init 2 (fun h => [.ref h, .int 5]) (.inr (0, [.int 0, .null, .int 0])) 1 20 (fun h ws => ∃ a : Nat → Nat, a 0 = h ∧ ws = hB E 5 20 a) := by
  refine Mi.of (as := [.int 5]) rfl rfl (by decide) (fun h0 => ?_)
  show Iv E _ _ _ _ _ _ _ 0 [some (.ref h0), some (.int 5)] [] [(h0, _)] 0 0
  refine iv_aload_0 dX0_init_0 ?_
  refine iv_obj dX0_init_1 oi_X0 ⟨by decide, by decide⟩ ⟨by decide, by decide⟩ ?_
  refine iv_aload_0 dX0_init_4 ?_
  refine iv_iconst_0 dX0_init_5 ?_
  refine iv_put dX0_init_6 fi_X0_7 (fs' := [.int 0, .null, .int 0]) rfl rfl rfl rfl ?_
  refine iv_aload_0 dX0_init_9 ?_
  refine iv_iconst_0 dX0_init_10 ?_
  refine iv_iload_1 dX0_init_11 ?_
  refine iv_mmax dX0_init_12 mm_X0_13 ⟨by decide, by decide⟩ (by decide) ⟨by decide, by decide⟩ (z := 5) (by decide) ?_
  refine iv_put dX0_init_15 fi_X0_19 (fs' := [.int 5, .null, .int 0]) rfl rfl rfl rfl ?_
  refine iv_aload_0 dX0_init_18 ?_
  refine iv_aload_0 dX0_init_19 ?_
  refine iv_get dX0_init_20 fk_X0_19 (v := .int 5) rfl ?_
  refine iv_iconst_4 dX0_init_23 ?_
  refine iv_imul dX0_init_24 ?_
  refine Iv.stk (v := .int 20) (by decide) ?_
  refine iv_newa .int E.2.2.1 20 dX0_init_25 rfl aw_int List.mem_cons_self (fun _ _ h => h) (fun _ => rfl) (by decide) (by decide) (by decide) (by decide) (by decide) (fun q1 => ?_)
  refine iv_put dX0_init_27 fi_X0_22 (fs' := [.int 5, .ref q1, .int 0]) rfl rfl rfl rfl ?_
  exact iv_ret dX0_init_30 ⟨fun i => ([h0, q1] : List Nat).getD i 0, rfl, rfl⟩ (by decide) (by decide)
set_option maxHeartbeats 4000000 in
set_option maxRecDepth 100000 in
theorem i_X0_6 (E : xE) : Mi E 2 yX0_init cX0_init 2 (fun h => [.ref h, .int 6]) (.inr (0, [.int 0, .null, .int 0])) 1 24 (fun h ws => ∃ a : Nat → Nat, a 0 = h ∧ ws = hB E 6 24 a) := by
  refine Mi.of (as := [.int 6]) rfl rfl (by decide) (fun h0 => ?_)
  show Iv E _ _ _ _ _ _ _ 0 [some (.ref h0), some (.int 6)] [] [(h0, _)] 0 0
  refine iv_aload_0 dX0_init_0 ?_
  refine iv_obj dX0_init_1 oi_X0 ⟨by decide, by decide⟩ ⟨by decide, by decide⟩ ?_
  refine iv_aload_0 dX0_init_4 ?_
  refine iv_iconst_0 dX0_init_5 ?_
  refine iv_put dX0_init_6 fi_X0_7 (fs' := [.int 0, .null, .int 0]) rfl rfl rfl rfl ?_
  refine iv_aload_0 dX0_init_9 ?_
  refine iv_iconst_0 dX0_init_10 ?_
  refine iv_iload_1 dX0_init_11 ?_
  refine iv_mmax dX0_init_12 mm_X0_13 ⟨by decide, by decide⟩ (by decide) ⟨by decide, by decide⟩ (z := 6) (by decide) ?_
  refine iv_put dX0_init_15 fi_X0_19 (fs' := [.int 6, .null, .int 0]) rfl rfl rfl rfl ?_
  refine iv_aload_0 dX0_init_18 ?_
  refine iv_aload_0 dX0_init_19 ?_
  refine iv_get dX0_init_20 fk_X0_19 (v := .int 6) rfl ?_
  refine iv_iconst_4 dX0_init_23 ?_
  refine iv_imul dX0_init_24 ?_
  refine Iv.stk (v := .int 24) (by decide) ?_
  refine iv_newa .int E.2.2.1 24 dX0_init_25 rfl aw_int List.mem_cons_self (fun _ _ h => h) (fun _ => rfl) (by decide) (by decide) (by decide) (by decide) (by decide) (fun q1 => ?_)
  refine iv_put dX0_init_27 fi_X0_22 (fs' := [.int 6, .ref q1, .int 0]) rfl rfl rfl rfl ?_
  exact iv_ret dX0_init_30 ⟨fun i => ([h0, q1] : List Nat).getD i 0, rfl, rfl⟩ (by decide) (by decide)
