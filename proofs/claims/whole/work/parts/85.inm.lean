theorem oi_X6 : OI RX6 1 := ⟨x_mem (by decide +kernel) rfl, x_mem (by decide +kernel) rfl, x_mem (by decide +kernel) rfl⟩
theorem fi_X6_7 : FI RX6 7 6 0 (.array .int) := ⟨RX6, TX6, 18, tyX6, rfl, by decide, hin_X6, tyX6_ok, nmX6, rfl, rfl, x_in 933 (by decide +kernel) rfl⟩
theorem fi_X6_13 : FI RX6 13 6 1 (.array .int) := ⟨RX6, TX6, 18, tyX6, rfl, by decide, hin_X6, tyX6_ok, nmX6, rfl, rfl, x_in 934 (by decide +kernel) rfl⟩
theorem fi_X6_16 : FI RX6 16 6 2 (.array .boolean) := ⟨RX6, TX6, 18, tyX6, rfl, by decide, hin_X6, tyX6_ok, nmX6, rfl, rfl, x_in 935 (by decide +kernel) rfl⟩
theorem fi_X6_20 : FI RX6 20 6 3 (.array .int) := ⟨RX6, TX6, 18, tyX6, rfl, by decide, hin_X6, tyX6_ok, nmX6, rfl, rfl, x_in 936 (by decide +kernel) rfl⟩
theorem fi_X6_23 : FI RX6 23 6 5 .long := ⟨RX6, TX6, 18, tyX6, rfl, by decide, hin_X6, tyX6_ok, nmX6, rfl, rfl, x_in 938 (by decide +kernel) rfl⟩
theorem fi_X6_27 : FI RX6 27 6 6 (.array .int) := ⟨RX6, TX6, 18, tyX6, rfl, by decide, hin_X6, tyX6_ok, nmX6, rfl, rfl, x_in 939 (by decide +kernel) rfl⟩
theorem fi_X6_30 : FI RX6 30 6 7 (.array .int) := ⟨RX6, TX6, 18, tyX6, rfl, by decide, hin_X6, tyX6_ok, nmX6, rfl, rfl, x_in 940 (by decide +kernel) rfl⟩
theorem fi_X6_33 : FI RX6 33 6 8 (.array .int) := ⟨RX6, TX6, 18, tyX6, rfl, by decide, hin_X6, tyX6_ok, nmX6, rfl, rfl, x_in 941 (by decide +kernel) rfl⟩
theorem fi_X6_36 : FI RX6 36 6 9 (.array .int) := ⟨RX6, TX6, 18, tyX6, rfl, by decide, hin_X6, tyX6_ok, nmX6, rfl, rfl, x_in 942 (by decide +kernel) rfl⟩
theorem fi_X6_39 : FI RX6 39 6 10 (.array .int) := ⟨RX6, TX6, 18, tyX6, rfl, by decide, hin_X6, tyX6_ok, nmX6, rfl, rfl, x_in 943 (by decide +kernel) rfl⟩
theorem fi_X6_42 : FI RX6 42 6 16 (.array .int) := ⟨RX6, TX6, 18, tyX6, rfl, by decide, hin_X6, tyX6_ok, nmX6, rfl, rfl, x_in 949 (by decide +kernel) rfl⟩
theorem fi_X6_45 : FI RX6 45 6 17 (.array .int) := ⟨RX6, TX6, 18, tyX6, rfl, by decide, hin_X6, tyX6_ok, nmX6, rfl, rfl, x_in 950 (by decide +kernel) rfl⟩
set_option maxHeartbeats 4000000 in
set_option maxRecDepth 100000 in
theorem i_X6 (E : xE) : Mi E 2 yX6_init cX6_init 1 (fun h => [.ref h]) (.inr (6, [.null, .null, .null, .null, .long 0, .long 0, .null, .null, .null, .null, .null, .int 0, .int 0, .int 0, .int 0, .int 0, .null, .null])) 11 1100 (fun h ws => ∃ a : Nat → Nat, a 0 = h ∧ ws = mB E a) := by
  refine Mi.of (as := []) rfl rfl (by decide) (fun h0 => ?_)
  show Iv E _ _ _ _ _ _ _ 0 [some (.ref h0)] [] [(h0, _)] 0 0
  refine iv_aload_0 dX6_init_0 ?_
  refine iv_obj dX6_init_1 oi_X6 ⟨by decide, by decide⟩ ⟨by decide, by decide⟩ ?_
  refine iv_aload_0 dX6_init_4 ?_
  refine iv_sipush 258 dX6_init_5 rfl ?_
  refine iv_newa .int E.2.2.1 258 dX6_init_8 rfl aw_int List.mem_cons_self (fun _ _ h => h) (fun _ => rfl) (by decide) (by decide) (by decide) (by decide) (by decide) (fun q1 => ?_)
  refine iv_put dX6_init_10 fi_X6_7 (fs' := [.ref q1, .null, .null, .null, .long 0, .long 0, .null, .null, .null, .null, .null, .int 0, .int 0, .int 0, .int 0, .int 0, .null, .null]) rfl rfl rfl rfl ?_
  refine iv_aload_0 dX6_init_13 ?_
  refine iv_sipush 516 dX6_init_14 rfl ?_
  refine iv_newa .int E.2.2.1 516 dX6_init_17 rfl aw_int List.mem_cons_self (fun _ _ h => h) (fun _ => rfl) (by decide) (by decide) (by decide) (by decide) (by decide) (fun q2 => ?_)
  refine iv_put dX6_init_19 fi_X6_13 (fs' := [.ref q1, .ref q2, .null, .null, .long 0, .long 0, .null, .null, .null, .null, .null, .int 0, .int 0, .int 0, .int 0, .int 0, .null, .null]) rfl rfl rfl rfl ?_
  refine iv_aload_0 dX6_init_22 ?_
  refine iv_iconst_2 dX6_init_23 ?_
  refine iv_newa .boolean E.2.2.2 2 dX6_init_24 rfl aw_bool (List.mem_cons_of_mem _ List.mem_cons_self) (fun _ _ h => h) (fun _ => rfl) (by decide) (by decide) (by decide) (by decide) (by decide) (fun q3 => ?_)
  refine iv_put dX6_init_26 fi_X6_16 (fs' := [.ref q1, .ref q2, .ref q3, .null, .long 0, .long 0, .null, .null, .null, .null, .null, .int 0, .int 0, .int 0, .int 0, .int 0, .null, .null]) rfl rfl rfl rfl ?_
  refine iv_aload_0 dX6_init_29 ?_
  refine iv_iconst_3 dX6_init_30 ?_
  refine iv_newa .int E.2.2.1 3 dX6_init_31 rfl aw_int List.mem_cons_self (fun _ _ h => h) (fun _ => rfl) (by decide) (by decide) (by decide) (by decide) (by decide) (fun q4 => ?_)
  refine iv_put dX6_init_33 fi_X6_20 (fs' := [.ref q1, .ref q2, .ref q3, .ref q4, .long 0, .long 0, .null, .null, .null, .null, .null, .int 0, .int 0, .int 0, .int 0, .int 0, .null, .null]) rfl rfl rfl rfl ?_
  refine iv_aload_0 dX6_init_36 ?_
  refine iv_lconst_1 dX6_init_37 ?_
  refine iv_put dX6_init_38 fi_X6_23 (fs' := [.ref q1, .ref q2, .ref q3, .ref q4, .long 0, .long 1, .null, .null, .null, .null, .null, .int 0, .int 0, .int 0, .int 0, .int 0, .null, .null]) rfl rfl rfl rfl ?_
  refine iv_aload_0 dX6_init_41 ?_
  refine iv_iconst_4 dX6_init_42 ?_
  refine iv_newa .int E.2.2.1 4 dX6_init_43 rfl aw_int List.mem_cons_self (fun _ _ h => h) (fun _ => rfl) (by decide) (by decide) (by decide) (by decide) (by decide) (fun q5 => ?_)
  refine iv_put dX6_init_45 fi_X6_27 (fs' := [.ref q1, .ref q2, .ref q3, .ref q4, .long 0, .long 1, .ref q5, .null, .null, .null, .null, .int 0, .int 0, .int 0, .int 0, .int 0, .null, .null]) rfl rfl rfl rfl ?_
  refine iv_aload_0 dX6_init_48 ?_
  refine iv_iconst_4 dX6_init_49 ?_
  refine iv_newa .int E.2.2.1 4 dX6_init_50 rfl aw_int List.mem_cons_self (fun _ _ h => h) (fun _ => rfl) (by decide) (by decide) (by decide) (by decide) (by decide) (fun q6 => ?_)
  refine iv_put dX6_init_52 fi_X6_30 (fs' := [.ref q1, .ref q2, .ref q3, .ref q4, .long 0, .long 1, .ref q5, .ref q6, .null, .null, .null, .int 0, .int 0, .int 0, .int 0, .int 0, .null, .null]) rfl rfl rfl rfl ?_
  refine iv_aload_0 dX6_init_55 ?_
  refine iv_bipush 7 dX6_init_56 rfl ?_
  refine iv_newa .int E.2.2.1 7 dX6_init_58 rfl aw_int List.mem_cons_self (fun _ _ h => h) (fun _ => rfl) (by decide) (by decide) (by decide) (by decide) (by decide) (fun q7 => ?_)
  refine iv_put dX6_init_60 fi_X6_33 (fs' := [.ref q1, .ref q2, .ref q3, .ref q4, .long 0, .long 1, .ref q5, .ref q6, .ref q7, .null, .null, .int 0, .int 0, .int 0, .int 0, .int 0, .null, .null]) rfl rfl rfl rfl ?_
  refine iv_aload_0 dX6_init_63 ?_
  refine iv_bipush 48 dX6_init_64 rfl ?_
  refine iv_newa .int E.2.2.1 48 dX6_init_66 rfl aw_int List.mem_cons_self (fun _ _ h => h) (fun _ => rfl) (by decide) (by decide) (by decide) (by decide) (by decide) (fun q8 => ?_)
  refine iv_put dX6_init_68 fi_X6_36 (fs' := [.ref q1, .ref q2, .ref q3, .ref q4, .long 0, .long 1, .ref q5, .ref q6, .ref q7, .ref q8, .null, .int 0, .int 0, .int 0, .int 0, .int 0, .null, .null]) rfl rfl rfl rfl ?_
  refine iv_aload_0 dX6_init_71 ?_
  refine iv_sipush 150 dX6_init_72 rfl ?_
  refine iv_newa .int E.2.2.1 150 dX6_init_75 rfl aw_int List.mem_cons_self (fun _ _ h => h) (fun _ => rfl) (by decide) (by decide) (by decide) (by decide) (by decide) (fun q9 => ?_)
  refine iv_put dX6_init_77 fi_X6_39 (fs' := [.ref q1, .ref q2, .ref q3, .ref q4, .long 0, .long 1, .ref q5, .ref q6, .ref q7, .ref q8, .ref q9, .int 0, .int 0, .int 0, .int 0, .int 0, .null, .null]) rfl rfl rfl rfl ?_
  refine iv_aload_0 dX6_init_80 ?_
  refine iv_bipush 106 dX6_init_81 rfl ?_
  refine iv_newa .int E.2.2.1 106 dX6_init_83 rfl aw_int List.mem_cons_self (fun _ _ h => h) (fun _ => rfl) (by decide) (by decide) (by decide) (by decide) (by decide) (fun q10 => ?_)
  refine iv_put dX6_init_85 fi_X6_42 (fs' := [.ref q1, .ref q2, .ref q3, .ref q4, .long 0, .long 1, .ref q5, .ref q6, .ref q7, .ref q8, .ref q9, .int 0, .int 0, .int 0, .int 0, .int 0, .ref q10, .null]) rfl rfl rfl rfl ?_
  refine iv_aload_0 dX6_init_88 ?_
  refine iv_iconst_2 dX6_init_89 ?_
  refine iv_newa .int E.2.2.1 2 dX6_init_90 rfl aw_int List.mem_cons_self (fun _ _ h => h) (fun _ => rfl) (by decide) (by decide) (by decide) (by decide) (by decide) (fun q11 => ?_)
  refine iv_put dX6_init_92 fi_X6_45 (fs' := [.ref q1, .ref q2, .ref q3, .ref q4, .long 0, .long 1, .ref q5, .ref q6, .ref q7, .ref q8, .ref q9, .int 0, .int 0, .int 0, .int 0, .int 0, .ref q10, .ref q11]) rfl rfl rfl rfl ?_
  refine iv_aload_0 dX6_init_95 ?_
  refine iv_get dX6_init_96 fk_X6_7 (v := .ref q1) rfl ?_
  refine iv_begin 1 dX6_init_99 ml_X6_48 rfl ⟨by decide, by decide⟩ (by decide) ⟨by decide, by decide⟩ ?_
  exact iv_ret dX6_init_102 ⟨fun i => ([h0, q1, q2, q3, q4, q5, q6, q7, q8, q9, q10, q11] : List Nat).getD i 0, rfl, rfl⟩ (by decide) (by decide)
