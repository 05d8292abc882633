/-! the class's literals: length and charAt -/
theorem fl_J0_9 : Cond.fieldLink RJ0 9 "java/lang/String" "value" "[B" ∈ xtbl := x_in 1374 (by decide +kernel) rfl
theorem fl_J0_15 : Cond.fieldLink RJ0 15 "java/lang/String" "coder" "B" ∈ xtbl := x_in 1375 (by decide +kernel) rfl
theorem fl_J0_38 : Cond.fieldLink RJ0 38 "java/lang/String" "COMPACT_STRINGS" "Z" ∈ xtbl := x_in 457 (by decide +kernel) rfl
theorem fl_J0_1053 : Cond.fieldLink RJ0 1053 "jdk/internal/util/Preconditions" "SIOOBE_FORMATTER" "Ljava/util/function/BiFunction;" ∈ xtbl := x_in 473 (by decide +kernel) rfl
section
variable {E : xE} {R : Room} {own : String} {cc : ByteArray} {nL : Nat} {F : Option Value → xS → Prop} {pc : Nat} {l : xL} {st : List Value} {σ : xS}
theorem ev_strv {k : Nat} (hk : k < 7) (d : decode cc pc = .ok (.getfield 9, 3)) (hown : own = RJ0) (kk : Ev E R own cc nL F (pc + 3) l (.ref (E.1 (1100 + k)) :: st) σ) : Ev E R own cc nL F pc l (.ref (E.1 (1000 + k)) :: st) σ := by
  intro p l0 e s m args below meth c A cells slots Q H locs ls C hc hA hX hf hP hS hL
  subst hown
  exact vk_getf C.1 C.2.1 (hX.1.1 k hk).2.2.1 hS C.2.2.2.1 (C.2.2.2.2.1 _ fl_J0_9) (fun _ h => h) d (kk p l0 e s m args below meth c A cells slots Q H locs ls C hc hA hX hf hP hS hL)
theorem ev_strc {k : Nat} (hk : k < 7) (d : decode cc pc = .ok (.getfield 15, 3)) (hown : own = RJ0) (kk : Ev E R own cc nL F (pc + 3) l (.int 0 :: st) σ) : Ev E R own cc nL F pc l (.ref (E.1 (1000 + k)) :: st) σ := by
  intro p l0 e s m args below meth c A cells slots Q H locs ls C hc hA hX hf hP hS hL
  subst hown
  exact vk_getf C.1 C.2.1 (hX.1.1 k hk).2.1 hS C.2.2.2.1 (C.2.2.2.2.1 _ fl_J0_15) (fun _ h => h) d (kk p l0 e s m args below meth c A cells slots Q H locs ls C hc hA hX hf hP hS hL)
theorem ev_gst38 (d : decode cc pc = .ok (.getstatic 38, 3)) (hown : own = RJ0) (kk : Ev E R own cc nL F (pc + 3) l (.int 1 :: st) σ) : Ev E R own cc nL F pc l st σ := by
  intro p l0 e s m args below meth c A cells slots Q H locs ls C hc hA hX hf hP hS hL
  subst hown
  exact va_gets C.1 C.2.1 hX.2.2.1 hS C.2.2.2.1 (C.2.2.2.2.1 _ fl_J0_38) (fun _ h => h) d (kk p l0 e s m args below meth c A cells slots Q H locs ls C hc hA hX hf hP hS hL)
theorem ev_gst1053 (d : decode cc pc = .ok (.getstatic 1053, 3)) (hown : own = RJ0) (kk : ∀ v : Value, (v = .null ∨ ∃ t, v = .ref t) → Ev E R own cc nL F (pc + 3) l (v :: st) σ) : Ev E R own cc nL F pc l st σ := by
  intro p l0 e s m args below meth c A cells slots Q H locs ls C hc hA hX hf hP hS hL
  subst hown
  rcases hX.2.2.2 with h | ⟨t, h⟩
  · exact va_gets C.1 C.2.1 h hS C.2.2.2.1 (C.2.2.2.2.1 _ fl_J0_1053) (fun _ h => h) d (kk _ (Or.inl rfl) p l0 e s m args below meth c A cells slots Q H locs ls C hc hA hX hf hP hS hL)
  · exact va_gets C.1 C.2.1 h hS C.2.2.2.1 (C.2.2.2.2.1 _ fl_J0_1053) (fun _ h => h) d (kk _ (Or.inr ⟨t, rfl⟩) p l0 e s m args below meth c A cells slots Q H locs ls C hc hA hX hf hP hS hL)
theorem ev_strl {k : Nat} (hk : k < 7) (d : decode cc pc = .ok (.arraylength, 1)) (kk : Ev E R own cc nL F (pc + 1) l (.int (nI (xsLen.getD k 0)) :: st) σ) : Ev E R own cc nL F pc l (.ref (E.1 (1100 + k)) :: st) σ := by
  intro p l0 e s m args below meth c A cells slots Q H locs ls C hc hA hX hf hP hS hL
  exact va_tlen C.1 C.2.1 (hX.1.1 k hk).2.2.2 hS rfl d (kk p l0 e s m args below meth c A cells slots Q H locs ls C hc hA hX hf hP hS hL)
theorem ev_strb {k j : Nat} (hk : k < 7) (hj : j < xsLen.getD k 0) (hj2 : j < 2 ^ 31) (d : decode cc pc = .ok (.baload, 1)) (kk : Ev E R own cc nL F (pc + 1) l (.int ((xsByt.getD k []).getD j 0) :: st) σ) : Ev E R own cc nL F pc l (.int (nI j) :: .ref (E.1 (1100 + k)) :: st) σ := by
  intro p l0 e s m args below meth c A cells slots Q H locs ls C hc hA hX hf hP hS hL
  have hb : xsLen.getD k 0 < 2 ^ 31 := by
    have : ∀ k, k < 7 → xsLen.getD k 0 < 2 ^ 31 := by decide
    exact this k hk
  exact va_tb C.1 C.2.1 (hX.1.1 k hk).2.2.2 hS (vp_in_nI hj hb) (by rw [nI_clamp hj2]) d (kk p l0 e s m args below meth c A cells slots Q H locs ls C hc hA hX hf hP hS hL)
theorem ev_ldcS {k idx : Nat} (hk : k < 7) (hidx : idx = 146 + 2 * k) (hown : own = "PledgeWindow$Reader") (d : decode cc pc = .ok (.ldc idx, 2)) (kk : Ev E R own cc nL F (pc + 2) l (.ref (E.1 (1000 + k)) :: st) σ) : Ev E R own cc nL F pc l st σ := by
  intro p l0 e s m args below meth c A cells slots Q H locs ls C hc hA hX hf hP hS hL
  subst hown hidx
  exact va_ldcS C.1 C.2.1 C.2.2.2.1 (hX.2.1 k hk) d (kk p l0 e s m args below meth c A cells slots Q H locs ls C hc hA hX hf hP hS hL)
/-- a call on a literal -/
theorem ev_invStr {idx k d' n maxL : Nat} {y : MethodName} {bytes : ByteArray} {ret : Option FieldType} {as st0 : List Value} {r : Option Value} {σ' : xS} (hk : k < 7) (d : decode cc pc = .ok (.invokevirtual idx, 3)) (ml : ML own idx y) (mv : MV y bytes maxL ret n) (ct : Ct E d' y bytes maxL ret (.ref (E.1 (1000 + k)) :: as) σ r σ') (hcl : y.cls = "java/lang/String") (hn : as.length = n) (hst : st0 = as.reverse ++ .ref (E.1 (1000 + k)) :: st) (hR : d' + 1 ≤ R.frames ∧ 200 * (d' + 1) ≤ R.locals) (hw : (st.map fun v => v.category).sum ≤ 8)
    (kk : Ev E R own cc nL F (pc + 3) l (r.toList ++ st) σ') : Ev E R own cc nL F pc l st0 σ := by
  intro p l0 e s m args below meth c A cells slots Q H locs ls C hc hA hX hf hP hS hL
  obtain ⟨⟨hini, hcode, hy, hmx⟩, hinst, hsel⟩ := mv
  have hts := C.2.2.2.2.1
  have hfr : (rm d').frames + 1 ≤ R.frames ∧ 8 + (maxL + 11) + (rm d').locals ≤ R.locals := ⟨hR.1, by show 8 + (maxL + 11) + 200 * d' ≤ R.locals; omega⟩
  have hrec : ∃ cell : Cell, H[E.1 (1000 + k)]? = some cell ∧ cell.vm.isStatics = false ∧ s.vm.findClass y.cls = some cell.cls := by
    obtain ⟨cell, h1, h2, h3, h4⟩ := (hX.1.1 k hk).1
    refine ⟨cell, ?_, h2, by rw [hcl]; exact h3⟩
    rw [hS.2.1 _ (Array.getElem?_eq_some_iff.mp h1).1 h4]
    exact h1
  refine x_call (r := r) (σ' := σ') (rest := st) (a := (Value.ref (E.1 (1000 + k)) :: as).toArray) ?_ hS hA (fun H1 locs1 hP1 hS1 => kk p l0 e s m args below meth c A cells slots Q H1 locs1 ls C hc hA hX hf hP1 hS1 hL)
  rcases ml with ml | ⟨host, ml⟩
  · exact va_runV (As := as) (rest := st) ⟨C.1, C.2.1, C.2.2.1, C.2.2.2.1, hts⟩ (ct l0) ⟨callB_of n hts (x_goodIn' hcode) rfl rfl rfl (hts _ hini) (hts _ ml) hy hfr, hts _ hinst, hts _ hsel⟩ ⟨xPc_blind, hrec, x_pre hP hS hA hX C.2.2.2.2.2.1 C.2.2.2.2.2.2⟩ rfl hn hL.1.1 hst (lv_room hw) d ⟨hc.1, hc.2⟩
  · exact va_runVN (As := as) (rest := st) ⟨C.1, C.2.1, C.2.2.1, C.2.2.2.1, hts⟩ (ct l0) ⟨va_cnB n hts (x_goodIn' hcode) rfl rfl rfl (C.2.2.2.2.2.2 _ ml) (hts _ hini) hy hfr, hts _ hinst, hts _ hsel⟩ ⟨xPc_blind, hrec, x_pre hP hS hA hX C.2.2.2.2.2.1 C.2.2.2.2.2.2⟩ rfl hn hL.1.1 hst (lv_room hw) d ⟨hc.1, hc.2⟩
end
def xch (k j : Nat) : Int32 := (xsByt.getD k []).getD j 0
theorem xch_ok : ∀ k, k < 7 → ∀ j, j < xsLen.getD k 0 → ((xch k j &&& 255).toUInt32 % 65536).toInt32 = xch k j ∧ narrow .char (.int (xch k j)) = .int (xch k j) ∧ j < 8 := by decide +kernel
theorem c_J0_coder (d : Nat) {E : xE} {σ : xS} {k : Nat} (hk : k < 7) : Ct E d yJ0_coder_7d493 cJ0_coder_7d493 1 (some .byte) [.ref (E.1 (1000 + k))] σ (some (.int 0)) σ := by
  refine Ct.of (by decide +kernel) (Nat.le_of_ble_eq_true rfl) ⟨_, rfl, by decide⟩ ?_
  show Ev E _ RJ0 cJ0_coder_7d493 1 _ 0 [some (.ref (E.1 (1000 + k)))] [] _
  refine ev_gst38 dJ0_coder_7d493_0 rfl ?_
  refine ev_if_eq 13 dJ0_coder_7d493_3 rfl (fun h => absurd h (by decide)) (fun _ => ?_)
  refine ev_aload_0 dJ0_coder_7d493_6 ?_
  refine ev_strc hk dJ0_coder_7d493_7 rfl ?_
  refine ev_goto 14 dJ0_coder_7d493_10 rfl ?_
  exact ev_ireturn dJ0_coder_7d493_14 ⟨rfl, rfl⟩
theorem c_J0_isLatin1 (d : Nat) {E : xE} {σ : xS} {k : Nat} (hk : k < 7) : Ct E d yJ0_isLatin1_aae02 cJ0_isLatin1_aae02 1 (some .boolean) [.ref (E.1 (1000 + k))] σ (some (.int 1)) σ := by
  refine Ct.of (by decide +kernel) (Nat.le_of_ble_eq_true rfl) ⟨_, rfl, by decide⟩ ?_
  show Ev E _ RJ0 cJ0_isLatin1_aae02 1 _ 0 [some (.ref (E.1 (1000 + k)))] [] _
  refine ev_gst38 dJ0_isLatin1_aae02_0 rfl ?_
  refine ev_if_eq 17 dJ0_isLatin1_aae02_3 rfl (fun h => absurd h (by decide)) (fun _ => ?_)
  refine ev_aload_0 dJ0_isLatin1_aae02_6 ?_
  refine ev_strc hk dJ0_isLatin1_aae02_7 rfl ?_
  refine ev_if_ne 17 dJ0_isLatin1_aae02_10 rfl (fun h => absurd rfl h) (fun _ => ?_)
  refine ev_iconst_1 dJ0_isLatin1_aae02_13 ?_
  refine ev_goto 18 dJ0_isLatin1_aae02_14 rfl ?_
  exact ev_ireturn dJ0_isLatin1_aae02_18 ⟨rfl, rfl⟩
theorem c_J3_checkIndex (d : Nat) {E : xE} {σ : xS} {i n : Int32} {v : Value} (hv : v = .null ∨ ∃ t, v = .ref t) (h0 : ¬ i < 0) (h1 : i < n) : Ct E d yJ3_checkIndex_8e157 cJ3_checkIndex_8e157 3 (some .int) [.int i, .int n, v] σ (some (.int i)) σ := by
  rcases hv with rfl | ⟨t, rfl⟩
  ·
    refine Ct.of (by decide +kernel) (Nat.le_of_ble_eq_true rfl) ⟨_, rfl, rfl⟩ ?_
    show Ev E _ RJ3 cJ3_checkIndex_8e157 3 _ 0 [some (.int i), some (.int n), some (.null)] [] _
    refine ev_iload_0 dJ3_checkIndex_8e157_0 ?_
    refine ev_if_lt 9 dJ3_checkIndex_8e157_1 rfl (fun h => absurd h h0) (fun _ => ?_)
    refine ev_iload_0 dJ3_checkIndex_8e157_4 ?_
    refine ev_iload_1 dJ3_checkIndex_8e157_5 ?_
    refine ev_icmp_lt 16 dJ3_checkIndex_8e157_6 rfl (fun _ => ?_) (fun h => absurd h1 h)
    refine ev_iload_0 dJ3_checkIndex_8e157_16 ?_
    exact ev_ireturn dJ3_checkIndex_8e157_17 ⟨rfl, rfl⟩
  ·
    refine Ct.of (by decide +kernel) (Nat.le_of_ble_eq_true rfl) ⟨_, rfl, rfl⟩ ?_
    show Ev E _ RJ3 cJ3_checkIndex_8e157 3 _ 0 [some (.int i), some (.int n), some (.ref t)] [] _
    refine ev_iload_0 dJ3_checkIndex_8e157_0 ?_
    refine ev_if_lt 9 dJ3_checkIndex_8e157_1 rfl (fun h => absurd h h0) (fun _ => ?_)
    refine ev_iload_0 dJ3_checkIndex_8e157_4 ?_
    refine ev_iload_1 dJ3_checkIndex_8e157_5 ?_
    refine ev_icmp_lt 16 dJ3_checkIndex_8e157_6 rfl (fun _ => ?_) (fun h => absurd h1 h)
    refine ev_iload_0 dJ3_checkIndex_8e157_16 ?_
    exact ev_ireturn dJ3_checkIndex_8e157_17 ⟨rfl, rfl⟩
theorem c_J0_checkIndex (d : Nat) {E : xE} {σ : xS} {i n : Int32} (h0 : ¬ i < 0) (h1 : i < n) : Ct E (d + 1) yJ0_checkIndex_df160 cJ0_checkIndex_df160 2 none [.int i, .int n] σ none σ := by
  refine Ct.of (by decide +kernel) (Nat.le_of_ble_eq_true rfl) rfl ?_
  show Ev E _ RJ0 cJ0_checkIndex_df160 2 _ 0 [some (.int i), some (.int n)] [] _
  refine ev_iload_0 dJ0_checkIndex_df160_0 ?_
  refine ev_iload_1 dJ0_checkIndex_df160_1 ?_
  refine ev_gst1053 dJ0_checkIndex_df160_2 rfl (fun v hv => ?_)
  refine ev_invS dJ0_checkIndex_df160_5 ml_J0_1059 mt_J3_checkIndex_8e157 (c_J3_checkIndex d hv h0 h1) rfl rfl (rm_ok (by omega)) (Nat.le_of_ble_eq_true rfl) ?_
  refine ev_pop dJ0_checkIndex_df160_8 rfl ?_
  exact ev_return dJ0_checkIndex_df160_9 ⟨rfl, rfl⟩
theorem c_J1_charAt (d : Nat) {E : xE} {σ : xS} {k j : Nat} (hk : k < 7) (hj : j < xsLen.getD k 0) : Ct E (d + 2) yJ1_charAt_3b067 cJ1_charAt_3b067 2 (some .char) [.ref (E.1 (1100 + k)), .int (nI j)] σ (some (.int (xch k j))) σ := by
  obtain ⟨e1, e2, e3⟩ := xch_ok k hk j hj
  have hl : xsLen.getD k 0 < 2 ^ 31 := by
    have : ∀ k, k < 7 → xsLen.getD k 0 < 2 ^ 31 := by decide
    exact this k hk
  refine Ct.of (by decide +kernel) (Nat.le_of_ble_eq_true rfl) ⟨_, rfl, e2⟩ ?_
  show Ev E _ RJ1 cJ1_charAt_3b067 2 _ 0 [some (.ref (E.1 (1100 + k))), some (.int (nI j))] [] _
  refine ev_iload_1 dJ1_charAt_3b067_0 ?_
  refine ev_aload_0 dJ1_charAt_3b067_1 ?_
  refine ev_strl hk dJ1_charAt_3b067_2 ?_
  refine ev_invS dJ1_charAt_3b067_3 ml_J1_9 mt_J0_checkIndex_df160 (c_J0_checkIndex d (nI_pos (by omega)) (nI_lt hj hl)) rfl rfl (rm_ok (by omega)) (Nat.le_of_ble_eq_true rfl) ?_
  refine ev_aload_0 dJ1_charAt_3b067_6 ?_
  refine ev_iload_1 dJ1_charAt_3b067_7 ?_
  refine ev_strb hk hj (by omega) dJ1_charAt_3b067_8 ?_
  refine ev_sipush 255 dJ1_charAt_3b067_9 rfl ?_
  refine ev_iand dJ1_charAt_3b067_12 ?_
  refine ev_i2c dJ1_charAt_3b067_13 ?_
  exact ev_ireturn dJ1_charAt_3b067_14 ⟨congrArg (fun z => some (Value.int z)) e1, rfl⟩
theorem c_J0_length (d : Nat) {E : xE} {σ : xS} {k : Nat} (hk : k < 7) : Ct E (d + 1) yJ0_length_8abf5 cJ0_length_8abf5 1 (some .int) [.ref (E.1 (1000 + k))] σ (some (.int (nI (xsLen.getD k 0)))) σ := by
  have e0 : nI (xsLen.getD k 0) >>> ((0 : Int32) &&& 31) = nI (xsLen.getD k 0) := by
    have : ∀ k, k < 7 → nI (xsLen.getD k 0) >>> ((0 : Int32) &&& 31) = nI (xsLen.getD k 0) := by decide
    exact this k hk
  refine Ct.of (by decide +kernel) (Nat.le_of_ble_eq_true rfl) ⟨_, rfl, rfl⟩ ?_
  show Ev E _ RJ0 cJ0_length_8abf5 1 _ 0 [some (.ref (E.1 (1000 + k)))] [] _
  refine ev_aload_0 dJ0_length_8abf5_0 ?_
  refine ev_strv hk dJ0_length_8abf5_1 rfl ?_
  refine ev_strl hk dJ0_length_8abf5_4 ?_
  refine ev_aload_0 dJ0_length_8abf5_5 ?_
  refine ev_invStr hk dJ0_length_8abf5_6 ml_J0_335 mt_J0_coder_7d493 (c_J0_coder d hk) rfl rfl rfl (rm_ok (by omega)) (Nat.le_of_ble_eq_true rfl) ?_
  refine ev_ishr dJ0_length_8abf5_9 ?_
  exact ev_ireturn dJ0_length_8abf5_10 ⟨congrArg (fun z => some (Value.int z)) e0, rfl⟩
theorem c_J0_charAt (d : Nat) {E : xE} {σ : xS} {k j : Nat} (hk : k < 7) (hj : j < xsLen.getD k 0) : Ct E (d + 3) yJ0_charAt_5068e cJ0_charAt_5068e 2 (some .char) [.ref (E.1 (1000 + k)), .int (nI j)] σ (some (.int (xch k j))) σ := by
  obtain ⟨e1, e2, e3⟩ := xch_ok k hk j hj
  refine Ct.of (by decide +kernel) (Nat.le_of_ble_eq_true rfl) ⟨_, rfl, e2⟩ ?_
  show Ev E _ RJ0 cJ0_charAt_5068e 2 _ 0 [some (.ref (E.1 (1000 + k))), some (.int (nI j))] [] _
  refine ev_aload_0 dJ0_charAt_5068e_0 ?_
  refine ev_invStr hk dJ0_charAt_5068e_1 ml_J0_492 mt_J0_isLatin1_aae02 (c_J0_isLatin1 d hk) rfl rfl rfl (rm_ok (by omega)) (Nat.le_of_ble_eq_true rfl) ?_
  refine ev_if_eq 16 dJ0_charAt_5068e_4 rfl (fun h => absurd h (by decide)) (fun _ => ?_)
  refine ev_aload_0 dJ0_charAt_5068e_7 ?_
  refine ev_strv hk dJ0_charAt_5068e_8 rfl ?_
  refine ev_iload_1 dJ0_charAt_5068e_11 ?_
  refine ev_invS dJ0_charAt_5068e_12 ml_J0_495 mt_J1_charAt_3b067 (c_J1_charAt d hk hj) rfl rfl (rm_ok (by omega)) (Nat.le_of_ble_eq_true rfl) ?_
  exact ev_ireturn dJ0_charAt_5068e_15 ⟨rfl, rfl⟩
