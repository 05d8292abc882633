/-! ===== the law's loop ===== -/
set_option maxHeartbeats 4000000 in
theorem law_step {E : xE} {b L : Nat} {xs : Nat → Int32} {F : Option Value → xS → Prop} {σ : xS} {i : Nat} (hL : L ≤ 384) (hi : i + 6 ≤ L) (h : Inv σ σ) (k : ∀ σ2, Inv σ2 σ2 → Lx E b L xs F 1280 (LL E b i) [] σ2) (x : Int32) : Lx E b L xs F 33 (LL E b i) [.int x] σ := by
  by_cases hx : x.toInt < 0 ∨ 39 < x.toInt
  · intro p l0 e s m args below meth c A cells slots Q H locs ls C hc hA hX hB hf hP hS hL
    exact lv_tableOut (tgt := 1280) C.1 C.2.1 dL_law_33 hx rfl (k σ h p l0 e s m args below meth c A cells slots Q H locs ls C hc hA hX hB hf hP hS hL)
  · obtain ⟨n, hn, hxn⟩ : ∃ n : Nat, n < 40 ∧ x = nI n := by
      refine ⟨x.toInt.toNat, by omega, Int32.toInt_inj.mp ?_⟩
      rw [nI_toInt (by omega)]
      omega
    subst hxn
    clear hx
    match n, hn with
    | 0, _ =>
      intro p l0 e s m args below meth c A cells slots Q H locs ls C hc hA hX hB hf hP hS hL2
      exact lv_tableIn (tgt := 208) C.1 C.2.1 dL_law_33 (by decide) (by decide) (off := 175) (by decide) rfl (case_0 hL hi h k p l0 e s m args below meth c A cells slots Q H locs ls C hc hA hX hB hf hP hS hL2)
    | 1, _ =>
      intro p l0 e s m args below meth c A cells slots Q H locs ls C hc hA hX hB hf hP hS hL2
      exact lv_tableIn (tgt := 221) C.1 C.2.1 dL_law_33 (by decide) (by decide) (off := 188) (by decide) rfl (case_1 hL hi h k p l0 e s m args below meth c A cells slots Q H locs ls C hc hA hX hB hf hP hS hL2)
    | 2, _ =>
      intro p l0 e s m args below meth c A cells slots Q H locs ls C hc hA hX hB hf hP hS hL2
      exact lv_tableIn (tgt := 254) C.1 C.2.1 dL_law_33 (by decide) (by decide) (off := 221) (by decide) rfl (case_2 hL hi h k p l0 e s m args below meth c A cells slots Q H locs ls C hc hA hX hB hf hP hS hL2)
    | 3, _ =>
      intro p l0 e s m args below meth c A cells slots Q H locs ls C hc hA hX hB hf hP hS hL2
      exact lv_tableIn (tgt := 287) C.1 C.2.1 dL_law_33 (by decide) (by decide) (off := 254) (by decide) rfl (case_3 hL hi h k p l0 e s m args below meth c A cells slots Q H locs ls C hc hA hX hB hf hP hS hL2)
    | 4, _ =>
      intro p l0 e s m args below meth c A cells slots Q H locs ls C hc hA hX hB hf hP hS hL2
      exact lv_tableIn (tgt := 310) C.1 C.2.1 dL_law_33 (by decide) (by decide) (off := 277) (by decide) rfl (case_4 hL hi h k p l0 e s m args below meth c A cells slots Q H locs ls C hc hA hX hB hf hP hS hL2)
    | 5, _ =>
      intro p l0 e s m args below meth c A cells slots Q H locs ls C hc hA hX hB hf hP hS hL2
      exact lv_tableIn (tgt := 333) C.1 C.2.1 dL_law_33 (by decide) (by decide) (off := 300) (by decide) rfl (case_5 hL hi h k p l0 e s m args below meth c A cells slots Q H locs ls C hc hA hX hB hf hP hS hL2)
    | 6, _ =>
      intro p l0 e s m args below meth c A cells slots Q H locs ls C hc hA hX hB hf hP hS hL2
      exact lv_tableIn (tgt := 346) C.1 C.2.1 dL_law_33 (by decide) (by decide) (off := 313) (by decide) rfl (case_6 hL hi h k p l0 e s m args below meth c A cells slots Q H locs ls C hc hA hX hB hf hP hS hL2)
    | 7, _ =>
      intro p l0 e s m args below meth c A cells slots Q H locs ls C hc hA hX hB hf hP hS hL2
      exact lv_tableIn (tgt := 359) C.1 C.2.1 dL_law_33 (by decide) (by decide) (off := 326) (by decide) rfl (case_7 hL hi h k p l0 e s m args below meth c A cells slots Q H locs ls C hc hA hX hB hf hP hS hL2)
    | 8, _ =>
      intro p l0 e s m args below meth c A cells slots Q H locs ls C hc hA hX hB hf hP hS hL2
      exact lv_tableIn (tgt := 382) C.1 C.2.1 dL_law_33 (by decide) (by decide) (off := 349) (by decide) rfl (case_8 hL hi h k p l0 e s m args below meth c A cells slots Q H locs ls C hc hA hX hB hf hP hS hL2)
    | 9, _ =>
      intro p l0 e s m args below meth c A cells slots Q H locs ls C hc hA hX hB hf hP hS hL2
      exact lv_tableIn (tgt := 415) C.1 C.2.1 dL_law_33 (by decide) (by decide) (off := 382) (by decide) rfl (case_9 hL hi h k p l0 e s m args below meth c A cells slots Q H locs ls C hc hA hX hB hf hP hS hL2)
    | 10, _ =>
      intro p l0 e s m args below meth c A cells slots Q H locs ls C hc hA hX hB hf hP hS hL2
      exact lv_tableIn (tgt := 448) C.1 C.2.1 dL_law_33 (by decide) (by decide) (off := 415) (by decide) rfl (case_10 hL hi h k p l0 e s m args below meth c A cells slots Q H locs ls C hc hA hX hB hf hP hS hL2)
    | 11, _ =>
      intro p l0 e s m args below meth c A cells slots Q H locs ls C hc hA hX hB hf hP hS hL2
      exact lv_tableIn (tgt := 461) C.1 C.2.1 dL_law_33 (by decide) (by decide) (off := 428) (by decide) rfl (case_11 hL hi h k p l0 e s m args below meth c A cells slots Q H locs ls C hc hA hX hB hf hP hS hL2)
    | 12, _ =>
      intro p l0 e s m args below meth c A cells slots Q H locs ls C hc hA hX hB hf hP hS hL2
      exact lv_tableIn (tgt := 494) C.1 C.2.1 dL_law_33 (by decide) (by decide) (off := 461) (by decide) rfl (case_12 hL hi h k p l0 e s m args below meth c A cells slots Q H locs ls C hc hA hX hB hf hP hS hL2)
    | 13, _ =>
      intro p l0 e s m args below meth c A cells slots Q H locs ls C hc hA hX hB hf hP hS hL2
      exact lv_tableIn (tgt := 527) C.1 C.2.1 dL_law_33 (by decide) (by decide) (off := 494) (by decide) rfl (case_13 hL hi h k p l0 e s m args below meth c A cells slots Q H locs ls C hc hA hX hB hf hP hS hL2)
    | 14, _ =>
      intro p l0 e s m args below meth c A cells slots Q H locs ls C hc hA hX hB hf hP hS hL2
      exact lv_tableIn (tgt := 560) C.1 C.2.1 dL_law_33 (by decide) (by decide) (off := 527) (by decide) rfl (case_14 hL hi h k p l0 e s m args below meth c A cells slots Q H locs ls C hc hA hX hB hf hP hS hL2)
    | 15, _ =>
      intro p l0 e s m args below meth c A cells slots Q H locs ls C hc hA hX hB hf hP hS hL2
      exact lv_tableIn (tgt := 593) C.1 C.2.1 dL_law_33 (by decide) (by decide) (off := 560) (by decide) rfl (case_15 hL hi h k p l0 e s m args below meth c A cells slots Q H locs ls C hc hA hX hB hf hP hS hL2)
    | 16, _ =>
      intro p l0 e s m args below meth c A cells slots Q H locs ls C hc hA hX hB hf hP hS hL2
      exact lv_tableIn (tgt := 626) C.1 C.2.1 dL_law_33 (by decide) (by decide) (off := 593) (by decide) rfl (case_16 hL hi h k p l0 e s m args below meth c A cells slots Q H locs ls C hc hA hX hB hf hP hS hL2)
    | 17, _ =>
      intro p l0 e s m args below meth c A cells slots Q H locs ls C hc hA hX hB hf hP hS hL2
      exact lv_tableIn (tgt := 659) C.1 C.2.1 dL_law_33 (by decide) (by decide) (off := 626) (by decide) rfl (case_17 hL hi h k p l0 e s m args below meth c A cells slots Q H locs ls C hc hA hX hB hf hP hS hL2)
    | 18, _ =>
      intro p l0 e s m args below meth c A cells slots Q H locs ls C hc hA hX hB hf hP hS hL2
      exact lv_tableIn (tgt := 672) C.1 C.2.1 dL_law_33 (by decide) (by decide) (off := 639) (by decide) rfl (case_18 hL hi h k p l0 e s m args below meth c A cells slots Q H locs ls C hc hA hX hB hf hP hS hL2)
    | 19, _ =>
      intro p l0 e s m args below meth c A cells slots Q H locs ls C hc hA hX hB hf hP hS hL2
      exact lv_tableIn (tgt := 695) C.1 C.2.1 dL_law_33 (by decide) (by decide) (off := 662) (by decide) rfl (case_19 hL hi h k p l0 e s m args below meth c A cells slots Q H locs ls C hc hA hX hB hf hP hS hL2)
    | 20, _ =>
      intro p l0 e s m args below meth c A cells slots Q H locs ls C hc hA hX hB hf hP hS hL2
      exact lv_tableIn (tgt := 738) C.1 C.2.1 dL_law_33 (by decide) (by decide) (off := 705) (by decide) rfl (case_20 hL hi h k p l0 e s m args below meth c A cells slots Q H locs ls C hc hA hX hB hf hP hS hL2)
    | 21, _ =>
      intro p l0 e s m args below meth c A cells slots Q H locs ls C hc hA hX hB hf hP hS hL2
      exact lv_tableIn (tgt := 751) C.1 C.2.1 dL_law_33 (by decide) (by decide) (off := 718) (by decide) rfl (case_21 hL hi h k p l0 e s m args below meth c A cells slots Q H locs ls C hc hA hX hB hf hP hS hL2)
    | 22, _ =>
      intro p l0 e s m args below meth c A cells slots Q H locs ls C hc hA hX hB hf hP hS hL2
      exact lv_tableIn (tgt := 784) C.1 C.2.1 dL_law_33 (by decide) (by decide) (off := 751) (by decide) rfl (case_22 hL hi h k p l0 e s m args below meth c A cells slots Q H locs ls C hc hA hX hB hf hP hS hL2)
    | 23, _ =>
      intro p l0 e s m args below meth c A cells slots Q H locs ls C hc hA hX hB hf hP hS hL2
      exact lv_tableIn (tgt := 797) C.1 C.2.1 dL_law_33 (by decide) (by decide) (off := 764) (by decide) rfl (case_23 hL hi h k p l0 e s m args below meth c A cells slots Q H locs ls C hc hA hX hB hf hP hS hL2)
    | 24, _ =>
      intro p l0 e s m args below meth c A cells slots Q H locs ls C hc hA hX hB hf hP hS hL2
      exact lv_tableIn (tgt := 810) C.1 C.2.1 dL_law_33 (by decide) (by decide) (off := 777) (by decide) rfl (case_24 hL hi h k p l0 e s m args below meth c A cells slots Q H locs ls C hc hA hX hB hf hP hS hL2)
    | 25, _ =>
      intro p l0 e s m args below meth c A cells slots Q H locs ls C hc hA hX hB hf hP hS hL2
      exact lv_tableIn (tgt := 863) C.1 C.2.1 dL_law_33 (by decide) (by decide) (off := 830) (by decide) rfl (case_25 hL hi h k p l0 e s m args below meth c A cells slots Q H locs ls C hc hA hX hB hf hP hS hL2)
    | 26, _ =>
      intro p l0 e s m args below meth c A cells slots Q H locs ls C hc hA hX hB hf hP hS hL2
      exact lv_tableIn (tgt := 916) C.1 C.2.1 dL_law_33 (by decide) (by decide) (off := 883) (by decide) rfl (case_26 hL hi h k p l0 e s m args below meth c A cells slots Q H locs ls C hc hA hX hB hf hP hS hL2)
    | 27, _ =>
      intro p l0 e s m args below meth c A cells slots Q H locs ls C hc hA hX hB hf hP hS hL2
      exact lv_tableIn (tgt := 939) C.1 C.2.1 dL_law_33 (by decide) (by decide) (off := 906) (by decide) rfl (case_27 hL hi h k p l0 e s m args below meth c A cells slots Q H locs ls C hc hA hX hB hf hP hS hL2)
    | 28, _ =>
      intro p l0 e s m args below meth c A cells slots Q H locs ls C hc hA hX hB hf hP hS hL2
      exact lv_tableIn (tgt := 962) C.1 C.2.1 dL_law_33 (by decide) (by decide) (off := 929) (by decide) rfl (case_28 hL hi h k p l0 e s m args below meth c A cells slots Q H locs ls C hc hA hX hB hf hP hS hL2)
    | 29, _ =>
      intro p l0 e s m args below meth c A cells slots Q H locs ls C hc hA hX hB hf hP hS hL2
      exact lv_tableIn (tgt := 985) C.1 C.2.1 dL_law_33 (by decide) (by decide) (off := 952) (by decide) rfl (case_29 hL hi h k p l0 e s m args below meth c A cells slots Q H locs ls C hc hA hX hB hf hP hS hL2)
    | 30, _ =>
      intro p l0 e s m args below meth c A cells slots Q H locs ls C hc hA hX hB hf hP hS hL2
      exact lv_tableIn (tgt := 1008) C.1 C.2.1 dL_law_33 (by decide) (by decide) (off := 975) (by decide) rfl (case_30 hL hi h k p l0 e s m args below meth c A cells slots Q H locs ls C hc hA hX hB hf hP hS hL2)
    | 31, _ =>
      intro p l0 e s m args below meth c A cells slots Q H locs ls C hc hA hX hB hf hP hS hL2
      exact lv_tableIn (tgt := 1031) C.1 C.2.1 dL_law_33 (by decide) (by decide) (off := 998) (by decide) rfl (case_31 hL hi h k p l0 e s m args below meth c A cells slots Q H locs ls C hc hA hX hB hf hP hS hL2)
    | 32, _ =>
      intro p l0 e s m args below meth c A cells slots Q H locs ls C hc hA hX hB hf hP hS hL2
      exact lv_tableIn (tgt := 1094) C.1 C.2.1 dL_law_33 (by decide) (by decide) (off := 1061) (by decide) rfl (case_32 hL hi h k p l0 e s m args below meth c A cells slots Q H locs ls C hc hA hX hB hf hP hS hL2)
    | 33, _ =>
      intro p l0 e s m args below meth c A cells slots Q H locs ls C hc hA hX hB hf hP hS hL2
      exact lv_tableIn (tgt := 1117) C.1 C.2.1 dL_law_33 (by decide) (by decide) (off := 1084) (by decide) rfl (case_33 hL hi h k p l0 e s m args below meth c A cells slots Q H locs ls C hc hA hX hB hf hP hS hL2)
    | 34, _ =>
      intro p l0 e s m args below meth c A cells slots Q H locs ls C hc hA hX hB hf hP hS hL2
      exact lv_tableIn (tgt := 1150) C.1 C.2.1 dL_law_33 (by decide) (by decide) (off := 1117) (by decide) rfl (case_34 hL hi h k p l0 e s m args below meth c A cells slots Q H locs ls C hc hA hX hB hf hP hS hL2)
    | 35, _ =>
      intro p l0 e s m args below meth c A cells slots Q H locs ls C hc hA hX hB hf hP hS hL2
      exact lv_tableIn (tgt := 1174) C.1 C.2.1 dL_law_33 (by decide) (by decide) (off := 1141) (by decide) rfl (case_35 hL hi h k p l0 e s m args below meth c A cells slots Q H locs ls C hc hA hX hB hf hP hS hL2)
    | 36, _ =>
      intro p l0 e s m args below meth c A cells slots Q H locs ls C hc hA hX hB hf hP hS hL2
      exact lv_tableIn (tgt := 1197) C.1 C.2.1 dL_law_33 (by decide) (by decide) (off := 1164) (by decide) rfl (case_36 hL hi h k p l0 e s m args below meth c A cells slots Q H locs ls C hc hA hX hB hf hP hS hL2)
    | 37, _ =>
      intro p l0 e s m args below meth c A cells slots Q H locs ls C hc hA hX hB hf hP hS hL2
      exact lv_tableIn (tgt := 1220) C.1 C.2.1 dL_law_33 (by decide) (by decide) (off := 1187) (by decide) rfl (case_37 hL hi h k p l0 e s m args below meth c A cells slots Q H locs ls C hc hA hX hB hf hP hS hL2)
    | 38, _ =>
      intro p l0 e s m args below meth c A cells slots Q H locs ls C hc hA hX hB hf hP hS hL2
      exact lv_tableIn (tgt := 1243) C.1 C.2.1 dL_law_33 (by decide) (by decide) (off := 1210) (by decide) rfl (case_38 hL hi h k p l0 e s m args below meth c A cells slots Q H locs ls C hc hA hX hB hf hP hS hL2)
    | 39, _ =>
      intro p l0 e s m args below meth c A cells slots Q H locs ls C hc hA hX hB hf hP hS hL2
      exact lv_tableIn (tgt := 1266) C.1 C.2.1 dL_law_33 (by decide) (by decide) (off := 1233) (by decide) rfl (case_39 hL hi h k p l0 e s m args below meth c A cells slots Q H locs ls C hc hA hX hB hf hP hS hL2)
    | n + 40, hn => exact absurd hn (by omega)
theorem law_cmp {L i : Nat} (hL : L ≤ 384) (hi : i ≤ 400) (h : ¬ nI L - 6 < nI i) : i + 6 ≤ L := by
  by_cases h6 : L < 6
  · exfalso
    refine h ?_
    have h1 : ∀ j : Fin 6, nI j.val - 6 < 0 := by decide
    exact Int32.lt_of_lt_of_le (h1 ⟨L, h6⟩) (Int32.not_lt.mp (nI_pos (by omega)))
  · have e : nI L - 6 = nI (L - 6) := by
      have : nI L = nI (L - 6) + 6 := by rw [show (nI (L - 6) + 6 : Int32) = nI (L - 6 + 6) from nI_add (L - 6) 6, show L - 6 + 6 = L by omega]
      rw [this, Int32.add_sub_cancel]
    rw [e] at h
    rcases Nat.lt_or_ge (L - 6) i with q | q
    · exact absurd (nI_lt q (by omega)) h
    · omega
theorem law_loop {E : xE} {b L : Nat} {xs : Nat → Int32} {F : Option Value → xS → Prop} (hL : L ≤ 384) (hF : ∀ σ, F (some (.int 1)) σ) : ∀ (n i : Nat) (σ : xS), i ≤ L + 6 → L < i + 6 * n + 6 → Inv σ σ → Lx E b L xs F 18 (LL E b i) [] σ := by
  intro n
  induction n with
  | zero =>
    intro i σ h1 h2 h
    refine lx_iload_3 dL_law_18 (lx_aload_0 dL_law_19 (lx_slen dL_law_20 (lx_bipush 6 dL_law_21 rfl (lx_isub dL_law_23 ?_))))
    refine lx_icmp_gt 1286 dL_law_24 rfl (fun _ => lx_iconst_1 dL_law_1286 (lx_ireturn dL_law_1287 (hF σ))) (fun z => ?_)
    have := law_cmp hL (by omega) z
    omega
  | succ n ih =>
    intro i σ h1 h2 h
    refine lx_iload_3 dL_law_18 (lx_aload_0 dL_law_19 (lx_slen dL_law_20 (lx_bipush 6 dL_law_21 rfl (lx_isub dL_law_23 ?_))))
    refine lx_icmp_gt 1286 dL_law_24 rfl (fun _ => lx_iconst_1 dL_law_1286 (lx_ireturn dL_law_1287 (hF σ))) (fun z => ?_)
    have hi : i + 6 ≤ L := law_cmp hL (by omega) z
    refine lx_aload_0 dL_law_27 (lx_iload_3 dL_law_28 (lx_sld dL_law_29 (nI_in (by omega) (by omega)) (lx_bipush 63 dL_law_30 rfl (lx_iand dL_law_32 ?_))))
    refine law_step hL hi h (fun σ2 hI => ?_) _
    refine lx_iinc_3 6 dL_law_1280 rfl rfl ?_
    refine lx_goto 18 dL_law_1283 rfl ?_
    rw [show (nI i + 6 : Int32) = nI (i + 6) from nI_add i 6]
    exact ih (i + 6) σ2 (by omega) (by omega) hI
