/-! ===== THE LAW: rows (the class at cell 0, the reference at cell 73; the script is no cell of the world) ===== -/
def Lx (E : xE) (b L : Nat) (xs : Nat → Int32) (Fin : Option Value → xS → Prop) (pc : Nat) (l : xL) (st : List Value) (σ : xS) : Prop :=
  ∀ (p : Program) (l0 : Launch) (e : Env) (s : State) (m : MethodId) (args : Array Value) (below : List Frame) (meth : Method) (c : Code) (A : Nat → Prop) (cells slots : Nat) (Q : State → Prop) (H : Heap) (locs : List Loc) (ls : Array Slot),
    xC E RL cL_law 4 p s m args c → (cells ≤ room_1.cells ∧ slots ≤ room_1.slots) → xD E A → xX E A s s.heap → (va_X b L xs s s.heap ∧ b < s.heap.size ∧ ¬ A b) →
    (∀ (v : Option Value) (σ' : xS) (H' : Heap) (locs' : List Loc) (ls' : Array Slot) (pc' : Nat), Fin v σ' → xRet cL_law pc' v → va_P E.2.1 vwCl (xw E σ') H' → va_S A s.heap H' locs' → W p l0 e room_1 s m args below meth c H' locs' cells slots Q (F0 m pc' ls' v.toList)) →
    va_P E.2.1 vwCl (xw E σ) H → va_S A s.heap H locs → xR ls 4 l → W p l0 e room_1 s m args below meth c H locs cells slots Q (F0 m pc ls st)
section
variable {E : xE} {b L : Nat} {xs : Nat → Int32} {F : Option Value → xS → Prop} {pc : Nat} {l : xL} {st : List Value} {σ : xS}
theorem lx_iadd {x y : Int32} (d : decode cL_law pc = .ok (.iadd, 1)) (k : Lx E b L xs F (pc + 1) l (.int (x + y) :: st) σ) : Lx E b L xs F pc l (.int y :: .int x :: st) σ := by
  intro p l0 e s m args below meth c A cells slots Q H locs ls C hc hA hX hB hf hP hS hL
  exact lv_iadd C.1 C.2.1 d  (k p l0 e s m args below meth c A cells slots Q H locs ls C hc hA hX hB hf hP hS hL)
theorem lx_isub {x y : Int32} (d : decode cL_law pc = .ok (.isub, 1)) (k : Lx E b L xs F (pc + 1) l (.int (x - y) :: st) σ) : Lx E b L xs F pc l (.int y :: .int x :: st) σ := by
  intro p l0 e s m args below meth c A cells slots Q H locs ls C hc hA hX hB hf hP hS hL
  exact lv_isub C.1 C.2.1 d  (k p l0 e s m args below meth c A cells slots Q H locs ls C hc hA hX hB hf hP hS hL)
theorem lx_iand {x y : Int32} (d : decode cL_law pc = .ok (.iand, 1)) (k : Lx E b L xs F (pc + 1) l (.int (x &&& y) :: st) σ) : Lx E b L xs F pc l (.int y :: .int x :: st) σ := by
  intro p l0 e s m args below meth c A cells slots Q H locs ls C hc hA hX hB hf hP hS hL
  exact lv_iand C.1 C.2.1 d  (k p l0 e s m args below meth c A cells slots Q H locs ls C hc hA hX hB hf hP hS hL)
theorem lx_lcmp {x y : Int64} (d : decode cL_law pc = .ok (.lcmp, 1)) (k : Lx E b L xs F (pc + 1) l (.int (lg_cmp x y) :: st) σ) : Lx E b L xs F pc l (.long y :: .long x :: st) σ := by
  intro p l0 e s m args below meth c A cells slots Q H locs ls C hc hA hX hB hf hP hS hL
  exact W.lcmp C.1 C.2.1 d  (k p l0 e s m args below meth c A cells slots Q H locs ls C hc hA hX hB hf hP hS hL)
theorem lx_bipush {n : Int} (v : Int32) (d : decode cL_law pc = .ok (.bipush n, 2)) (hv : (Int8.ofInt n).toInt32 = v) (k : Lx E b L xs F (pc + 2) l (.int v :: st) σ) : Lx E b L xs F pc l st σ := by
  intro p l0 e s m args below meth c A cells slots Q H locs ls C hc hA hX hB hf hP hS hL
  exact lv_bipush C.1 C.2.1 d hv (k p l0 e s m args below meth c A cells slots Q H locs ls C hc hA hX hB hf hP hS hL)
theorem lx_iconst_0 (d : decode cL_law pc = .ok (.iconst (0), 1)) (k : Lx E b L xs F (pc + 1) l (.int (0) :: st) σ) : Lx E b L xs F pc l st σ := by
  intro p l0 e s m args below meth c A cells slots Q H locs ls C hc hA hX hB hf hP hS hL
  exact lv_iconst (v := 0) C.1 C.2.1 d rfl (k p l0 e s m args below meth c A cells slots Q H locs ls C hc hA hX hB hf hP hS hL)
theorem lx_iconst_1 (d : decode cL_law pc = .ok (.iconst (1), 1)) (k : Lx E b L xs F (pc + 1) l (.int (1) :: st) σ) : Lx E b L xs F pc l st σ := by
  intro p l0 e s m args below meth c A cells slots Q H locs ls C hc hA hX hB hf hP hS hL
  exact lv_iconst (v := 1) C.1 C.2.1 d rfl (k p l0 e s m args below meth c A cells slots Q H locs ls C hc hA hX hB hf hP hS hL)
theorem lx_iconst_2 (d : decode cL_law pc = .ok (.iconst (2), 1)) (k : Lx E b L xs F (pc + 1) l (.int (2) :: st) σ) : Lx E b L xs F pc l st σ := by
  intro p l0 e s m args below meth c A cells slots Q H locs ls C hc hA hX hB hf hP hS hL
  exact lv_iconst (v := 2) C.1 C.2.1 d rfl (k p l0 e s m args below meth c A cells slots Q H locs ls C hc hA hX hB hf hP hS hL)
theorem lx_iconst_3 (d : decode cL_law pc = .ok (.iconst (3), 1)) (k : Lx E b L xs F (pc + 1) l (.int (3) :: st) σ) : Lx E b L xs F pc l st σ := by
  intro p l0 e s m args below meth c A cells slots Q H locs ls C hc hA hX hB hf hP hS hL
  exact lv_iconst (v := 3) C.1 C.2.1 d rfl (k p l0 e s m args below meth c A cells slots Q H locs ls C hc hA hX hB hf hP hS hL)
theorem lx_iconst_4 (d : decode cL_law pc = .ok (.iconst (4), 1)) (k : Lx E b L xs F (pc + 1) l (.int (4) :: st) σ) : Lx E b L xs F pc l st σ := by
  intro p l0 e s m args below meth c A cells slots Q H locs ls C hc hA hX hB hf hP hS hL
  exact lv_iconst (v := 4) C.1 C.2.1 d rfl (k p l0 e s m args below meth c A cells slots Q H locs ls C hc hA hX hB hf hP hS hL)
theorem lx_iconst_5 (d : decode cL_law pc = .ok (.iconst (5), 1)) (k : Lx E b L xs F (pc + 1) l (.int (5) :: st) σ) : Lx E b L xs F pc l st σ := by
  intro p l0 e s m args below meth c A cells slots Q H locs ls C hc hA hX hB hf hP hS hL
  exact lv_iconst (v := 5) C.1 C.2.1 d rfl (k p l0 e s m args below meth c A cells slots Q H locs ls C hc hA hX hB hf hP hS hL)
theorem lx_icmp_eq {x y : Int32} {off : Int} (tgt : Nat) (d : decode cL_law pc = .ok (.if_icmp .eq off, 3)) (ht : (pc : Int) + off = (tgt : Int)) (kt : x = y → Lx E b L xs F tgt l st σ) (kf : ¬ x = y → Lx E b L xs F (pc + 3) l st σ) : Lx E b L xs F pc l (.int y :: .int x :: st) σ := by
  intro p l0 e s m args below meth c A cells slots Q H locs ls C hc hA hX hB hf hP hS hL
  exact lv_icmp_eq C.1 C.2.1 d ht (fun h => kt h p l0 e s m args below meth c A cells slots Q H locs ls C hc hA hX hB hf hP hS hL) (fun h => kf h p l0 e s m args below meth c A cells slots Q H locs ls C hc hA hX hB hf hP hS hL)
theorem lx_icmp_gt {x y : Int32} {off : Int} (tgt : Nat) (d : decode cL_law pc = .ok (.if_icmp .gt off, 3)) (ht : (pc : Int) + off = (tgt : Int)) (kt : y < x → Lx E b L xs F tgt l st σ) (kf : ¬ y < x → Lx E b L xs F (pc + 3) l st σ) : Lx E b L xs F pc l (.int y :: .int x :: st) σ := by
  intro p l0 e s m args below meth c A cells slots Q H locs ls C hc hA hX hB hf hP hS hL
  exact lv_icmp_gt C.1 C.2.1 d ht (fun h => kt h p l0 e s m args below meth c A cells slots Q H locs ls C hc hA hX hB hf hP hS hL) (fun h => kf h p l0 e s m args below meth c A cells slots Q H locs ls C hc hA hX hB hf hP hS hL)
theorem lx_if_eq {x : Int32} {off : Int} (tgt : Nat) (d : decode cL_law pc = .ok (.ifCond .eq off, 3)) (ht : (pc : Int) + off = (tgt : Int)) (kt : x = 0 → Lx E b L xs F tgt l st σ) (kf : ¬ x = 0 → Lx E b L xs F (pc + 3) l st σ) : Lx E b L xs F pc l (.int x :: st) σ := by
  intro p l0 e s m args below meth c A cells slots Q H locs ls C hc hA hX hB hf hP hS hL
  exact lv_if_eq C.1 C.2.1 d ht (fun h => kt h p l0 e s m args below meth c A cells slots Q H locs ls C hc hA hX hB hf hP hS hL) (fun h => kf h p l0 e s m args below meth c A cells slots Q H locs ls C hc hA hX hB hf hP hS hL)
theorem lx_goto {off : Int} (tgt : Nat) (d : decode cL_law pc = .ok (.goto off, 3)) (ht : (pc : Int) + off = (tgt : Int)) (k : Lx E b L xs F tgt l st σ) : Lx E b L xs F pc l st σ := by
  intro p l0 e s m args below meth c A cells slots Q H locs ls C hc hA hX hB hf hP hS hL
  exact lv_goto C.1 C.2.1 d ht (k p l0 e s m args below meth c A cells slots Q H locs ls C hc hA hX hB hf hP hS hL)
theorem lx_ireturn {x : Int32} (d : decode cL_law pc = .ok (.ireturn, 1)) (k : F (some (.int x)) σ) : Lx E b L xs F pc l [.int x] σ := by
  intro p l0 e s m args below meth c A cells slots Q H locs ls C hc hA hX hB hf hP hS hL
  exact hf _ σ H locs ls pc k (Or.inl ⟨x, rfl, d⟩) hP hS
theorem lx_aload_0 {x : Nat} {t : xL} (d : decode cL_law pc = .ok (.aload_n 0, 1)) (k : Lx E b L xs F (pc + 1) (some (.ref x) :: t) (.ref x :: st) σ) : Lx E b L xs F pc (some (.ref x) :: t) st σ := by
  intro p l0 e s m args below meth c A cells slots Q H locs ls C hc hA hX hB hf hP hS hL
  exact lv_aload_n C.1 C.2.1 d rfl (hL.get (i := 0) rfl) (k p l0 e s m args below meth c A cells slots Q H locs ls C hc hA hX hB hf hP hS hL)
theorem lx_aload_1 {a0 : Option Value} {x : Nat} {t : xL} (d : decode cL_law pc = .ok (.aload_n 1, 1)) (k : Lx E b L xs F (pc + 1) (a0 :: some (.ref x) :: t) (.ref x :: st) σ) : Lx E b L xs F pc (a0 :: some (.ref x) :: t) st σ := by
  intro p l0 e s m args below meth c A cells slots Q H locs ls C hc hA hX hB hf hP hS hL
  exact lv_aload_n C.1 C.2.1 d rfl (hL.get (i := 1) rfl) (k p l0 e s m args below meth c A cells slots Q H locs ls C hc hA hX hB hf hP hS hL)
theorem lx_aload_2 {a0 a1 : Option Value} {x : Nat} {t : xL} (d : decode cL_law pc = .ok (.aload_n 2, 1)) (k : Lx E b L xs F (pc + 1) (a0 :: a1 :: some (.ref x) :: t) (.ref x :: st) σ) : Lx E b L xs F pc (a0 :: a1 :: some (.ref x) :: t) st σ := by
  intro p l0 e s m args below meth c A cells slots Q H locs ls C hc hA hX hB hf hP hS hL
  exact lv_aload_n C.1 C.2.1 d rfl (hL.get (i := 2) rfl) (k p l0 e s m args below meth c A cells slots Q H locs ls C hc hA hX hB hf hP hS hL)
theorem lx_iload_3 {a0 a1 a2 : Option Value} {x : Int32} {t : xL} (d : decode cL_law pc = .ok (.iload_n 3, 1)) (k : Lx E b L xs F (pc + 1) (a0 :: a1 :: a2 :: some (.int x) :: t) (.int x :: st) σ) : Lx E b L xs F pc (a0 :: a1 :: a2 :: some (.int x) :: t) st σ := by
  intro p l0 e s m args below meth c A cells slots Q H locs ls C hc hA hX hB hf hP hS hL
  exact lv_iload_n C.1 C.2.1 d rfl (hL.get (i := 3) rfl) (k p l0 e s m args below meth c A cells slots Q H locs ls C hc hA hX hB hf hP hS hL)
theorem lx_iinc_3 {a0 a1 a2 : Option Value} {x : Int32} {n : Int} {t : xL} (v : Int32) (d : decode cL_law pc = .ok (.iinc 3 n, 3)) (hv : Int32.ofInt n = v) (hp : x_nl a2 = true) (k : Lx E b L xs F (pc + 3) (a0 :: a1 :: a2 :: some (.int (x + v)) :: t) st σ) : Lx E b L xs F pc (a0 :: a1 :: a2 :: some (.int x) :: t) st σ := by
  intro p l0 e s m args below meth c A cells slots Q H locs ls C hc hA hX hB hf hP hS hL
  have hi : 3 < (a0 :: a1 :: a2 :: some (.int x) :: t).length := by simp
  obtain ⟨kk, hkk⟩ := List.getElem?_of_mem ((xll_mem (a0 :: a1 :: a2 :: some (.int x) :: t) 0 3 (.int x)).mpr ⟨3, by omega, rfl⟩)
  refine lv_iinc (v := x + v) C.1 C.2.1 d hL.1 hkk (by rw [hv]) (by rw [← hL.2]; exact hi) rfl (fun ls2 h2 => ?_)
  exact k p l0 e s m args below meth c A cells slots Q H locs ls2 C hc hA hX hB hf hP hS (hL.setI (.int (x + v)) hi (fun w _ h => x_nl_ok hp w (Option.some.inj h)) h2)
theorem lx_invV {idx i ci d' n maxL : Nat} {y : MethodName} {bytes : ByteArray} {ret : Option FieldType} {as st0 : List Value} {r : Option Value} {σ' : xS} (d : decode cL_law pc = .ok (.invokevirtual idx, 3)) (ml : ML RL idx y) (mv : MV y bytes maxL ret n) (ct : Ct E d' y bytes maxL ret (.ref (E.1 i) :: as) σ r σ') (hi : i < xN ∧ xcls i = ci) (h7 : ci < 7) (hcl : (vwCl[ci]?).map (fun q => q.1) = some y.cls) (hn : as.length = n) (hst : st0 = as.reverse ++ .ref (E.1 i) :: st) (hR : d' + 1 ≤ room_1.frames ∧ 200 * (d' + 1) ≤ room_1.locals) (hw : (st.map fun v => v.category).sum ≤ 8)
    (k : Lx E b L xs F (pc + 3) l (r.toList ++ st) σ') : Lx E b L xs F pc l st0 σ := by
  intro p l0 e s m args below meth c A cells slots Q H locs ls C hc hA hX hB hf hP hS hL
  obtain ⟨⟨hini, hcode, hy, hmx⟩, hinst, hsel⟩ := mv
  have hts := C.2.2.2.2.1
  have hfr : (rm d').frames + 1 ≤ room_1.frames ∧ 8 + (maxL + 11) + (rm d').locals ≤ room_1.locals := ⟨hR.1, by show 8 + (maxL + 11) + 200 * d' ≤ room_1.locals; omega⟩
  obtain ⟨q, hq, hq1⟩ : ∃ q, vwCl[ci]? = some q ∧ q.1 = y.cls := by
    cases hh : vwCl[ci]? with
    | none => rw [hh] at hcl; cases hcl
    | some q => rw [hh] at hcl; exact ⟨q, rfl, Option.some.inj hcl⟩
  have hrec := va_recv C.2.2.2.2.2.1 hP (ci := ci) (q0 := i) hq (xw_getO E σ hi h7)
  rw [hq1] at hrec
  refine x_call (r := r) (σ' := σ') (rest := st) (a := (Value.ref (E.1 i) :: as).toArray) ?_ hS hA (fun H1 locs1 hP1 hS1 => k p l0 e s m args below meth c A cells slots Q H1 locs1 ls C hc hA hX hB hf hP1 hS1 hL)
  rcases ml with ml | ⟨host, ml⟩
  · exact va_runV (As := as) (rest := st) ⟨C.1, C.2.1, C.2.2.1, C.2.2.2.1, hts⟩ (ct l0) ⟨callB_of n hts (x_goodIn' hcode) rfl rfl rfl (hts _ hini) (hts _ ml) hy hfr, hts _ hinst, hts _ hsel⟩ ⟨xPc_blind, hrec, x_pre hP hS hA hX C.2.2.2.2.2.1 C.2.2.2.2.2.2⟩ rfl hn hL.1.1 hst (lv_room hw) d ⟨hc.1, hc.2⟩
  · exact va_runVN (As := as) (rest := st) ⟨C.1, C.2.1, C.2.2.1, C.2.2.2.1, hts⟩ (ct l0) ⟨va_cnB n hts (x_goodIn' hcode) rfl rfl rfl (C.2.2.2.2.2.2 _ ml) (hts _ hini) hy hfr, hts _ hinst, hts _ hsel⟩ ⟨xPc_blind, hrec, x_pre hP hS hA hX C.2.2.2.2.2.1 C.2.2.2.2.2.2⟩ rfl hn hL.1.1 hst (lv_room hw) d ⟨hc.1, hc.2⟩
theorem lx_slen (d : decode cL_law pc = .ok (.arraylength, 1)) (k : Lx E b L xs F (pc + 1) l (.int (Int32.ofNat L) :: st) σ) : Lx E b L xs F pc l (.ref b :: st) σ := by
  intro p l0 e s m args below meth c A cells slots Q H locs ls C hc hA hX hB hf hP hS hL
  exact va_slen C.1 C.2.1 hB.1 hB.2.1 hB.2.2 hS d (k p l0 e s m args below meth c A cells slots Q H locs ls C hc hA hX hB hf hP hS hL)
theorem lx_sld {i : Int32} (d : decode cL_law pc = .ok (.iaload, 1)) (hin : vp_in i L) (k : Lx E b L xs F (pc + 1) l (.int (xs i.toNatClampNeg) :: st) σ) : Lx E b L xs F pc l (.int i :: .ref b :: st) σ := by
  intro p l0 e s m args below meth c A cells slots Q H locs ls C hc hA hX hB hf hP hS hL
  exact va_sld C.1 C.2.1 hB.1 hB.2.1 hB.2.2 hS hin d (k p l0 e s m args below meth c A cells slots Q H locs ls C hc hA hX hB hf hP hS hL)
/-- the law's locals -/
def LL (E : xE) (b i : Nat) : xL := [some (.ref b), some (.ref (E.1 0)), some (.ref (E.1 73)), some (.int (nI i))]
theorem lx_arg1 {i : Nat} (d0 : decode cL_law pc = .ok (.aload_n 0, 1)) (d1 : decode cL_law (pc + 1) = .ok (.iload_n 3, 1)) (d2 : decode cL_law (pc + 2) = .ok (.iconst 1, 1)) (d3 : decode cL_law (pc + 3) = .ok (.iadd, 1)) (d4 : decode cL_law (pc + 4) = .ok (.iaload, 1)) (hL : L ≤ 384) (hi : i + 6 ≤ L) (k : Lx E b L xs F (pc + 5) (LL E b i) (.int (xs (nI i + 1).toNatClampNeg) :: st) σ) : Lx E b L xs F pc (LL E b i) st σ :=
  lx_aload_0 d0 (lx_iload_3 d1 (lx_iconst_1 d2 (lx_iadd d3 (lx_sld d4 (by rw [show (nI i + 1 : Int32) = nI (i + 1) from nI_add i 1]; exact nI_in (by omega) (by omega)) k))))
theorem lx_arg2 {i : Nat} (d0 : decode cL_law pc = .ok (.aload_n 0, 1)) (d1 : decode cL_law (pc + 1) = .ok (.iload_n 3, 1)) (d2 : decode cL_law (pc + 2) = .ok (.iconst 2, 1)) (d3 : decode cL_law (pc + 3) = .ok (.iadd, 1)) (d4 : decode cL_law (pc + 4) = .ok (.iaload, 1)) (hL : L ≤ 384) (hi : i + 6 ≤ L) (k : Lx E b L xs F (pc + 5) (LL E b i) (.int (xs (nI i + 2).toNatClampNeg) :: st) σ) : Lx E b L xs F pc (LL E b i) st σ :=
  lx_aload_0 d0 (lx_iload_3 d1 (lx_iconst_2 d2 (lx_iadd d3 (lx_sld d4 (by rw [show (nI i + 2 : Int32) = nI (i + 2) from nI_add i 2]; exact nI_in (by omega) (by omega)) k))))
theorem lx_arg3 {i : Nat} (d0 : decode cL_law pc = .ok (.aload_n 0, 1)) (d1 : decode cL_law (pc + 1) = .ok (.iload_n 3, 1)) (d2 : decode cL_law (pc + 2) = .ok (.iconst 3, 1)) (d3 : decode cL_law (pc + 3) = .ok (.iadd, 1)) (d4 : decode cL_law (pc + 4) = .ok (.iaload, 1)) (hL : L ≤ 384) (hi : i + 6 ≤ L) (k : Lx E b L xs F (pc + 5) (LL E b i) (.int (xs (nI i + 3).toNatClampNeg) :: st) σ) : Lx E b L xs F pc (LL E b i) st σ :=
  lx_aload_0 d0 (lx_iload_3 d1 (lx_iconst_3 d2 (lx_iadd d3 (lx_sld d4 (by rw [show (nI i + 3 : Int32) = nI (i + 3) from nI_add i 3]; exact nI_in (by omega) (by omega)) k))))
theorem lx_arg4 {i : Nat} (d0 : decode cL_law pc = .ok (.aload_n 0, 1)) (d1 : decode cL_law (pc + 1) = .ok (.iload_n 3, 1)) (d2 : decode cL_law (pc + 2) = .ok (.iconst 4, 1)) (d3 : decode cL_law (pc + 3) = .ok (.iadd, 1)) (d4 : decode cL_law (pc + 4) = .ok (.iaload, 1)) (hL : L ≤ 384) (hi : i + 6 ≤ L) (k : Lx E b L xs F (pc + 5) (LL E b i) (.int (xs (nI i + 4).toNatClampNeg) :: st) σ) : Lx E b L xs F pc (LL E b i) st σ :=
  lx_aload_0 d0 (lx_iload_3 d1 (lx_iconst_4 d2 (lx_iadd d3 (lx_sld d4 (by rw [show (nI i + 4 : Int32) = nI (i + 4) from nI_add i 4]; exact nI_in (by omega) (by omega)) k))))
theorem lx_arg5 {i : Nat} (d0 : decode cL_law pc = .ok (.aload_n 0, 1)) (d1 : decode cL_law (pc + 1) = .ok (.iload_n 3, 1)) (d2 : decode cL_law (pc + 2) = .ok (.iconst 5, 1)) (d3 : decode cL_law (pc + 3) = .ok (.iadd, 1)) (d4 : decode cL_law (pc + 4) = .ok (.iaload, 1)) (hL : L ≤ 384) (hi : i + 6 ≤ L) (k : Lx E b L xs F (pc + 5) (LL E b i) (.int (xs (nI i + 5).toNatClampNeg) :: st) σ) : Lx E b L xs F pc (LL E b i) st σ :=
  lx_aload_0 d0 (lx_iload_3 d1 (lx_iconst_5 d2 (lx_iadd d3 (lx_sld d4 (by rw [show (nI i + 5 : Int32) = nI (i + 5) from nI_add i 5]; exact nI_in (by omega) (by omega)) k))))
end
