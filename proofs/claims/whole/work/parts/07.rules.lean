section
variable {E : xE} {R : Room} {own : String} {cc : ByteArray} {nL : Nat} {F : Option Value → xS → Prop} {pc : Nat} {l : xL} {st : List Value} {σ : xS}
theorem ev_iadd {x y : Int32} (d : decode cc pc = .ok (.iadd, 1)) (k : Ev E R own cc nL F (pc + 1) l (.int (x + y) :: st) σ) : Ev E R own cc nL F pc l (.int y :: .int x :: st) σ := by
  intro p l0 e s m args below meth c A cells slots Q H locs ls C hc hA hX hf hP hS hL
  exact lv_iadd C.1 C.2.1 d  (k p l0 e s m args below meth c A cells slots Q H locs ls C hc hA hX hf hP hS hL)
theorem ev_isub {x y : Int32} (d : decode cc pc = .ok (.isub, 1)) (k : Ev E R own cc nL F (pc + 1) l (.int (x - y) :: st) σ) : Ev E R own cc nL F pc l (.int y :: .int x :: st) σ := by
  intro p l0 e s m args below meth c A cells slots Q H locs ls C hc hA hX hf hP hS hL
  exact lv_isub C.1 C.2.1 d  (k p l0 e s m args below meth c A cells slots Q H locs ls C hc hA hX hf hP hS hL)
theorem ev_imul {x y : Int32} (d : decode cc pc = .ok (.imul, 1)) (k : Ev E R own cc nL F (pc + 1) l (.int (x * y) :: st) σ) : Ev E R own cc nL F pc l (.int y :: .int x :: st) σ := by
  intro p l0 e s m args below meth c A cells slots Q H locs ls C hc hA hX hf hP hS hL
  exact lv_imul C.1 C.2.1 d  (k p l0 e s m args below meth c A cells slots Q H locs ls C hc hA hX hf hP hS hL)
theorem ev_iand {x y : Int32} (d : decode cc pc = .ok (.iand, 1)) (k : Ev E R own cc nL F (pc + 1) l (.int (x &&& y) :: st) σ) : Ev E R own cc nL F pc l (.int y :: .int x :: st) σ := by
  intro p l0 e s m args below meth c A cells slots Q H locs ls C hc hA hX hf hP hS hL
  exact lv_iand C.1 C.2.1 d  (k p l0 e s m args below meth c A cells slots Q H locs ls C hc hA hX hf hP hS hL)
theorem ev_ior {x y : Int32} (d : decode cc pc = .ok (.ior, 1)) (k : Ev E R own cc nL F (pc + 1) l (.int (x ||| y) :: st) σ) : Ev E R own cc nL F pc l (.int y :: .int x :: st) σ := by
  intro p l0 e s m args below meth c A cells slots Q H locs ls C hc hA hX hf hP hS hL
  exact lv_ior C.1 C.2.1 d  (k p l0 e s m args below meth c A cells slots Q H locs ls C hc hA hX hf hP hS hL)
theorem ev_ixor {x y : Int32} (d : decode cc pc = .ok (.ixor, 1)) (k : Ev E R own cc nL F (pc + 1) l (.int (x ^^^ y) :: st) σ) : Ev E R own cc nL F pc l (.int y :: .int x :: st) σ := by
  intro p l0 e s m args below meth c A cells slots Q H locs ls C hc hA hX hf hP hS hL
  exact lv_ixor C.1 C.2.1 d  (k p l0 e s m args below meth c A cells slots Q H locs ls C hc hA hX hf hP hS hL)
theorem ev_ishl {x y : Int32} (d : decode cc pc = .ok (.ishl, 1)) (k : Ev E R own cc nL F (pc + 1) l (.int (x <<< (y &&& 31)) :: st) σ) : Ev E R own cc nL F pc l (.int y :: .int x :: st) σ := by
  intro p l0 e s m args below meth c A cells slots Q H locs ls C hc hA hX hf hP hS hL
  exact lv_ishl C.1 C.2.1 d  (k p l0 e s m args below meth c A cells slots Q H locs ls C hc hA hX hf hP hS hL)
theorem ev_ishr {x y : Int32} (d : decode cc pc = .ok (.ishr, 1)) (k : Ev E R own cc nL F (pc + 1) l (.int (x >>> (y &&& 31)) :: st) σ) : Ev E R own cc nL F pc l (.int y :: .int x :: st) σ := by
  intro p l0 e s m args below meth c A cells slots Q H locs ls C hc hA hX hf hP hS hL
  exact lv_ishr C.1 C.2.1 d  (k p l0 e s m args below meth c A cells slots Q H locs ls C hc hA hX hf hP hS hL)
theorem ev_idiv {x y : Int32} (d : decode cc pc = .ok (.idiv, 1)) (h : ¬ y = 0) (k : Ev E R own cc nL F (pc + 1) l (.int (x / y) :: st) σ) : Ev E R own cc nL F pc l (.int y :: .int x :: st) σ := by
  intro p l0 e s m args below meth c A cells slots Q H locs ls C hc hA hX hf hP hS hL
  exact lv_idiv C.1 C.2.1 d h (k p l0 e s m args below meth c A cells slots Q H locs ls C hc hA hX hf hP hS hL)
theorem ev_irem {x y : Int32} (d : decode cc pc = .ok (.irem, 1)) (h : ¬ y = 0) (k : Ev E R own cc nL F (pc + 1) l (.int (x - x / y * y) :: st) σ) : Ev E R own cc nL F pc l (.int y :: .int x :: st) σ := by
  intro p l0 e s m args below meth c A cells slots Q H locs ls C hc hA hX hf hP hS hL
  exact lv_irem C.1 C.2.1 d h (k p l0 e s m args below meth c A cells slots Q H locs ls C hc hA hX hf hP hS hL)
theorem ev_iushr {x y : Int32} (d : decode cc pc = .ok (.iushr, 1)) (k : Ev E R own cc nL F (pc + 1) l (.int ((x.toUInt32 >>> (y.toUInt32 &&& Int32.toUInt32 31)).toInt32) :: st) σ) : Ev E R own cc nL F pc l (.int y :: .int x :: st) σ := by
  intro p l0 e s m args below meth c A cells slots Q H locs ls C hc hA hX hf hP hS hL
  exact lv_iushr C.1 C.2.1 d rfl (k p l0 e s m args below meth c A cells slots Q H locs ls C hc hA hX hf hP hS hL)
theorem ev_i2l {x : Int32} (d : decode cc pc = .ok (.i2l, 1)) (k : Ev E R own cc nL F (pc + 1) l (.long x.toInt64 :: st) σ) : Ev E R own cc nL F pc l (.int x :: st) σ := by
  intro p l0 e s m args below meth c A cells slots Q H locs ls C hc hA hX hf hP hS hL
  exact lv_i2l C.1 C.2.1 d rfl (k p l0 e s m args below meth c A cells slots Q H locs ls C hc hA hX hf hP hS hL)
theorem ev_l2i {x : Int64} (d : decode cc pc = .ok (.l2i, 1)) (k : Ev E R own cc nL F (pc + 1) l (.int x.toInt32 :: st) σ) : Ev E R own cc nL F pc l (.long x :: st) σ := by
  intro p l0 e s m args below meth c A cells slots Q H locs ls C hc hA hX hf hP hS hL
  exact lv_l2i C.1 C.2.1 d rfl (k p l0 e s m args below meth c A cells slots Q H locs ls C hc hA hX hf hP hS hL)
theorem ev_i2c {x : Int32} (d : decode cc pc = .ok (.i2c, 1)) (k : Ev E R own cc nL F (pc + 1) l (.int (x.toUInt32 % 65536).toInt32 :: st) σ) : Ev E R own cc nL F pc l (.int x :: st) σ := by
  intro p l0 e s m args below meth c A cells slots Q H locs ls C hc hA hX hf hP hS hL
  exact lv_i2c C.1 C.2.1 d rfl (k p l0 e s m args below meth c A cells slots Q H locs ls C hc hA hX hf hP hS hL)
theorem ev_ladd {x y : Int64} (d : decode cc pc = .ok (.ladd, 1)) (k : Ev E R own cc nL F (pc + 1) l (.long (x + y) :: st) σ) : Ev E R own cc nL F pc l (.long y :: .long x :: st) σ := by
  intro p l0 e s m args below meth c A cells slots Q H locs ls C hc hA hX hf hP hS hL
  exact lv_ladd C.1 C.2.1 d  (k p l0 e s m args below meth c A cells slots Q H locs ls C hc hA hX hf hP hS hL)
theorem ev_lsub {x y : Int64} (d : decode cc pc = .ok (.lsub, 1)) (k : Ev E R own cc nL F (pc + 1) l (.long (x - y) :: st) σ) : Ev E R own cc nL F pc l (.long y :: .long x :: st) σ := by
  intro p l0 e s m args below meth c A cells slots Q H locs ls C hc hA hX hf hP hS hL
  exact lv_lsub C.1 C.2.1 d  (k p l0 e s m args below meth c A cells slots Q H locs ls C hc hA hX hf hP hS hL)
theorem ev_lmul {x y : Int64} (d : decode cc pc = .ok (.lmul, 1)) (k : Ev E R own cc nL F (pc + 1) l (.long (x * y) :: st) σ) : Ev E R own cc nL F pc l (.long y :: .long x :: st) σ := by
  intro p l0 e s m args below meth c A cells slots Q H locs ls C hc hA hX hf hP hS hL
  exact lv_lmul C.1 C.2.1 d  (k p l0 e s m args below meth c A cells slots Q H locs ls C hc hA hX hf hP hS hL)
theorem ev_ldiv {x y : Int64} (d : decode cc pc = .ok (.ldiv, 1)) (h : ¬ y = 0) (k : Ev E R own cc nL F (pc + 1) l (.long (x / y) :: st) σ) : Ev E R own cc nL F pc l (.long y :: .long x :: st) σ := by
  intro p l0 e s m args below meth c A cells slots Q H locs ls C hc hA hX hf hP hS hL
  exact lv_ldiv C.1 C.2.1 d h (k p l0 e s m args below meth c A cells slots Q H locs ls C hc hA hX hf hP hS hL)
theorem ev_lrem {x y : Int64} (d : decode cc pc = .ok (.lrem, 1)) (h : ¬ y = 0) (k : Ev E R own cc nL F (pc + 1) l (.long (x - x / y * y) :: st) σ) : Ev E R own cc nL F pc l (.long y :: .long x :: st) σ := by
  intro p l0 e s m args below meth c A cells slots Q H locs ls C hc hA hX hf hP hS hL
  exact lv_lrem C.1 C.2.1 d h (k p l0 e s m args below meth c A cells slots Q H locs ls C hc hA hX hf hP hS hL)
theorem ev_lcmp {x y : Int64} (d : decode cc pc = .ok (.lcmp, 1)) (k : Ev E R own cc nL F (pc + 1) l (.int (lg_cmp x y) :: st) σ) : Ev E R own cc nL F pc l (.long y :: .long x :: st) σ := by
  intro p l0 e s m args below meth c A cells slots Q H locs ls C hc hA hX hf hP hS hL
  exact W.lcmp C.1 C.2.1 d  (k p l0 e s m args below meth c A cells slots Q H locs ls C hc hA hX hf hP hS hL)
theorem ev_dup {va : Value} (d : decode cc pc = .ok (.dup, 1)) (h : va.category = 1) (k : Ev E R own cc nL F (pc + 1) l (va :: va :: st) σ) : Ev E R own cc nL F pc l (va :: st) σ := by
  intro p l0 e s m args below meth c A cells slots Q H locs ls C hc hA hX hf hP hS hL
  exact lv_dup C.1 C.2.1 d h (k p l0 e s m args below meth c A cells slots Q H locs ls C hc hA hX hf hP hS hL)
theorem ev_pop {va : Value} (d : decode cc pc = .ok (.pop, 1)) (h : va.category = 1) (k : Ev E R own cc nL F (pc + 1) l (st) σ) : Ev E R own cc nL F pc l (va :: st) σ := by
  intro p l0 e s m args below meth c A cells slots Q H locs ls C hc hA hX hf hP hS hL
  exact lv_pop C.1 C.2.1 d h (k p l0 e s m args below meth c A cells slots Q H locs ls C hc hA hX hf hP hS hL)
theorem ev_dup2 {va vb : Value} (d : decode cc pc = .ok (.dup2, 1)) (h1 : va.category = 1) (h2 : vb.category = 1) (k : Ev E R own cc nL F (pc + 1) l (va :: vb :: va :: vb :: st) σ) : Ev E R own cc nL F pc l (va :: vb :: st) σ := by
  intro p l0 e s m args below meth c A cells slots Q H locs ls C hc hA hX hf hP hS hL
  exact lv_dup2_11 C.1 C.2.1 d h1 h2 (k p l0 e s m args below meth c A cells slots Q H locs ls C hc hA hX hf hP hS hL)
theorem ev_iconst_m1 (d : decode cc pc = .ok (.iconst (-1), 1)) (k : Ev E R own cc nL F (pc + 1) l (.int (-1) :: st) σ) : Ev E R own cc nL F pc l st σ := by
  intro p l0 e s m args below meth c A cells slots Q H locs ls C hc hA hX hf hP hS hL
  exact lv_iconst (v := -1) C.1 C.2.1 d rfl (k p l0 e s m args below meth c A cells slots Q H locs ls C hc hA hX hf hP hS hL)
theorem ev_iconst_0 (d : decode cc pc = .ok (.iconst (0), 1)) (k : Ev E R own cc nL F (pc + 1) l (.int (0) :: st) σ) : Ev E R own cc nL F pc l st σ := by
  intro p l0 e s m args below meth c A cells slots Q H locs ls C hc hA hX hf hP hS hL
  exact lv_iconst (v := 0) C.1 C.2.1 d rfl (k p l0 e s m args below meth c A cells slots Q H locs ls C hc hA hX hf hP hS hL)
theorem ev_iconst_1 (d : decode cc pc = .ok (.iconst (1), 1)) (k : Ev E R own cc nL F (pc + 1) l (.int (1) :: st) σ) : Ev E R own cc nL F pc l st σ := by
  intro p l0 e s m args below meth c A cells slots Q H locs ls C hc hA hX hf hP hS hL
  exact lv_iconst (v := 1) C.1 C.2.1 d rfl (k p l0 e s m args below meth c A cells slots Q H locs ls C hc hA hX hf hP hS hL)
theorem ev_iconst_2 (d : decode cc pc = .ok (.iconst (2), 1)) (k : Ev E R own cc nL F (pc + 1) l (.int (2) :: st) σ) : Ev E R own cc nL F pc l st σ := by
  intro p l0 e s m args below meth c A cells slots Q H locs ls C hc hA hX hf hP hS hL
  exact lv_iconst (v := 2) C.1 C.2.1 d rfl (k p l0 e s m args below meth c A cells slots Q H locs ls C hc hA hX hf hP hS hL)
theorem ev_iconst_3 (d : decode cc pc = .ok (.iconst (3), 1)) (k : Ev E R own cc nL F (pc + 1) l (.int (3) :: st) σ) : Ev E R own cc nL F pc l st σ := by
  intro p l0 e s m args below meth c A cells slots Q H locs ls C hc hA hX hf hP hS hL
  exact lv_iconst (v := 3) C.1 C.2.1 d rfl (k p l0 e s m args below meth c A cells slots Q H locs ls C hc hA hX hf hP hS hL)
theorem ev_iconst_4 (d : decode cc pc = .ok (.iconst (4), 1)) (k : Ev E R own cc nL F (pc + 1) l (.int (4) :: st) σ) : Ev E R own cc nL F pc l st σ := by
  intro p l0 e s m args below meth c A cells slots Q H locs ls C hc hA hX hf hP hS hL
  exact lv_iconst (v := 4) C.1 C.2.1 d rfl (k p l0 e s m args below meth c A cells slots Q H locs ls C hc hA hX hf hP hS hL)
theorem ev_iconst_5 (d : decode cc pc = .ok (.iconst (5), 1)) (k : Ev E R own cc nL F (pc + 1) l (.int (5) :: st) σ) : Ev E R own cc nL F pc l st σ := by
  intro p l0 e s m args below meth c A cells slots Q H locs ls C hc hA hX hf hP hS hL
  exact lv_iconst (v := 5) C.1 C.2.1 d rfl (k p l0 e s m args below meth c A cells slots Q H locs ls C hc hA hX hf hP hS hL)
theorem ev_lconst_0 (d : decode cc pc = .ok (.lconst 0, 1)) (k : Ev E R own cc nL F (pc + 1) l (.long 0 :: st) σ) : Ev E R own cc nL F pc l st σ := by
  intro p l0 e s m args below meth c A cells slots Q H locs ls C hc hA hX hf hP hS hL
  exact lv_lconst (v := 0) C.1 C.2.1 d rfl (k p l0 e s m args below meth c A cells slots Q H locs ls C hc hA hX hf hP hS hL)
theorem ev_lconst_1 (d : decode cc pc = .ok (.lconst 1, 1)) (k : Ev E R own cc nL F (pc + 1) l (.long 1 :: st) σ) : Ev E R own cc nL F pc l st σ := by
  intro p l0 e s m args below meth c A cells slots Q H locs ls C hc hA hX hf hP hS hL
  exact lv_lconst (v := 1) C.1 C.2.1 d rfl (k p l0 e s m args below meth c A cells slots Q H locs ls C hc hA hX hf hP hS hL)
theorem ev_bipush {n : Int} (v : Int32) (d : decode cc pc = .ok (.bipush n, 2)) (hv : (Int8.ofInt n).toInt32 = v) (k : Ev E R own cc nL F (pc + 2) l (.int v :: st) σ) : Ev E R own cc nL F pc l st σ := by
  intro p l0 e s m args below meth c A cells slots Q H locs ls C hc hA hX hf hP hS hL
  exact lv_bipush C.1 C.2.1 d hv (k p l0 e s m args below meth c A cells slots Q H locs ls C hc hA hX hf hP hS hL)
theorem ev_sipush {n : Int} (v : Int32) (d : decode cc pc = .ok (.sipush n, 3)) (hv : (Int16.ofInt n).toInt32 = v) (k : Ev E R own cc nL F (pc + 3) l (.int v :: st) σ) : Ev E R own cc nL F pc l st σ := by
  intro p l0 e s m args below meth c A cells slots Q H locs ls C hc hA hX hf hP hS hL
  exact lv_sipush C.1 C.2.1 d hv (k p l0 e s m args below meth c A cells slots Q H locs ls C hc hA hX hf hP hS hL)
theorem ev_ldc {idx : Nat} {v : Int32} (d : decode cc pc = .ok (.ldc idx, 2)) (w : Cond.constant own idx v ∈ xtbl) (k : Ev E R own cc nL F (pc + 2) l (.int v :: st) σ) : Ev E R own cc nL F pc l st σ := by
  intro p l0 e s m args below meth c A cells slots Q H locs ls C hc hA hX hf hP hS hL
  exact lv_ldc C.1 C.2.1 C.2.2.2.1 (C.2.2.2.2.1 _ w) d (k p l0 e s m args below meth c A cells slots Q H locs ls C hc hA hX hf hP hS hL)
theorem ev_ldc_w {idx : Nat} {v : Int32} (d : decode cc pc = .ok (.ldc_w idx, 3)) (w : Cond.constant own idx v ∈ xtbl) (k : Ev E R own cc nL F (pc + 3) l (.int v :: st) σ) : Ev E R own cc nL F pc l st σ := by
  intro p l0 e s m args below meth c A cells slots Q H locs ls C hc hA hX hf hP hS hL
  exact lv_ldcw C.1 C.2.1 C.2.2.2.1 (C.2.2.2.2.1 _ w) d (k p l0 e s m args below meth c A cells slots Q H locs ls C hc hA hX hf hP hS hL)
theorem ev_ldc2_w {idx : Nat} {v : Int64} (d : decode cc pc = .ok (.ldc2_w idx, 3)) (w : Cond.constantLong own idx v ∈ xtbl) (k : Ev E R own cc nL F (pc + 3) l (.long v :: st) σ) : Ev E R own cc nL F pc l st σ := by
  intro p l0 e s m args below meth c A cells slots Q H locs ls C hc hA hX hf hP hS hL
  exact lv_ldc2 C.1 C.2.1 C.2.2.2.1 (C.2.2.2.2.1 _ w) d (k p l0 e s m args below meth c A cells slots Q H locs ls C hc hA hX hf hP hS hL)
theorem ev_icmp_eq {x y : Int32} {off : Int} (tgt : Nat) (d : decode cc pc = .ok (.if_icmp .eq off, 3)) (ht : (pc : Int) + off = (tgt : Int)) (kt : x = y → Ev E R own cc nL F tgt l st σ) (kf : ¬ x = y → Ev E R own cc nL F (pc + 3) l st σ) : Ev E R own cc nL F pc l (.int y :: .int x :: st) σ := by
  intro p l0 e s m args below meth c A cells slots Q H locs ls C hc hA hX hf hP hS hL
  exact lv_icmp_eq C.1 C.2.1 d ht (fun h => kt h p l0 e s m args below meth c A cells slots Q H locs ls C hc hA hX hf hP hS hL) (fun h => kf h p l0 e s m args below meth c A cells slots Q H locs ls C hc hA hX hf hP hS hL)
theorem ev_icmp_ne {x y : Int32} {off : Int} (tgt : Nat) (d : decode cc pc = .ok (.if_icmp .ne off, 3)) (ht : (pc : Int) + off = (tgt : Int)) (kt : ¬ x = y → Ev E R own cc nL F tgt l st σ) (kf : x = y → Ev E R own cc nL F (pc + 3) l st σ) : Ev E R own cc nL F pc l (.int y :: .int x :: st) σ := by
  intro p l0 e s m args below meth c A cells slots Q H locs ls C hc hA hX hf hP hS hL
  exact lv_icmp_ne C.1 C.2.1 d ht (fun h => kt h p l0 e s m args below meth c A cells slots Q H locs ls C hc hA hX hf hP hS hL) (fun h => kf h p l0 e s m args below meth c A cells slots Q H locs ls C hc hA hX hf hP hS hL)
theorem ev_icmp_lt {x y : Int32} {off : Int} (tgt : Nat) (d : decode cc pc = .ok (.if_icmp .lt off, 3)) (ht : (pc : Int) + off = (tgt : Int)) (kt : x < y → Ev E R own cc nL F tgt l st σ) (kf : ¬ x < y → Ev E R own cc nL F (pc + 3) l st σ) : Ev E R own cc nL F pc l (.int y :: .int x :: st) σ := by
  intro p l0 e s m args below meth c A cells slots Q H locs ls C hc hA hX hf hP hS hL
  exact lv_icmp_lt C.1 C.2.1 d ht (fun h => kt h p l0 e s m args below meth c A cells slots Q H locs ls C hc hA hX hf hP hS hL) (fun h => kf h p l0 e s m args below meth c A cells slots Q H locs ls C hc hA hX hf hP hS hL)
theorem ev_icmp_ge {x y : Int32} {off : Int} (tgt : Nat) (d : decode cc pc = .ok (.if_icmp .ge off, 3)) (ht : (pc : Int) + off = (tgt : Int)) (kt : y ≤ x → Ev E R own cc nL F tgt l st σ) (kf : ¬ y ≤ x → Ev E R own cc nL F (pc + 3) l st σ) : Ev E R own cc nL F pc l (.int y :: .int x :: st) σ := by
  intro p l0 e s m args below meth c A cells slots Q H locs ls C hc hA hX hf hP hS hL
  exact lv_icmp_ge C.1 C.2.1 d ht (fun h => kt h p l0 e s m args below meth c A cells slots Q H locs ls C hc hA hX hf hP hS hL) (fun h => kf h p l0 e s m args below meth c A cells slots Q H locs ls C hc hA hX hf hP hS hL)
theorem ev_icmp_gt {x y : Int32} {off : Int} (tgt : Nat) (d : decode cc pc = .ok (.if_icmp .gt off, 3)) (ht : (pc : Int) + off = (tgt : Int)) (kt : y < x → Ev E R own cc nL F tgt l st σ) (kf : ¬ y < x → Ev E R own cc nL F (pc + 3) l st σ) : Ev E R own cc nL F pc l (.int y :: .int x :: st) σ := by
  intro p l0 e s m args below meth c A cells slots Q H locs ls C hc hA hX hf hP hS hL
  exact lv_icmp_gt C.1 C.2.1 d ht (fun h => kt h p l0 e s m args below meth c A cells slots Q H locs ls C hc hA hX hf hP hS hL) (fun h => kf h p l0 e s m args below meth c A cells slots Q H locs ls C hc hA hX hf hP hS hL)
theorem ev_icmp_le {x y : Int32} {off : Int} (tgt : Nat) (d : decode cc pc = .ok (.if_icmp .le off, 3)) (ht : (pc : Int) + off = (tgt : Int)) (kt : x ≤ y → Ev E R own cc nL F tgt l st σ) (kf : ¬ x ≤ y → Ev E R own cc nL F (pc + 3) l st σ) : Ev E R own cc nL F pc l (.int y :: .int x :: st) σ := by
  intro p l0 e s m args below meth c A cells slots Q H locs ls C hc hA hX hf hP hS hL
  exact lv_icmp_le C.1 C.2.1 d ht (fun h => kt h p l0 e s m args below meth c A cells slots Q H locs ls C hc hA hX hf hP hS hL) (fun h => kf h p l0 e s m args below meth c A cells slots Q H locs ls C hc hA hX hf hP hS hL)
theorem ev_if_eq {x : Int32} {off : Int} (tgt : Nat) (d : decode cc pc = .ok (.ifCond .eq off, 3)) (ht : (pc : Int) + off = (tgt : Int)) (kt : x = 0 → Ev E R own cc nL F tgt l st σ) (kf : ¬ x = 0 → Ev E R own cc nL F (pc + 3) l st σ) : Ev E R own cc nL F pc l (.int x :: st) σ := by
  intro p l0 e s m args below meth c A cells slots Q H locs ls C hc hA hX hf hP hS hL
  exact lv_if_eq C.1 C.2.1 d ht (fun h => kt h p l0 e s m args below meth c A cells slots Q H locs ls C hc hA hX hf hP hS hL) (fun h => kf h p l0 e s m args below meth c A cells slots Q H locs ls C hc hA hX hf hP hS hL)
theorem ev_if_ne {x : Int32} {off : Int} (tgt : Nat) (d : decode cc pc = .ok (.ifCond .ne off, 3)) (ht : (pc : Int) + off = (tgt : Int)) (kt : ¬ x = 0 → Ev E R own cc nL F tgt l st σ) (kf : x = 0 → Ev E R own cc nL F (pc + 3) l st σ) : Ev E R own cc nL F pc l (.int x :: st) σ := by
  intro p l0 e s m args below meth c A cells slots Q H locs ls C hc hA hX hf hP hS hL
  exact lv_if_ne C.1 C.2.1 d ht (fun h => kt h p l0 e s m args below meth c A cells slots Q H locs ls C hc hA hX hf hP hS hL) (fun h => kf h p l0 e s m args below meth c A cells slots Q H locs ls C hc hA hX hf hP hS hL)
theorem ev_if_lt {x : Int32} {off : Int} (tgt : Nat) (d : decode cc pc = .ok (.ifCond .lt off, 3)) (ht : (pc : Int) + off = (tgt : Int)) (kt : x < 0 → Ev E R own cc nL F tgt l st σ) (kf : ¬ x < 0 → Ev E R own cc nL F (pc + 3) l st σ) : Ev E R own cc nL F pc l (.int x :: st) σ := by
  intro p l0 e s m args below meth c A cells slots Q H locs ls C hc hA hX hf hP hS hL
  exact lv_if_lt C.1 C.2.1 d ht (fun h => kt h p l0 e s m args below meth c A cells slots Q H locs ls C hc hA hX hf hP hS hL) (fun h => kf h p l0 e s m args below meth c A cells slots Q H locs ls C hc hA hX hf hP hS hL)
theorem ev_if_ge {x : Int32} {off : Int} (tgt : Nat) (d : decode cc pc = .ok (.ifCond .ge off, 3)) (ht : (pc : Int) + off = (tgt : Int)) (kt : 0 ≤ x → Ev E R own cc nL F tgt l st σ) (kf : ¬ 0 ≤ x → Ev E R own cc nL F (pc + 3) l st σ) : Ev E R own cc nL F pc l (.int x :: st) σ := by
  intro p l0 e s m args below meth c A cells slots Q H locs ls C hc hA hX hf hP hS hL
  exact lv_if_ge C.1 C.2.1 d ht (fun h => kt h p l0 e s m args below meth c A cells slots Q H locs ls C hc hA hX hf hP hS hL) (fun h => kf h p l0 e s m args below meth c A cells slots Q H locs ls C hc hA hX hf hP hS hL)
theorem ev_if_gt {x : Int32} {off : Int} (tgt : Nat) (d : decode cc pc = .ok (.ifCond .gt off, 3)) (ht : (pc : Int) + off = (tgt : Int)) (kt : 0 < x → Ev E R own cc nL F tgt l st σ) (kf : ¬ 0 < x → Ev E R own cc nL F (pc + 3) l st σ) : Ev E R own cc nL F pc l (.int x :: st) σ := by
  intro p l0 e s m args below meth c A cells slots Q H locs ls C hc hA hX hf hP hS hL
  exact lv_if_gt C.1 C.2.1 d ht (fun h => kt h p l0 e s m args below meth c A cells slots Q H locs ls C hc hA hX hf hP hS hL) (fun h => kf h p l0 e s m args below meth c A cells slots Q H locs ls C hc hA hX hf hP hS hL)
theorem ev_if_le {x : Int32} {off : Int} (tgt : Nat) (d : decode cc pc = .ok (.ifCond .le off, 3)) (ht : (pc : Int) + off = (tgt : Int)) (kt : x ≤ 0 → Ev E R own cc nL F tgt l st σ) (kf : ¬ x ≤ 0 → Ev E R own cc nL F (pc + 3) l st σ) : Ev E R own cc nL F pc l (.int x :: st) σ := by
  intro p l0 e s m args below meth c A cells slots Q H locs ls C hc hA hX hf hP hS hL
  exact lv_if_le C.1 C.2.1 d ht (fun h => kt h p l0 e s m args below meth c A cells slots Q H locs ls C hc hA hX hf hP hS hL) (fun h => kf h p l0 e s m args below meth c A cells slots Q H locs ls C hc hA hX hf hP hS hL)
theorem ev_goto {off : Int} (tgt : Nat) (d : decode cc pc = .ok (.goto off, 3)) (ht : (pc : Int) + off = (tgt : Int)) (k : Ev E R own cc nL F tgt l st σ) : Ev E R own cc nL F pc l st σ := by
  intro p l0 e s m args below meth c A cells slots Q H locs ls C hc hA hX hf hP hS hL
  exact lv_goto C.1 C.2.1 d ht (k p l0 e s m args below meth c A cells slots Q H locs ls C hc hA hX hf hP hS hL)
theorem ev_ifnull {x : Nat} {off : Int} (d : decode cc pc = .ok (.ifnull off, 3)) (k : Ev E R own cc nL F (pc + 3) l st σ) : Ev E R own cc nL F pc l (.ref x :: st) σ := by
  intro p l0 e s m args below meth c A cells slots Q H locs ls C hc hA hX hf hP hS hL
  exact lv_ifnull C.1 C.2.1 d (k p l0 e s m args below meth c A cells slots Q H locs ls C hc hA hX hf hP hS hL)
theorem ev_ifnonnull {x : Nat} {off : Int} (tgt : Nat) (d : decode cc pc = .ok (.ifnonnull off, 3)) (ht : (pc : Int) + off = (tgt : Int)) (k : Ev E R own cc nL F tgt l st σ) : Ev E R own cc nL F pc l (.ref x :: st) σ := by
  intro p l0 e s m args below meth c A cells slots Q H locs ls C hc hA hX hf hP hS hL
  exact lv_ifnonnull C.1 C.2.1 d ht (k p l0 e s m args below meth c A cells slots Q H locs ls C hc hA hX hf hP hS hL)
theorem ev_ireturn {x : Int32} (d : decode cc pc = .ok (.ireturn, 1)) (k : F (some (.int x)) σ) : Ev E R own cc nL F pc l [.int x] σ := by
  intro p l0 e s m args below meth c A cells slots Q H locs ls C hc hA hX hf hP hS hL
  exact hf _ σ H locs ls pc k (Or.inl ⟨x, rfl, d⟩) hP hS
theorem ev_lreturn {x : Int64} (d : decode cc pc = .ok (.lreturn, 1)) (k : F (some (.long x)) σ) : Ev E R own cc nL F pc l [.long x] σ := by
  intro p l0 e s m args below meth c A cells slots Q H locs ls C hc hA hX hf hP hS hL
  exact hf _ σ H locs ls pc k (Or.inr (Or.inl ⟨x, rfl, d⟩)) hP hS
theorem ev_return (d : decode cc pc = .ok (.return_, 1)) (k : F none σ) : Ev E R own cc nL F pc l [] σ := by
  intro p l0 e s m args below meth c A cells slots Q H locs ls C hc hA hX hf hP hS hL
  exact hf _ σ H locs ls pc k (Or.inr (Or.inr (Or.inl ⟨rfl, d⟩))) hP hS
theorem ev_areturn {a : Nat} (d : decode cc pc = .ok (.areturn, 1)) (k : F (some (.ref a)) σ) : Ev E R own cc nL F pc l [.ref a] σ := by
  intro p l0 e s m args below meth c A cells slots Q H locs ls C hc hA hX hf hP hS hL
  exact hf _ σ H locs ls pc k (Or.inr (Or.inr (Or.inr ⟨a, rfl, d⟩))) hP hS
def x_nl : Option Value → Bool
  | some v => !(v.category == 2)
  | none => true
theorem x_nl_ok {a : Option Value} (h : x_nl a = true) (w : Value) (hw : a = some w) : w.category ≠ 2 := by
  subst hw
  simpa [x_nl] using h
theorem ev_iload_0 {x : Int32} {t : xL} (d : decode cc pc = .ok (.iload_n 0, 1)) (k : Ev E R own cc nL F (pc + 1) (some (.int x) :: t) (.int x :: st) σ) : Ev E R own cc nL F pc (some (.int x) :: t) st σ := by
  intro p l0 e s m args below meth c A cells slots Q H locs ls C hc hA hX hf hP hS hL
  exact lv_iload_n C.1 C.2.1 d rfl (hL.get (i := 0) rfl) (k p l0 e s m args below meth c A cells slots Q H locs ls C hc hA hX hf hP hS hL)
theorem ev_lload_0 {x : Int64} {t : xL} (d : decode cc pc = .ok (.lload_n 0, 1)) (k : Ev E R own cc nL F (pc + 1) (some (.long x) :: t) (.long x :: st) σ) : Ev E R own cc nL F pc (some (.long x) :: t) st σ := by
  intro p l0 e s m args below meth c A cells slots Q H locs ls C hc hA hX hf hP hS hL
  exact lv_lload_n C.1 C.2.1 d rfl (hL.get (i := 0) rfl) (k p l0 e s m args below meth c A cells slots Q H locs ls C hc hA hX hf hP hS hL)
theorem ev_aload_0 {x : Nat} {t : xL} (d : decode cc pc = .ok (.aload_n 0, 1)) (k : Ev E R own cc nL F (pc + 1) (some (.ref x) :: t) (.ref x :: st) σ) : Ev E R own cc nL F pc (some (.ref x) :: t) st σ := by
  intro p l0 e s m args below meth c A cells slots Q H locs ls C hc hA hX hf hP hS hL
  exact lv_aload_n C.1 C.2.1 d rfl (hL.get (i := 0) rfl) (k p l0 e s m args below meth c A cells slots Q H locs ls C hc hA hX hf hP hS hL)
theorem ev_istore_0 {b : Option Value} {x : Int32} {t : xL} (d : decode cc pc = .ok (.istore_n 0, 1)) (k : Ev E R own cc nL F (pc + 1) (some (.int x) :: t) st σ) : Ev E R own cc nL F pc (b :: t) (.int x :: st) σ := by
  intro p l0 e s m args below meth c A cells slots Q H locs ls C hc hA hX hf hP hS hL
  have hi : 0 < (b :: t).length := by simp
  refine lv_istore_n C.1 C.2.1 d rfl hL.1 (by rw [← hL.2]; exact hi) rfl (fun ls2 h2 => ?_)
  exact k p l0 e s m args below meth c A cells slots Q H locs ls2 C hc hA hX hf hP hS (hL.setI (.int x) hi (fun w h => absurd rfl h) h2)
theorem ev_astore_0 {b : Option Value} {x : Nat} {t : xL} (d : decode cc pc = .ok (.astore_n 0, 1)) (k : Ev E R own cc nL F (pc + 1) (some (.ref x) :: t) st σ) : Ev E R own cc nL F pc (b :: t) (.ref x :: st) σ := by
  intro p l0 e s m args below meth c A cells slots Q H locs ls C hc hA hX hf hP hS hL
  have hi : 0 < (b :: t).length := by simp
  refine lv_astore_n C.1 C.2.1 d rfl hL.1 (by rw [← hL.2]; exact hi) rfl (fun ls2 h2 => ?_)
  exact k p l0 e s m args below meth c A cells slots Q H locs ls2 C hc hA hX hf hP hS (hL.setI (.ref x) hi (fun w h => absurd rfl h) h2)
theorem ev_lstore_0 {b b2 : Option Value} {x : Int64} {t : xL} (d : decode cc pc = .ok (.lstore_n 0, 1)) (k : Ev E R own cc nL F (pc + 1) (some (.long x) :: none :: t) st σ) : Ev E R own cc nL F pc (b :: b2 :: t) (.long x :: st) σ := by
  intro p l0 e s m args below meth c A cells slots Q H locs ls C hc hA hX hf hP hS hL
  have hi : 0 + 1 < (b :: b2 :: t).length := by simp
  refine lv_lstore_n C.1 C.2.1 d rfl hL.1 (by rw [← hL.2]; exact hi) rfl (fun ls2 h2 => ?_)
  exact k p l0 e s m args below meth c A cells slots Q H locs ls2 C hc hA hX hf hP hS (hL.setL (.long x) hi (fun w h => absurd rfl h) h2)
theorem ev_iinc_0 {x : Int32} {n : Int} {t : xL} (v : Int32) (d : decode cc pc = .ok (.iinc 0 n, 3)) (hv : Int32.ofInt n = v) (k : Ev E R own cc nL F (pc + 3) (some (.int (x + v)) :: t) st σ) : Ev E R own cc nL F pc (some (.int x) :: t) st σ := by
  intro p l0 e s m args below meth c A cells slots Q H locs ls C hc hA hX hf hP hS hL
  have hi : 0 < (some (.int x) :: t).length := by simp
  obtain ⟨kk, hkk⟩ := List.getElem?_of_mem ((xll_mem (some (.int x) :: t) 0 0 (.int x)).mpr ⟨0, by omega, rfl⟩)
  refine lv_iinc (v := x + v) C.1 C.2.1 d hL.1 hkk (by rw [hv]) (by rw [← hL.2]; exact hi) rfl (fun ls2 h2 => ?_)
  exact k p l0 e s m args below meth c A cells slots Q H locs ls2 C hc hA hX hf hP hS (hL.setI (.int (x + v)) hi (fun w h => absurd rfl h) h2)
theorem ev_iload_1 {a0 : Option Value} {x : Int32} {t : xL} (d : decode cc pc = .ok (.iload_n 1, 1)) (k : Ev E R own cc nL F (pc + 1) (a0 :: some (.int x) :: t) (.int x :: st) σ) : Ev E R own cc nL F pc (a0 :: some (.int x) :: t) st σ := by
  intro p l0 e s m args below meth c A cells slots Q H locs ls C hc hA hX hf hP hS hL
  exact lv_iload_n C.1 C.2.1 d rfl (hL.get (i := 1) rfl) (k p l0 e s m args below meth c A cells slots Q H locs ls C hc hA hX hf hP hS hL)
theorem ev_lload_1 {a0 : Option Value} {x : Int64} {t : xL} (d : decode cc pc = .ok (.lload_n 1, 1)) (k : Ev E R own cc nL F (pc + 1) (a0 :: some (.long x) :: t) (.long x :: st) σ) : Ev E R own cc nL F pc (a0 :: some (.long x) :: t) st σ := by
  intro p l0 e s m args below meth c A cells slots Q H locs ls C hc hA hX hf hP hS hL
  exact lv_lload_n C.1 C.2.1 d rfl (hL.get (i := 1) rfl) (k p l0 e s m args below meth c A cells slots Q H locs ls C hc hA hX hf hP hS hL)
theorem ev_aload_1 {a0 : Option Value} {x : Nat} {t : xL} (d : decode cc pc = .ok (.aload_n 1, 1)) (k : Ev E R own cc nL F (pc + 1) (a0 :: some (.ref x) :: t) (.ref x :: st) σ) : Ev E R own cc nL F pc (a0 :: some (.ref x) :: t) st σ := by
  intro p l0 e s m args below meth c A cells slots Q H locs ls C hc hA hX hf hP hS hL
  exact lv_aload_n C.1 C.2.1 d rfl (hL.get (i := 1) rfl) (k p l0 e s m args below meth c A cells slots Q H locs ls C hc hA hX hf hP hS hL)
theorem ev_istore_1 {a0 : Option Value} {b : Option Value} {x : Int32} {t : xL} (d : decode cc pc = .ok (.istore_n 1, 1)) (hp : x_nl a0 = true) (k : Ev E R own cc nL F (pc + 1) (a0 :: some (.int x) :: t) st σ) : Ev E R own cc nL F pc (a0 :: b :: t) (.int x :: st) σ := by
  intro p l0 e s m args below meth c A cells slots Q H locs ls C hc hA hX hf hP hS hL
  have hi : 1 < (a0 :: b :: t).length := by simp
  refine lv_istore_n C.1 C.2.1 d rfl hL.1 (by rw [← hL.2]; exact hi) rfl (fun ls2 h2 => ?_)
  exact k p l0 e s m args below meth c A cells slots Q H locs ls2 C hc hA hX hf hP hS (hL.setI (.int x) hi (fun w _ h => x_nl_ok hp w (Option.some.inj h)) h2)
theorem ev_astore_1 {a0 : Option Value} {b : Option Value} {x : Nat} {t : xL} (d : decode cc pc = .ok (.astore_n 1, 1)) (hp : x_nl a0 = true) (k : Ev E R own cc nL F (pc + 1) (a0 :: some (.ref x) :: t) st σ) : Ev E R own cc nL F pc (a0 :: b :: t) (.ref x :: st) σ := by
  intro p l0 e s m args below meth c A cells slots Q H locs ls C hc hA hX hf hP hS hL
  have hi : 1 < (a0 :: b :: t).length := by simp
  refine lv_astore_n C.1 C.2.1 d rfl hL.1 (by rw [← hL.2]; exact hi) rfl (fun ls2 h2 => ?_)
  exact k p l0 e s m args below meth c A cells slots Q H locs ls2 C hc hA hX hf hP hS (hL.setI (.ref x) hi (fun w _ h => x_nl_ok hp w (Option.some.inj h)) h2)
theorem ev_lstore_1 {a0 : Option Value} {b b2 : Option Value} {x : Int64} {t : xL} (d : decode cc pc = .ok (.lstore_n 1, 1)) (hp : x_nl a0 = true) (k : Ev E R own cc nL F (pc + 1) (a0 :: some (.long x) :: none :: t) st σ) : Ev E R own cc nL F pc (a0 :: b :: b2 :: t) (.long x :: st) σ := by
  intro p l0 e s m args below meth c A cells slots Q H locs ls C hc hA hX hf hP hS hL
  have hi : 1 + 1 < (a0 :: b :: b2 :: t).length := by simp
  refine lv_lstore_n C.1 C.2.1 d rfl hL.1 (by rw [← hL.2]; exact hi) rfl (fun ls2 h2 => ?_)
  exact k p l0 e s m args below meth c A cells slots Q H locs ls2 C hc hA hX hf hP hS (hL.setL (.long x) hi (fun w _ h => x_nl_ok hp w (Option.some.inj h)) h2)
theorem ev_iinc_1 {a0 : Option Value} {x : Int32} {n : Int} {t : xL} (v : Int32) (d : decode cc pc = .ok (.iinc 1 n, 3)) (hv : Int32.ofInt n = v) (hp : x_nl a0 = true) (k : Ev E R own cc nL F (pc + 3) (a0 :: some (.int (x + v)) :: t) st σ) : Ev E R own cc nL F pc (a0 :: some (.int x) :: t) st σ := by
  intro p l0 e s m args below meth c A cells slots Q H locs ls C hc hA hX hf hP hS hL
  have hi : 1 < (a0 :: some (.int x) :: t).length := by simp
  obtain ⟨kk, hkk⟩ := List.getElem?_of_mem ((xll_mem (a0 :: some (.int x) :: t) 0 1 (.int x)).mpr ⟨1, by omega, rfl⟩)
  refine lv_iinc (v := x + v) C.1 C.2.1 d hL.1 hkk (by rw [hv]) (by rw [← hL.2]; exact hi) rfl (fun ls2 h2 => ?_)
  exact k p l0 e s m args below meth c A cells slots Q H locs ls2 C hc hA hX hf hP hS (hL.setI (.int (x + v)) hi (fun w _ h => x_nl_ok hp w (Option.some.inj h)) h2)
theorem ev_iload_2 {a0 a1 : Option Value} {x : Int32} {t : xL} (d : decode cc pc = .ok (.iload_n 2, 1)) (k : Ev E R own cc nL F (pc + 1) (a0 :: a1 :: some (.int x) :: t) (.int x :: st) σ) : Ev E R own cc nL F pc (a0 :: a1 :: some (.int x) :: t) st σ := by
  intro p l0 e s m args below meth c A cells slots Q H locs ls C hc hA hX hf hP hS hL
  exact lv_iload_n C.1 C.2.1 d rfl (hL.get (i := 2) rfl) (k p l0 e s m args below meth c A cells slots Q H locs ls C hc hA hX hf hP hS hL)
theorem ev_lload_2 {a0 a1 : Option Value} {x : Int64} {t : xL} (d : decode cc pc = .ok (.lload_n 2, 1)) (k : Ev E R own cc nL F (pc + 1) (a0 :: a1 :: some (.long x) :: t) (.long x :: st) σ) : Ev E R own cc nL F pc (a0 :: a1 :: some (.long x) :: t) st σ := by
  intro p l0 e s m args below meth c A cells slots Q H locs ls C hc hA hX hf hP hS hL
  exact lv_lload_n C.1 C.2.1 d rfl (hL.get (i := 2) rfl) (k p l0 e s m args below meth c A cells slots Q H locs ls C hc hA hX hf hP hS hL)
theorem ev_aload_2 {a0 a1 : Option Value} {x : Nat} {t : xL} (d : decode cc pc = .ok (.aload_n 2, 1)) (k : Ev E R own cc nL F (pc + 1) (a0 :: a1 :: some (.ref x) :: t) (.ref x :: st) σ) : Ev E R own cc nL F pc (a0 :: a1 :: some (.ref x) :: t) st σ := by
  intro p l0 e s m args below meth c A cells slots Q H locs ls C hc hA hX hf hP hS hL
  exact lv_aload_n C.1 C.2.1 d rfl (hL.get (i := 2) rfl) (k p l0 e s m args below meth c A cells slots Q H locs ls C hc hA hX hf hP hS hL)
theorem ev_istore_2 {a0 a1 : Option Value} {b : Option Value} {x : Int32} {t : xL} (d : decode cc pc = .ok (.istore_n 2, 1)) (hp : x_nl a1 = true) (k : Ev E R own cc nL F (pc + 1) (a0 :: a1 :: some (.int x) :: t) st σ) : Ev E R own cc nL F pc (a0 :: a1 :: b :: t) (.int x :: st) σ := by
  intro p l0 e s m args below meth c A cells slots Q H locs ls C hc hA hX hf hP hS hL
  have hi : 2 < (a0 :: a1 :: b :: t).length := by simp
  refine lv_istore_n C.1 C.2.1 d rfl hL.1 (by rw [← hL.2]; exact hi) rfl (fun ls2 h2 => ?_)
  exact k p l0 e s m args below meth c A cells slots Q H locs ls2 C hc hA hX hf hP hS (hL.setI (.int x) hi (fun w _ h => x_nl_ok hp w (Option.some.inj h)) h2)
theorem ev_astore_2 {a0 a1 : Option Value} {b : Option Value} {x : Nat} {t : xL} (d : decode cc pc = .ok (.astore_n 2, 1)) (hp : x_nl a1 = true) (k : Ev E R own cc nL F (pc + 1) (a0 :: a1 :: some (.ref x) :: t) st σ) : Ev E R own cc nL F pc (a0 :: a1 :: b :: t) (.ref x :: st) σ := by
  intro p l0 e s m args below meth c A cells slots Q H locs ls C hc hA hX hf hP hS hL
  have hi : 2 < (a0 :: a1 :: b :: t).length := by simp
  refine lv_astore_n C.1 C.2.1 d rfl hL.1 (by rw [← hL.2]; exact hi) rfl (fun ls2 h2 => ?_)
  exact k p l0 e s m args below meth c A cells slots Q H locs ls2 C hc hA hX hf hP hS (hL.setI (.ref x) hi (fun w _ h => x_nl_ok hp w (Option.some.inj h)) h2)
theorem ev_lstore_2 {a0 a1 : Option Value} {b b2 : Option Value} {x : Int64} {t : xL} (d : decode cc pc = .ok (.lstore_n 2, 1)) (hp : x_nl a1 = true) (k : Ev E R own cc nL F (pc + 1) (a0 :: a1 :: some (.long x) :: none :: t) st σ) : Ev E R own cc nL F pc (a0 :: a1 :: b :: b2 :: t) (.long x :: st) σ := by
  intro p l0 e s m args below meth c A cells slots Q H locs ls C hc hA hX hf hP hS hL
  have hi : 2 + 1 < (a0 :: a1 :: b :: b2 :: t).length := by simp
  refine lv_lstore_n C.1 C.2.1 d rfl hL.1 (by rw [← hL.2]; exact hi) rfl (fun ls2 h2 => ?_)
  exact k p l0 e s m args below meth c A cells slots Q H locs ls2 C hc hA hX hf hP hS (hL.setL (.long x) hi (fun w _ h => x_nl_ok hp w (Option.some.inj h)) h2)
theorem ev_iinc_2 {a0 a1 : Option Value} {x : Int32} {n : Int} {t : xL} (v : Int32) (d : decode cc pc = .ok (.iinc 2 n, 3)) (hv : Int32.ofInt n = v) (hp : x_nl a1 = true) (k : Ev E R own cc nL F (pc + 3) (a0 :: a1 :: some (.int (x + v)) :: t) st σ) : Ev E R own cc nL F pc (a0 :: a1 :: some (.int x) :: t) st σ := by
  intro p l0 e s m args below meth c A cells slots Q H locs ls C hc hA hX hf hP hS hL
  have hi : 2 < (a0 :: a1 :: some (.int x) :: t).length := by simp
  obtain ⟨kk, hkk⟩ := List.getElem?_of_mem ((xll_mem (a0 :: a1 :: some (.int x) :: t) 0 2 (.int x)).mpr ⟨2, by omega, rfl⟩)
  refine lv_iinc (v := x + v) C.1 C.2.1 d hL.1 hkk (by rw [hv]) (by rw [← hL.2]; exact hi) rfl (fun ls2 h2 => ?_)
  exact k p l0 e s m args below meth c A cells slots Q H locs ls2 C hc hA hX hf hP hS (hL.setI (.int (x + v)) hi (fun w _ h => x_nl_ok hp w (Option.some.inj h)) h2)
theorem ev_iload_3 {a0 a1 a2 : Option Value} {x : Int32} {t : xL} (d : decode cc pc = .ok (.iload_n 3, 1)) (k : Ev E R own cc nL F (pc + 1) (a0 :: a1 :: a2 :: some (.int x) :: t) (.int x :: st) σ) : Ev E R own cc nL F pc (a0 :: a1 :: a2 :: some (.int x) :: t) st σ := by
  intro p l0 e s m args below meth c A cells slots Q H locs ls C hc hA hX hf hP hS hL
  exact lv_iload_n C.1 C.2.1 d rfl (hL.get (i := 3) rfl) (k p l0 e s m args below meth c A cells slots Q H locs ls C hc hA hX hf hP hS hL)
theorem ev_lload_3 {a0 a1 a2 : Option Value} {x : Int64} {t : xL} (d : decode cc pc = .ok (.lload_n 3, 1)) (k : Ev E R own cc nL F (pc + 1) (a0 :: a1 :: a2 :: some (.long x) :: t) (.long x :: st) σ) : Ev E R own cc nL F pc (a0 :: a1 :: a2 :: some (.long x) :: t) st σ := by
  intro p l0 e s m args below meth c A cells slots Q H locs ls C hc hA hX hf hP hS hL
  exact lv_lload_n C.1 C.2.1 d rfl (hL.get (i := 3) rfl) (k p l0 e s m args below meth c A cells slots Q H locs ls C hc hA hX hf hP hS hL)
theorem ev_aload_3 {a0 a1 a2 : Option Value} {x : Nat} {t : xL} (d : decode cc pc = .ok (.aload_n 3, 1)) (k : Ev E R own cc nL F (pc + 1) (a0 :: a1 :: a2 :: some (.ref x) :: t) (.ref x :: st) σ) : Ev E R own cc nL F pc (a0 :: a1 :: a2 :: some (.ref x) :: t) st σ := by
  intro p l0 e s m args below meth c A cells slots Q H locs ls C hc hA hX hf hP hS hL
  exact lv_aload_n C.1 C.2.1 d rfl (hL.get (i := 3) rfl) (k p l0 e s m args below meth c A cells slots Q H locs ls C hc hA hX hf hP hS hL)
theorem ev_istore_3 {a0 a1 a2 : Option Value} {b : Option Value} {x : Int32} {t : xL} (d : decode cc pc = .ok (.istore_n 3, 1)) (hp : x_nl a2 = true) (k : Ev E R own cc nL F (pc + 1) (a0 :: a1 :: a2 :: some (.int x) :: t) st σ) : Ev E R own cc nL F pc (a0 :: a1 :: a2 :: b :: t) (.int x :: st) σ := by
  intro p l0 e s m args below meth c A cells slots Q H locs ls C hc hA hX hf hP hS hL
  have hi : 3 < (a0 :: a1 :: a2 :: b :: t).length := by simp
  refine lv_istore_n C.1 C.2.1 d rfl hL.1 (by rw [← hL.2]; exact hi) rfl (fun ls2 h2 => ?_)
  exact k p l0 e s m args below meth c A cells slots Q H locs ls2 C hc hA hX hf hP hS (hL.setI (.int x) hi (fun w _ h => x_nl_ok hp w (Option.some.inj h)) h2)
theorem ev_astore_3 {a0 a1 a2 : Option Value} {b : Option Value} {x : Nat} {t : xL} (d : decode cc pc = .ok (.astore_n 3, 1)) (hp : x_nl a2 = true) (k : Ev E R own cc nL F (pc + 1) (a0 :: a1 :: a2 :: some (.ref x) :: t) st σ) : Ev E R own cc nL F pc (a0 :: a1 :: a2 :: b :: t) (.ref x :: st) σ := by
  intro p l0 e s m args below meth c A cells slots Q H locs ls C hc hA hX hf hP hS hL
  have hi : 3 < (a0 :: a1 :: a2 :: b :: t).length := by simp
  refine lv_astore_n C.1 C.2.1 d rfl hL.1 (by rw [← hL.2]; exact hi) rfl (fun ls2 h2 => ?_)
  exact k p l0 e s m args below meth c A cells slots Q H locs ls2 C hc hA hX hf hP hS (hL.setI (.ref x) hi (fun w _ h => x_nl_ok hp w (Option.some.inj h)) h2)
theorem ev_lstore_3 {a0 a1 a2 : Option Value} {b b2 : Option Value} {x : Int64} {t : xL} (d : decode cc pc = .ok (.lstore_n 3, 1)) (hp : x_nl a2 = true) (k : Ev E R own cc nL F (pc + 1) (a0 :: a1 :: a2 :: some (.long x) :: none :: t) st σ) : Ev E R own cc nL F pc (a0 :: a1 :: a2 :: b :: b2 :: t) (.long x :: st) σ := by
  intro p l0 e s m args below meth c A cells slots Q H locs ls C hc hA hX hf hP hS hL
  have hi : 3 + 1 < (a0 :: a1 :: a2 :: b :: b2 :: t).length := by simp
  refine lv_lstore_n C.1 C.2.1 d rfl hL.1 (by rw [← hL.2]; exact hi) rfl (fun ls2 h2 => ?_)
  exact k p l0 e s m args below meth c A cells slots Q H locs ls2 C hc hA hX hf hP hS (hL.setL (.long x) hi (fun w _ h => x_nl_ok hp w (Option.some.inj h)) h2)
theorem ev_iinc_3 {a0 a1 a2 : Option Value} {x : Int32} {n : Int} {t : xL} (v : Int32) (d : decode cc pc = .ok (.iinc 3 n, 3)) (hv : Int32.ofInt n = v) (hp : x_nl a2 = true) (k : Ev E R own cc nL F (pc + 3) (a0 :: a1 :: a2 :: some (.int (x + v)) :: t) st σ) : Ev E R own cc nL F pc (a0 :: a1 :: a2 :: some (.int x) :: t) st σ := by
  intro p l0 e s m args below meth c A cells slots Q H locs ls C hc hA hX hf hP hS hL
  have hi : 3 < (a0 :: a1 :: a2 :: some (.int x) :: t).length := by simp
  obtain ⟨kk, hkk⟩ := List.getElem?_of_mem ((xll_mem (a0 :: a1 :: a2 :: some (.int x) :: t) 0 3 (.int x)).mpr ⟨3, by omega, rfl⟩)
  refine lv_iinc (v := x + v) C.1 C.2.1 d hL.1 hkk (by rw [hv]) (by rw [← hL.2]; exact hi) rfl (fun ls2 h2 => ?_)
  exact k p l0 e s m args below meth c A cells slots Q H locs ls2 C hc hA hX hf hP hS (hL.setI (.int (x + v)) hi (fun w _ h => x_nl_ok hp w (Option.some.inj h)) h2)
theorem ev_iload_4 {a0 a1 a2 a3 : Option Value} {x : Int32} {t : xL} (d : decode cc pc = .ok (.iload 4, 2)) (k : Ev E R own cc nL F (pc + 2) (a0 :: a1 :: a2 :: a3 :: some (.int x) :: t) (.int x :: st) σ) : Ev E R own cc nL F pc (a0 :: a1 :: a2 :: a3 :: some (.int x) :: t) st σ := by
  intro p l0 e s m args below meth c A cells slots Q H locs ls C hc hA hX hf hP hS hL
  exact lv_iload C.1 C.2.1 d (hL.get (i := 4) rfl) (k p l0 e s m args below meth c A cells slots Q H locs ls C hc hA hX hf hP hS hL)
theorem ev_lload_4 {a0 a1 a2 a3 : Option Value} {x : Int64} {t : xL} (d : decode cc pc = .ok (.lload 4, 2)) (k : Ev E R own cc nL F (pc + 2) (a0 :: a1 :: a2 :: a3 :: some (.long x) :: t) (.long x :: st) σ) : Ev E R own cc nL F pc (a0 :: a1 :: a2 :: a3 :: some (.long x) :: t) st σ := by
  intro p l0 e s m args below meth c A cells slots Q H locs ls C hc hA hX hf hP hS hL
  exact lv_lload C.1 C.2.1 d (hL.get (i := 4) rfl) (k p l0 e s m args below meth c A cells slots Q H locs ls C hc hA hX hf hP hS hL)
theorem ev_aload_4 {a0 a1 a2 a3 : Option Value} {x : Nat} {t : xL} (d : decode cc pc = .ok (.aload 4, 2)) (k : Ev E R own cc nL F (pc + 2) (a0 :: a1 :: a2 :: a3 :: some (.ref x) :: t) (.ref x :: st) σ) : Ev E R own cc nL F pc (a0 :: a1 :: a2 :: a3 :: some (.ref x) :: t) st σ := by
  intro p l0 e s m args below meth c A cells slots Q H locs ls C hc hA hX hf hP hS hL
  exact lv_aload C.1 C.2.1 d (hL.get (i := 4) rfl) (k p l0 e s m args below meth c A cells slots Q H locs ls C hc hA hX hf hP hS hL)
theorem ev_istore_4 {a0 a1 a2 a3 : Option Value} {b : Option Value} {x : Int32} {t : xL} (d : decode cc pc = .ok (.istore 4, 2)) (hp : x_nl a3 = true) (k : Ev E R own cc nL F (pc + 2) (a0 :: a1 :: a2 :: a3 :: some (.int x) :: t) st σ) : Ev E R own cc nL F pc (a0 :: a1 :: a2 :: a3 :: b :: t) (.int x :: st) σ := by
  intro p l0 e s m args below meth c A cells slots Q H locs ls C hc hA hX hf hP hS hL
  have hi : 4 < (a0 :: a1 :: a2 :: a3 :: b :: t).length := by simp
  refine lv_istore C.1 C.2.1 d hL.1 (by rw [← hL.2]; exact hi) rfl (fun ls2 h2 => ?_)
  exact k p l0 e s m args below meth c A cells slots Q H locs ls2 C hc hA hX hf hP hS (hL.setI (.int x) hi (fun w _ h => x_nl_ok hp w (Option.some.inj h)) h2)
theorem ev_astore_4 {a0 a1 a2 a3 : Option Value} {b : Option Value} {x : Nat} {t : xL} (d : decode cc pc = .ok (.astore 4, 2)) (hp : x_nl a3 = true) (k : Ev E R own cc nL F (pc + 2) (a0 :: a1 :: a2 :: a3 :: some (.ref x) :: t) st σ) : Ev E R own cc nL F pc (a0 :: a1 :: a2 :: a3 :: b :: t) (.ref x :: st) σ := by
  intro p l0 e s m args below meth c A cells slots Q H locs ls C hc hA hX hf hP hS hL
  have hi : 4 < (a0 :: a1 :: a2 :: a3 :: b :: t).length := by simp
  refine lv_astore C.1 C.2.1 d hL.1 (by rw [← hL.2]; exact hi) rfl (fun ls2 h2 => ?_)
  exact k p l0 e s m args below meth c A cells slots Q H locs ls2 C hc hA hX hf hP hS (hL.setI (.ref x) hi (fun w _ h => x_nl_ok hp w (Option.some.inj h)) h2)
theorem ev_lstore_4 {a0 a1 a2 a3 : Option Value} {b b2 : Option Value} {x : Int64} {t : xL} (d : decode cc pc = .ok (.lstore 4, 2)) (hp : x_nl a3 = true) (k : Ev E R own cc nL F (pc + 2) (a0 :: a1 :: a2 :: a3 :: some (.long x) :: none :: t) st σ) : Ev E R own cc nL F pc (a0 :: a1 :: a2 :: a3 :: b :: b2 :: t) (.long x :: st) σ := by
  intro p l0 e s m args below meth c A cells slots Q H locs ls C hc hA hX hf hP hS hL
  have hi : 4 + 1 < (a0 :: a1 :: a2 :: a3 :: b :: b2 :: t).length := by simp
  refine lv_lstore C.1 C.2.1 d hL.1 (by rw [← hL.2]; exact hi) rfl (fun ls2 h2 => ?_)
  exact k p l0 e s m args below meth c A cells slots Q H locs ls2 C hc hA hX hf hP hS (hL.setL (.long x) hi (fun w _ h => x_nl_ok hp w (Option.some.inj h)) h2)
theorem ev_iinc_4 {a0 a1 a2 a3 : Option Value} {x : Int32} {n : Int} {t : xL} (v : Int32) (d : decode cc pc = .ok (.iinc 4 n, 3)) (hv : Int32.ofInt n = v) (hp : x_nl a3 = true) (k : Ev E R own cc nL F (pc + 3) (a0 :: a1 :: a2 :: a3 :: some (.int (x + v)) :: t) st σ) : Ev E R own cc nL F pc (a0 :: a1 :: a2 :: a3 :: some (.int x) :: t) st σ := by
  intro p l0 e s m args below meth c A cells slots Q H locs ls C hc hA hX hf hP hS hL
  have hi : 4 < (a0 :: a1 :: a2 :: a3 :: some (.int x) :: t).length := by simp
  obtain ⟨kk, hkk⟩ := List.getElem?_of_mem ((xll_mem (a0 :: a1 :: a2 :: a3 :: some (.int x) :: t) 0 4 (.int x)).mpr ⟨4, by omega, rfl⟩)
  refine lv_iinc (v := x + v) C.1 C.2.1 d hL.1 hkk (by rw [hv]) (by rw [← hL.2]; exact hi) rfl (fun ls2 h2 => ?_)
  exact k p l0 e s m args below meth c A cells slots Q H locs ls2 C hc hA hX hf hP hS (hL.setI (.int (x + v)) hi (fun w _ h => x_nl_ok hp w (Option.some.inj h)) h2)
theorem ev_iload_5 {a0 a1 a2 a3 a4 : Option Value} {x : Int32} {t : xL} (d : decode cc pc = .ok (.iload 5, 2)) (k : Ev E R own cc nL F (pc + 2) (a0 :: a1 :: a2 :: a3 :: a4 :: some (.int x) :: t) (.int x :: st) σ) : Ev E R own cc nL F pc (a0 :: a1 :: a2 :: a3 :: a4 :: some (.int x) :: t) st σ := by
  intro p l0 e s m args below meth c A cells slots Q H locs ls C hc hA hX hf hP hS hL
  exact lv_iload C.1 C.2.1 d (hL.get (i := 5) rfl) (k p l0 e s m args below meth c A cells slots Q H locs ls C hc hA hX hf hP hS hL)
theorem ev_lload_5 {a0 a1 a2 a3 a4 : Option Value} {x : Int64} {t : xL} (d : decode cc pc = .ok (.lload 5, 2)) (k : Ev E R own cc nL F (pc + 2) (a0 :: a1 :: a2 :: a3 :: a4 :: some (.long x) :: t) (.long x :: st) σ) : Ev E R own cc nL F pc (a0 :: a1 :: a2 :: a3 :: a4 :: some (.long x) :: t) st σ := by
  intro p l0 e s m args below meth c A cells slots Q H locs ls C hc hA hX hf hP hS hL
  exact lv_lload C.1 C.2.1 d (hL.get (i := 5) rfl) (k p l0 e s m args below meth c A cells slots Q H locs ls C hc hA hX hf hP hS hL)
theorem ev_aload_5 {a0 a1 a2 a3 a4 : Option Value} {x : Nat} {t : xL} (d : decode cc pc = .ok (.aload 5, 2)) (k : Ev E R own cc nL F (pc + 2) (a0 :: a1 :: a2 :: a3 :: a4 :: some (.ref x) :: t) (.ref x :: st) σ) : Ev E R own cc nL F pc (a0 :: a1 :: a2 :: a3 :: a4 :: some (.ref x) :: t) st σ := by
  intro p l0 e s m args below meth c A cells slots Q H locs ls C hc hA hX hf hP hS hL
  exact lv_aload C.1 C.2.1 d (hL.get (i := 5) rfl) (k p l0 e s m args below meth c A cells slots Q H locs ls C hc hA hX hf hP hS hL)
theorem ev_istore_5 {a0 a1 a2 a3 a4 : Option Value} {b : Option Value} {x : Int32} {t : xL} (d : decode cc pc = .ok (.istore 5, 2)) (hp : x_nl a4 = true) (k : Ev E R own cc nL F (pc + 2) (a0 :: a1 :: a2 :: a3 :: a4 :: some (.int x) :: t) st σ) : Ev E R own cc nL F pc (a0 :: a1 :: a2 :: a3 :: a4 :: b :: t) (.int x :: st) σ := by
  intro p l0 e s m args below meth c A cells slots Q H locs ls C hc hA hX hf hP hS hL
  have hi : 5 < (a0 :: a1 :: a2 :: a3 :: a4 :: b :: t).length := by simp
  refine lv_istore C.1 C.2.1 d hL.1 (by rw [← hL.2]; exact hi) rfl (fun ls2 h2 => ?_)
  exact k p l0 e s m args below meth c A cells slots Q H locs ls2 C hc hA hX hf hP hS (hL.setI (.int x) hi (fun w _ h => x_nl_ok hp w (Option.some.inj h)) h2)
theorem ev_astore_5 {a0 a1 a2 a3 a4 : Option Value} {b : Option Value} {x : Nat} {t : xL} (d : decode cc pc = .ok (.astore 5, 2)) (hp : x_nl a4 = true) (k : Ev E R own cc nL F (pc + 2) (a0 :: a1 :: a2 :: a3 :: a4 :: some (.ref x) :: t) st σ) : Ev E R own cc nL F pc (a0 :: a1 :: a2 :: a3 :: a4 :: b :: t) (.ref x :: st) σ := by
  intro p l0 e s m args below meth c A cells slots Q H locs ls C hc hA hX hf hP hS hL
  have hi : 5 < (a0 :: a1 :: a2 :: a3 :: a4 :: b :: t).length := by simp
  refine lv_astore C.1 C.2.1 d hL.1 (by rw [← hL.2]; exact hi) rfl (fun ls2 h2 => ?_)
  exact k p l0 e s m args below meth c A cells slots Q H locs ls2 C hc hA hX hf hP hS (hL.setI (.ref x) hi (fun w _ h => x_nl_ok hp w (Option.some.inj h)) h2)
theorem ev_lstore_5 {a0 a1 a2 a3 a4 : Option Value} {b b2 : Option Value} {x : Int64} {t : xL} (d : decode cc pc = .ok (.lstore 5, 2)) (hp : x_nl a4 = true) (k : Ev E R own cc nL F (pc + 2) (a0 :: a1 :: a2 :: a3 :: a4 :: some (.long x) :: none :: t) st σ) : Ev E R own cc nL F pc (a0 :: a1 :: a2 :: a3 :: a4 :: b :: b2 :: t) (.long x :: st) σ := by
  intro p l0 e s m args below meth c A cells slots Q H locs ls C hc hA hX hf hP hS hL
  have hi : 5 + 1 < (a0 :: a1 :: a2 :: a3 :: a4 :: b :: b2 :: t).length := by simp
  refine lv_lstore C.1 C.2.1 d hL.1 (by rw [← hL.2]; exact hi) rfl (fun ls2 h2 => ?_)
  exact k p l0 e s m args below meth c A cells slots Q H locs ls2 C hc hA hX hf hP hS (hL.setL (.long x) hi (fun w _ h => x_nl_ok hp w (Option.some.inj h)) h2)
theorem ev_iinc_5 {a0 a1 a2 a3 a4 : Option Value} {x : Int32} {n : Int} {t : xL} (v : Int32) (d : decode cc pc = .ok (.iinc 5 n, 3)) (hv : Int32.ofInt n = v) (hp : x_nl a4 = true) (k : Ev E R own cc nL F (pc + 3) (a0 :: a1 :: a2 :: a3 :: a4 :: some (.int (x + v)) :: t) st σ) : Ev E R own cc nL F pc (a0 :: a1 :: a2 :: a3 :: a4 :: some (.int x) :: t) st σ := by
  intro p l0 e s m args below meth c A cells slots Q H locs ls C hc hA hX hf hP hS hL
  have hi : 5 < (a0 :: a1 :: a2 :: a3 :: a4 :: some (.int x) :: t).length := by simp
  obtain ⟨kk, hkk⟩ := List.getElem?_of_mem ((xll_mem (a0 :: a1 :: a2 :: a3 :: a4 :: some (.int x) :: t) 0 5 (.int x)).mpr ⟨5, by omega, rfl⟩)
  refine lv_iinc (v := x + v) C.1 C.2.1 d hL.1 hkk (by rw [hv]) (by rw [← hL.2]; exact hi) rfl (fun ls2 h2 => ?_)
  exact k p l0 e s m args below meth c A cells slots Q H locs ls2 C hc hA hX hf hP hS (hL.setI (.int (x + v)) hi (fun w _ h => x_nl_ok hp w (Option.some.inj h)) h2)
theorem ev_iload_6 {a0 a1 a2 a3 a4 a5 : Option Value} {x : Int32} {t : xL} (d : decode cc pc = .ok (.iload 6, 2)) (k : Ev E R own cc nL F (pc + 2) (a0 :: a1 :: a2 :: a3 :: a4 :: a5 :: some (.int x) :: t) (.int x :: st) σ) : Ev E R own cc nL F pc (a0 :: a1 :: a2 :: a3 :: a4 :: a5 :: some (.int x) :: t) st σ := by
  intro p l0 e s m args below meth c A cells slots Q H locs ls C hc hA hX hf hP hS hL
  exact lv_iload C.1 C.2.1 d (hL.get (i := 6) rfl) (k p l0 e s m args below meth c A cells slots Q H locs ls C hc hA hX hf hP hS hL)
theorem ev_lload_6 {a0 a1 a2 a3 a4 a5 : Option Value} {x : Int64} {t : xL} (d : decode cc pc = .ok (.lload 6, 2)) (k : Ev E R own cc nL F (pc + 2) (a0 :: a1 :: a2 :: a3 :: a4 :: a5 :: some (.long x) :: t) (.long x :: st) σ) : Ev E R own cc nL F pc (a0 :: a1 :: a2 :: a3 :: a4 :: a5 :: some (.long x) :: t) st σ := by
  intro p l0 e s m args below meth c A cells slots Q H locs ls C hc hA hX hf hP hS hL
  exact lv_lload C.1 C.2.1 d (hL.get (i := 6) rfl) (k p l0 e s m args below meth c A cells slots Q H locs ls C hc hA hX hf hP hS hL)
theorem ev_aload_6 {a0 a1 a2 a3 a4 a5 : Option Value} {x : Nat} {t : xL} (d : decode cc pc = .ok (.aload 6, 2)) (k : Ev E R own cc nL F (pc + 2) (a0 :: a1 :: a2 :: a3 :: a4 :: a5 :: some (.ref x) :: t) (.ref x :: st) σ) : Ev E R own cc nL F pc (a0 :: a1 :: a2 :: a3 :: a4 :: a5 :: some (.ref x) :: t) st σ := by
  intro p l0 e s m args below meth c A cells slots Q H locs ls C hc hA hX hf hP hS hL
  exact lv_aload C.1 C.2.1 d (hL.get (i := 6) rfl) (k p l0 e s m args below meth c A cells slots Q H locs ls C hc hA hX hf hP hS hL)
theorem ev_istore_6 {a0 a1 a2 a3 a4 a5 : Option Value} {b : Option Value} {x : Int32} {t : xL} (d : decode cc pc = .ok (.istore 6, 2)) (hp : x_nl a5 = true) (k : Ev E R own cc nL F (pc + 2) (a0 :: a1 :: a2 :: a3 :: a4 :: a5 :: some (.int x) :: t) st σ) : Ev E R own cc nL F pc (a0 :: a1 :: a2 :: a3 :: a4 :: a5 :: b :: t) (.int x :: st) σ := by
  intro p l0 e s m args below meth c A cells slots Q H locs ls C hc hA hX hf hP hS hL
  have hi : 6 < (a0 :: a1 :: a2 :: a3 :: a4 :: a5 :: b :: t).length := by simp
  refine lv_istore C.1 C.2.1 d hL.1 (by rw [← hL.2]; exact hi) rfl (fun ls2 h2 => ?_)
  exact k p l0 e s m args below meth c A cells slots Q H locs ls2 C hc hA hX hf hP hS (hL.setI (.int x) hi (fun w _ h => x_nl_ok hp w (Option.some.inj h)) h2)
theorem ev_astore_6 {a0 a1 a2 a3 a4 a5 : Option Value} {b : Option Value} {x : Nat} {t : xL} (d : decode cc pc = .ok (.astore 6, 2)) (hp : x_nl a5 = true) (k : Ev E R own cc nL F (pc + 2) (a0 :: a1 :: a2 :: a3 :: a4 :: a5 :: some (.ref x) :: t) st σ) : Ev E R own cc nL F pc (a0 :: a1 :: a2 :: a3 :: a4 :: a5 :: b :: t) (.ref x :: st) σ := by
  intro p l0 e s m args below meth c A cells slots Q H locs ls C hc hA hX hf hP hS hL
  have hi : 6 < (a0 :: a1 :: a2 :: a3 :: a4 :: a5 :: b :: t).length := by simp
  refine lv_astore C.1 C.2.1 d hL.1 (by rw [← hL.2]; exact hi) rfl (fun ls2 h2 => ?_)
  exact k p l0 e s m args below meth c A cells slots Q H locs ls2 C hc hA hX hf hP hS (hL.setI (.ref x) hi (fun w _ h => x_nl_ok hp w (Option.some.inj h)) h2)
theorem ev_lstore_6 {a0 a1 a2 a3 a4 a5 : Option Value} {b b2 : Option Value} {x : Int64} {t : xL} (d : decode cc pc = .ok (.lstore 6, 2)) (hp : x_nl a5 = true) (k : Ev E R own cc nL F (pc + 2) (a0 :: a1 :: a2 :: a3 :: a4 :: a5 :: some (.long x) :: none :: t) st σ) : Ev E R own cc nL F pc (a0 :: a1 :: a2 :: a3 :: a4 :: a5 :: b :: b2 :: t) (.long x :: st) σ := by
  intro p l0 e s m args below meth c A cells slots Q H locs ls C hc hA hX hf hP hS hL
  have hi : 6 + 1 < (a0 :: a1 :: a2 :: a3 :: a4 :: a5 :: b :: b2 :: t).length := by simp
  refine lv_lstore C.1 C.2.1 d hL.1 (by rw [← hL.2]; exact hi) rfl (fun ls2 h2 => ?_)
  exact k p l0 e s m args below meth c A cells slots Q H locs ls2 C hc hA hX hf hP hS (hL.setL (.long x) hi (fun w _ h => x_nl_ok hp w (Option.some.inj h)) h2)
theorem ev_iinc_6 {a0 a1 a2 a3 a4 a5 : Option Value} {x : Int32} {n : Int} {t : xL} (v : Int32) (d : decode cc pc = .ok (.iinc 6 n, 3)) (hv : Int32.ofInt n = v) (hp : x_nl a5 = true) (k : Ev E R own cc nL F (pc + 3) (a0 :: a1 :: a2 :: a3 :: a4 :: a5 :: some (.int (x + v)) :: t) st σ) : Ev E R own cc nL F pc (a0 :: a1 :: a2 :: a3 :: a4 :: a5 :: some (.int x) :: t) st σ := by
  intro p l0 e s m args below meth c A cells slots Q H locs ls C hc hA hX hf hP hS hL
  have hi : 6 < (a0 :: a1 :: a2 :: a3 :: a4 :: a5 :: some (.int x) :: t).length := by simp
  obtain ⟨kk, hkk⟩ := List.getElem?_of_mem ((xll_mem (a0 :: a1 :: a2 :: a3 :: a4 :: a5 :: some (.int x) :: t) 0 6 (.int x)).mpr ⟨6, by omega, rfl⟩)
  refine lv_iinc (v := x + v) C.1 C.2.1 d hL.1 hkk (by rw [hv]) (by rw [← hL.2]; exact hi) rfl (fun ls2 h2 => ?_)
  exact k p l0 e s m args below meth c A cells slots Q H locs ls2 C hc hA hX hf hP hS (hL.setI (.int (x + v)) hi (fun w _ h => x_nl_ok hp w (Option.some.inj h)) h2)
theorem ev_iload_7 {a0 a1 a2 a3 a4 a5 a6 : Option Value} {x : Int32} {t : xL} (d : decode cc pc = .ok (.iload 7, 2)) (k : Ev E R own cc nL F (pc + 2) (a0 :: a1 :: a2 :: a3 :: a4 :: a5 :: a6 :: some (.int x) :: t) (.int x :: st) σ) : Ev E R own cc nL F pc (a0 :: a1 :: a2 :: a3 :: a4 :: a5 :: a6 :: some (.int x) :: t) st σ := by
  intro p l0 e s m args below meth c A cells slots Q H locs ls C hc hA hX hf hP hS hL
  exact lv_iload C.1 C.2.1 d (hL.get (i := 7) rfl) (k p l0 e s m args below meth c A cells slots Q H locs ls C hc hA hX hf hP hS hL)
theorem ev_lload_7 {a0 a1 a2 a3 a4 a5 a6 : Option Value} {x : Int64} {t : xL} (d : decode cc pc = .ok (.lload 7, 2)) (k : Ev E R own cc nL F (pc + 2) (a0 :: a1 :: a2 :: a3 :: a4 :: a5 :: a6 :: some (.long x) :: t) (.long x :: st) σ) : Ev E R own cc nL F pc (a0 :: a1 :: a2 :: a3 :: a4 :: a5 :: a6 :: some (.long x) :: t) st σ := by
  intro p l0 e s m args below meth c A cells slots Q H locs ls C hc hA hX hf hP hS hL
  exact lv_lload C.1 C.2.1 d (hL.get (i := 7) rfl) (k p l0 e s m args below meth c A cells slots Q H locs ls C hc hA hX hf hP hS hL)
theorem ev_aload_7 {a0 a1 a2 a3 a4 a5 a6 : Option Value} {x : Nat} {t : xL} (d : decode cc pc = .ok (.aload 7, 2)) (k : Ev E R own cc nL F (pc + 2) (a0 :: a1 :: a2 :: a3 :: a4 :: a5 :: a6 :: some (.ref x) :: t) (.ref x :: st) σ) : Ev E R own cc nL F pc (a0 :: a1 :: a2 :: a3 :: a4 :: a5 :: a6 :: some (.ref x) :: t) st σ := by
  intro p l0 e s m args below meth c A cells slots Q H locs ls C hc hA hX hf hP hS hL
  exact lv_aload C.1 C.2.1 d (hL.get (i := 7) rfl) (k p l0 e s m args below meth c A cells slots Q H locs ls C hc hA hX hf hP hS hL)
theorem ev_istore_7 {a0 a1 a2 a3 a4 a5 a6 : Option Value} {b : Option Value} {x : Int32} {t : xL} (d : decode cc pc = .ok (.istore 7, 2)) (hp : x_nl a6 = true) (k : Ev E R own cc nL F (pc + 2) (a0 :: a1 :: a2 :: a3 :: a4 :: a5 :: a6 :: some (.int x) :: t) st σ) : Ev E R own cc nL F pc (a0 :: a1 :: a2 :: a3 :: a4 :: a5 :: a6 :: b :: t) (.int x :: st) σ := by
  intro p l0 e s m args below meth c A cells slots Q H locs ls C hc hA hX hf hP hS hL
  have hi : 7 < (a0 :: a1 :: a2 :: a3 :: a4 :: a5 :: a6 :: b :: t).length := by simp
  refine lv_istore C.1 C.2.1 d hL.1 (by rw [← hL.2]; exact hi) rfl (fun ls2 h2 => ?_)
  exact k p l0 e s m args below meth c A cells slots Q H locs ls2 C hc hA hX hf hP hS (hL.setI (.int x) hi (fun w _ h => x_nl_ok hp w (Option.some.inj h)) h2)
theorem ev_astore_7 {a0 a1 a2 a3 a4 a5 a6 : Option Value} {b : Option Value} {x : Nat} {t : xL} (d : decode cc pc = .ok (.astore 7, 2)) (hp : x_nl a6 = true) (k : Ev E R own cc nL F (pc + 2) (a0 :: a1 :: a2 :: a3 :: a4 :: a5 :: a6 :: some (.ref x) :: t) st σ) : Ev E R own cc nL F pc (a0 :: a1 :: a2 :: a3 :: a4 :: a5 :: a6 :: b :: t) (.ref x :: st) σ := by
  intro p l0 e s m args below meth c A cells slots Q H locs ls C hc hA hX hf hP hS hL
  have hi : 7 < (a0 :: a1 :: a2 :: a3 :: a4 :: a5 :: a6 :: b :: t).length := by simp
  refine lv_astore C.1 C.2.1 d hL.1 (by rw [← hL.2]; exact hi) rfl (fun ls2 h2 => ?_)
  exact k p l0 e s m args below meth c A cells slots Q H locs ls2 C hc hA hX hf hP hS (hL.setI (.ref x) hi (fun w _ h => x_nl_ok hp w (Option.some.inj h)) h2)
theorem ev_lstore_7 {a0 a1 a2 a3 a4 a5 a6 : Option Value} {b b2 : Option Value} {x : Int64} {t : xL} (d : decode cc pc = .ok (.lstore 7, 2)) (hp : x_nl a6 = true) (k : Ev E R own cc nL F (pc + 2) (a0 :: a1 :: a2 :: a3 :: a4 :: a5 :: a6 :: some (.long x) :: none :: t) st σ) : Ev E R own cc nL F pc (a0 :: a1 :: a2 :: a3 :: a4 :: a5 :: a6 :: b :: b2 :: t) (.long x :: st) σ := by
  intro p l0 e s m args below meth c A cells slots Q H locs ls C hc hA hX hf hP hS hL
  have hi : 7 + 1 < (a0 :: a1 :: a2 :: a3 :: a4 :: a5 :: a6 :: b :: b2 :: t).length := by simp
  refine lv_lstore C.1 C.2.1 d hL.1 (by rw [← hL.2]; exact hi) rfl (fun ls2 h2 => ?_)
  exact k p l0 e s m args below meth c A cells slots Q H locs ls2 C hc hA hX hf hP hS (hL.setL (.long x) hi (fun w _ h => x_nl_ok hp w (Option.some.inj h)) h2)
theorem ev_iinc_7 {a0 a1 a2 a3 a4 a5 a6 : Option Value} {x : Int32} {n : Int} {t : xL} (v : Int32) (d : decode cc pc = .ok (.iinc 7 n, 3)) (hv : Int32.ofInt n = v) (hp : x_nl a6 = true) (k : Ev E R own cc nL F (pc + 3) (a0 :: a1 :: a2 :: a3 :: a4 :: a5 :: a6 :: some (.int (x + v)) :: t) st σ) : Ev E R own cc nL F pc (a0 :: a1 :: a2 :: a3 :: a4 :: a5 :: a6 :: some (.int x) :: t) st σ := by
  intro p l0 e s m args below meth c A cells slots Q H locs ls C hc hA hX hf hP hS hL
  have hi : 7 < (a0 :: a1 :: a2 :: a3 :: a4 :: a5 :: a6 :: some (.int x) :: t).length := by simp
  obtain ⟨kk, hkk⟩ := List.getElem?_of_mem ((xll_mem (a0 :: a1 :: a2 :: a3 :: a4 :: a5 :: a6 :: some (.int x) :: t) 0 7 (.int x)).mpr ⟨7, by omega, rfl⟩)
  refine lv_iinc (v := x + v) C.1 C.2.1 d hL.1 hkk (by rw [hv]) (by rw [← hL.2]; exact hi) rfl (fun ls2 h2 => ?_)
  exact k p l0 e s m args below meth c A cells slots Q H locs ls2 C hc hA hX hf hP hS (hL.setI (.int (x + v)) hi (fun w _ h => x_nl_ok hp w (Option.some.inj h)) h2)
theorem ev_iload_8 {a0 a1 a2 a3 a4 a5 a6 a7 : Option Value} {x : Int32} {t : xL} (d : decode cc pc = .ok (.iload 8, 2)) (k : Ev E R own cc nL F (pc + 2) (a0 :: a1 :: a2 :: a3 :: a4 :: a5 :: a6 :: a7 :: some (.int x) :: t) (.int x :: st) σ) : Ev E R own cc nL F pc (a0 :: a1 :: a2 :: a3 :: a4 :: a5 :: a6 :: a7 :: some (.int x) :: t) st σ := by
  intro p l0 e s m args below meth c A cells slots Q H locs ls C hc hA hX hf hP hS hL
  exact lv_iload C.1 C.2.1 d (hL.get (i := 8) rfl) (k p l0 e s m args below meth c A cells slots Q H locs ls C hc hA hX hf hP hS hL)
theorem ev_lload_8 {a0 a1 a2 a3 a4 a5 a6 a7 : Option Value} {x : Int64} {t : xL} (d : decode cc pc = .ok (.lload 8, 2)) (k : Ev E R own cc nL F (pc + 2) (a0 :: a1 :: a2 :: a3 :: a4 :: a5 :: a6 :: a7 :: some (.long x) :: t) (.long x :: st) σ) : Ev E R own cc nL F pc (a0 :: a1 :: a2 :: a3 :: a4 :: a5 :: a6 :: a7 :: some (.long x) :: t) st σ := by
  intro p l0 e s m args below meth c A cells slots Q H locs ls C hc hA hX hf hP hS hL
  exact lv_lload C.1 C.2.1 d (hL.get (i := 8) rfl) (k p l0 e s m args below meth c A cells slots Q H locs ls C hc hA hX hf hP hS hL)
theorem ev_aload_8 {a0 a1 a2 a3 a4 a5 a6 a7 : Option Value} {x : Nat} {t : xL} (d : decode cc pc = .ok (.aload 8, 2)) (k : Ev E R own cc nL F (pc + 2) (a0 :: a1 :: a2 :: a3 :: a4 :: a5 :: a6 :: a7 :: some (.ref x) :: t) (.ref x :: st) σ) : Ev E R own cc nL F pc (a0 :: a1 :: a2 :: a3 :: a4 :: a5 :: a6 :: a7 :: some (.ref x) :: t) st σ := by
  intro p l0 e s m args below meth c A cells slots Q H locs ls C hc hA hX hf hP hS hL
  exact lv_aload C.1 C.2.1 d (hL.get (i := 8) rfl) (k p l0 e s m args below meth c A cells slots Q H locs ls C hc hA hX hf hP hS hL)
theorem ev_istore_8 {a0 a1 a2 a3 a4 a5 a6 a7 : Option Value} {b : Option Value} {x : Int32} {t : xL} (d : decode cc pc = .ok (.istore 8, 2)) (hp : x_nl a7 = true) (k : Ev E R own cc nL F (pc + 2) (a0 :: a1 :: a2 :: a3 :: a4 :: a5 :: a6 :: a7 :: some (.int x) :: t) st σ) : Ev E R own cc nL F pc (a0 :: a1 :: a2 :: a3 :: a4 :: a5 :: a6 :: a7 :: b :: t) (.int x :: st) σ := by
  intro p l0 e s m args below meth c A cells slots Q H locs ls C hc hA hX hf hP hS hL
  have hi : 8 < (a0 :: a1 :: a2 :: a3 :: a4 :: a5 :: a6 :: a7 :: b :: t).length := by simp
  refine lv_istore C.1 C.2.1 d hL.1 (by rw [← hL.2]; exact hi) rfl (fun ls2 h2 => ?_)
  exact k p l0 e s m args below meth c A cells slots Q H locs ls2 C hc hA hX hf hP hS (hL.setI (.int x) hi (fun w _ h => x_nl_ok hp w (Option.some.inj h)) h2)
theorem ev_astore_8 {a0 a1 a2 a3 a4 a5 a6 a7 : Option Value} {b : Option Value} {x : Nat} {t : xL} (d : decode cc pc = .ok (.astore 8, 2)) (hp : x_nl a7 = true) (k : Ev E R own cc nL F (pc + 2) (a0 :: a1 :: a2 :: a3 :: a4 :: a5 :: a6 :: a7 :: some (.ref x) :: t) st σ) : Ev E R own cc nL F pc (a0 :: a1 :: a2 :: a3 :: a4 :: a5 :: a6 :: a7 :: b :: t) (.ref x :: st) σ := by
  intro p l0 e s m args below meth c A cells slots Q H locs ls C hc hA hX hf hP hS hL
  have hi : 8 < (a0 :: a1 :: a2 :: a3 :: a4 :: a5 :: a6 :: a7 :: b :: t).length := by simp
  refine lv_astore C.1 C.2.1 d hL.1 (by rw [← hL.2]; exact hi) rfl (fun ls2 h2 => ?_)
  exact k p l0 e s m args below meth c A cells slots Q H locs ls2 C hc hA hX hf hP hS (hL.setI (.ref x) hi (fun w _ h => x_nl_ok hp w (Option.some.inj h)) h2)
theorem ev_lstore_8 {a0 a1 a2 a3 a4 a5 a6 a7 : Option Value} {b b2 : Option Value} {x : Int64} {t : xL} (d : decode cc pc = .ok (.lstore 8, 2)) (hp : x_nl a7 = true) (k : Ev E R own cc nL F (pc + 2) (a0 :: a1 :: a2 :: a3 :: a4 :: a5 :: a6 :: a7 :: some (.long x) :: none :: t) st σ) : Ev E R own cc nL F pc (a0 :: a1 :: a2 :: a3 :: a4 :: a5 :: a6 :: a7 :: b :: b2 :: t) (.long x :: st) σ := by
  intro p l0 e s m args below meth c A cells slots Q H locs ls C hc hA hX hf hP hS hL
  have hi : 8 + 1 < (a0 :: a1 :: a2 :: a3 :: a4 :: a5 :: a6 :: a7 :: b :: b2 :: t).length := by simp
  refine lv_lstore C.1 C.2.1 d hL.1 (by rw [← hL.2]; exact hi) rfl (fun ls2 h2 => ?_)
  exact k p l0 e s m args below meth c A cells slots Q H locs ls2 C hc hA hX hf hP hS (hL.setL (.long x) hi (fun w _ h => x_nl_ok hp w (Option.some.inj h)) h2)
theorem ev_iinc_8 {a0 a1 a2 a3 a4 a5 a6 a7 : Option Value} {x : Int32} {n : Int} {t : xL} (v : Int32) (d : decode cc pc = .ok (.iinc 8 n, 3)) (hv : Int32.ofInt n = v) (hp : x_nl a7 = true) (k : Ev E R own cc nL F (pc + 3) (a0 :: a1 :: a2 :: a3 :: a4 :: a5 :: a6 :: a7 :: some (.int (x + v)) :: t) st σ) : Ev E R own cc nL F pc (a0 :: a1 :: a2 :: a3 :: a4 :: a5 :: a6 :: a7 :: some (.int x) :: t) st σ := by
  intro p l0 e s m args below meth c A cells slots Q H locs ls C hc hA hX hf hP hS hL
  have hi : 8 < (a0 :: a1 :: a2 :: a3 :: a4 :: a5 :: a6 :: a7 :: some (.int x) :: t).length := by simp
  obtain ⟨kk, hkk⟩ := List.getElem?_of_mem ((xll_mem (a0 :: a1 :: a2 :: a3 :: a4 :: a5 :: a6 :: a7 :: some (.int x) :: t) 0 8 (.int x)).mpr ⟨8, by omega, rfl⟩)
  refine lv_iinc (v := x + v) C.1 C.2.1 d hL.1 hkk (by rw [hv]) (by rw [← hL.2]; exact hi) rfl (fun ls2 h2 => ?_)
  exact k p l0 e s m args below meth c A cells slots Q H locs ls2 C hc hA hX hf hP hS (hL.setI (.int (x + v)) hi (fun w _ h => x_nl_ok hp w (Option.some.inj h)) h2)
theorem ev_iload_9 {a0 a1 a2 a3 a4 a5 a6 a7 a8 : Option Value} {x : Int32} {t : xL} (d : decode cc pc = .ok (.iload 9, 2)) (k : Ev E R own cc nL F (pc + 2) (a0 :: a1 :: a2 :: a3 :: a4 :: a5 :: a6 :: a7 :: a8 :: some (.int x) :: t) (.int x :: st) σ) : Ev E R own cc nL F pc (a0 :: a1 :: a2 :: a3 :: a4 :: a5 :: a6 :: a7 :: a8 :: some (.int x) :: t) st σ := by
  intro p l0 e s m args below meth c A cells slots Q H locs ls C hc hA hX hf hP hS hL
  exact lv_iload C.1 C.2.1 d (hL.get (i := 9) rfl) (k p l0 e s m args below meth c A cells slots Q H locs ls C hc hA hX hf hP hS hL)
theorem ev_lload_9 {a0 a1 a2 a3 a4 a5 a6 a7 a8 : Option Value} {x : Int64} {t : xL} (d : decode cc pc = .ok (.lload 9, 2)) (k : Ev E R own cc nL F (pc + 2) (a0 :: a1 :: a2 :: a3 :: a4 :: a5 :: a6 :: a7 :: a8 :: some (.long x) :: t) (.long x :: st) σ) : Ev E R own cc nL F pc (a0 :: a1 :: a2 :: a3 :: a4 :: a5 :: a6 :: a7 :: a8 :: some (.long x) :: t) st σ := by
  intro p l0 e s m args below meth c A cells slots Q H locs ls C hc hA hX hf hP hS hL
  exact lv_lload C.1 C.2.1 d (hL.get (i := 9) rfl) (k p l0 e s m args below meth c A cells slots Q H locs ls C hc hA hX hf hP hS hL)
theorem ev_aload_9 {a0 a1 a2 a3 a4 a5 a6 a7 a8 : Option Value} {x : Nat} {t : xL} (d : decode cc pc = .ok (.aload 9, 2)) (k : Ev E R own cc nL F (pc + 2) (a0 :: a1 :: a2 :: a3 :: a4 :: a5 :: a6 :: a7 :: a8 :: some (.ref x) :: t) (.ref x :: st) σ) : Ev E R own cc nL F pc (a0 :: a1 :: a2 :: a3 :: a4 :: a5 :: a6 :: a7 :: a8 :: some (.ref x) :: t) st σ := by
  intro p l0 e s m args below meth c A cells slots Q H locs ls C hc hA hX hf hP hS hL
  exact lv_aload C.1 C.2.1 d (hL.get (i := 9) rfl) (k p l0 e s m args below meth c A cells slots Q H locs ls C hc hA hX hf hP hS hL)
theorem ev_istore_9 {a0 a1 a2 a3 a4 a5 a6 a7 a8 : Option Value} {b : Option Value} {x : Int32} {t : xL} (d : decode cc pc = .ok (.istore 9, 2)) (hp : x_nl a8 = true) (k : Ev E R own cc nL F (pc + 2) (a0 :: a1 :: a2 :: a3 :: a4 :: a5 :: a6 :: a7 :: a8 :: some (.int x) :: t) st σ) : Ev E R own cc nL F pc (a0 :: a1 :: a2 :: a3 :: a4 :: a5 :: a6 :: a7 :: a8 :: b :: t) (.int x :: st) σ := by
  intro p l0 e s m args below meth c A cells slots Q H locs ls C hc hA hX hf hP hS hL
  have hi : 9 < (a0 :: a1 :: a2 :: a3 :: a4 :: a5 :: a6 :: a7 :: a8 :: b :: t).length := by simp
  refine lv_istore C.1 C.2.1 d hL.1 (by rw [← hL.2]; exact hi) rfl (fun ls2 h2 => ?_)
  exact k p l0 e s m args below meth c A cells slots Q H locs ls2 C hc hA hX hf hP hS (hL.setI (.int x) hi (fun w _ h => x_nl_ok hp w (Option.some.inj h)) h2)
theorem ev_astore_9 {a0 a1 a2 a3 a4 a5 a6 a7 a8 : Option Value} {b : Option Value} {x : Nat} {t : xL} (d : decode cc pc = .ok (.astore 9, 2)) (hp : x_nl a8 = true) (k : Ev E R own cc nL F (pc + 2) (a0 :: a1 :: a2 :: a3 :: a4 :: a5 :: a6 :: a7 :: a8 :: some (.ref x) :: t) st σ) : Ev E R own cc nL F pc (a0 :: a1 :: a2 :: a3 :: a4 :: a5 :: a6 :: a7 :: a8 :: b :: t) (.ref x :: st) σ := by
  intro p l0 e s m args below meth c A cells slots Q H locs ls C hc hA hX hf hP hS hL
  have hi : 9 < (a0 :: a1 :: a2 :: a3 :: a4 :: a5 :: a6 :: a7 :: a8 :: b :: t).length := by simp
  refine lv_astore C.1 C.2.1 d hL.1 (by rw [← hL.2]; exact hi) rfl (fun ls2 h2 => ?_)
  exact k p l0 e s m args below meth c A cells slots Q H locs ls2 C hc hA hX hf hP hS (hL.setI (.ref x) hi (fun w _ h => x_nl_ok hp w (Option.some.inj h)) h2)
theorem ev_lstore_9 {a0 a1 a2 a3 a4 a5 a6 a7 a8 : Option Value} {b b2 : Option Value} {x : Int64} {t : xL} (d : decode cc pc = .ok (.lstore 9, 2)) (hp : x_nl a8 = true) (k : Ev E R own cc nL F (pc + 2) (a0 :: a1 :: a2 :: a3 :: a4 :: a5 :: a6 :: a7 :: a8 :: some (.long x) :: none :: t) st σ) : Ev E R own cc nL F pc (a0 :: a1 :: a2 :: a3 :: a4 :: a5 :: a6 :: a7 :: a8 :: b :: b2 :: t) (.long x :: st) σ := by
  intro p l0 e s m args below meth c A cells slots Q H locs ls C hc hA hX hf hP hS hL
  have hi : 9 + 1 < (a0 :: a1 :: a2 :: a3 :: a4 :: a5 :: a6 :: a7 :: a8 :: b :: b2 :: t).length := by simp
  refine lv_lstore C.1 C.2.1 d hL.1 (by rw [← hL.2]; exact hi) rfl (fun ls2 h2 => ?_)
  exact k p l0 e s m args below meth c A cells slots Q H locs ls2 C hc hA hX hf hP hS (hL.setL (.long x) hi (fun w _ h => x_nl_ok hp w (Option.some.inj h)) h2)
theorem ev_iinc_9 {a0 a1 a2 a3 a4 a5 a6 a7 a8 : Option Value} {x : Int32} {n : Int} {t : xL} (v : Int32) (d : decode cc pc = .ok (.iinc 9 n, 3)) (hv : Int32.ofInt n = v) (hp : x_nl a8 = true) (k : Ev E R own cc nL F (pc + 3) (a0 :: a1 :: a2 :: a3 :: a4 :: a5 :: a6 :: a7 :: a8 :: some (.int (x + v)) :: t) st σ) : Ev E R own cc nL F pc (a0 :: a1 :: a2 :: a3 :: a4 :: a5 :: a6 :: a7 :: a8 :: some (.int x) :: t) st σ := by
  intro p l0 e s m args below meth c A cells slots Q H locs ls C hc hA hX hf hP hS hL
  have hi : 9 < (a0 :: a1 :: a2 :: a3 :: a4 :: a5 :: a6 :: a7 :: a8 :: some (.int x) :: t).length := by simp
  obtain ⟨kk, hkk⟩ := List.getElem?_of_mem ((xll_mem (a0 :: a1 :: a2 :: a3 :: a4 :: a5 :: a6 :: a7 :: a8 :: some (.int x) :: t) 0 9 (.int x)).mpr ⟨9, by omega, rfl⟩)
  refine lv_iinc (v := x + v) C.1 C.2.1 d hL.1 hkk (by rw [hv]) (by rw [← hL.2]; exact hi) rfl (fun ls2 h2 => ?_)
  exact k p l0 e s m args below meth c A cells slots Q H locs ls2 C hc hA hX hf hP hS (hL.setI (.int (x + v)) hi (fun w _ h => x_nl_ok hp w (Option.some.inj h)) h2)
theorem ev_iload_10 {a0 a1 a2 a3 a4 a5 a6 a7 a8 a9 : Option Value} {x : Int32} {t : xL} (d : decode cc pc = .ok (.iload 10, 2)) (k : Ev E R own cc nL F (pc + 2) (a0 :: a1 :: a2 :: a3 :: a4 :: a5 :: a6 :: a7 :: a8 :: a9 :: some (.int x) :: t) (.int x :: st) σ) : Ev E R own cc nL F pc (a0 :: a1 :: a2 :: a3 :: a4 :: a5 :: a6 :: a7 :: a8 :: a9 :: some (.int x) :: t) st σ := by
  intro p l0 e s m args below meth c A cells slots Q H locs ls C hc hA hX hf hP hS hL
  exact lv_iload C.1 C.2.1 d (hL.get (i := 10) rfl) (k p l0 e s m args below meth c A cells slots Q H locs ls C hc hA hX hf hP hS hL)
theorem ev_lload_10 {a0 a1 a2 a3 a4 a5 a6 a7 a8 a9 : Option Value} {x : Int64} {t : xL} (d : decode cc pc = .ok (.lload 10, 2)) (k : Ev E R own cc nL F (pc + 2) (a0 :: a1 :: a2 :: a3 :: a4 :: a5 :: a6 :: a7 :: a8 :: a9 :: some (.long x) :: t) (.long x :: st) σ) : Ev E R own cc nL F pc (a0 :: a1 :: a2 :: a3 :: a4 :: a5 :: a6 :: a7 :: a8 :: a9 :: some (.long x) :: t) st σ := by
  intro p l0 e s m args below meth c A cells slots Q H locs ls C hc hA hX hf hP hS hL
  exact lv_lload C.1 C.2.1 d (hL.get (i := 10) rfl) (k p l0 e s m args below meth c A cells slots Q H locs ls C hc hA hX hf hP hS hL)
theorem ev_aload_10 {a0 a1 a2 a3 a4 a5 a6 a7 a8 a9 : Option Value} {x : Nat} {t : xL} (d : decode cc pc = .ok (.aload 10, 2)) (k : Ev E R own cc nL F (pc + 2) (a0 :: a1 :: a2 :: a3 :: a4 :: a5 :: a6 :: a7 :: a8 :: a9 :: some (.ref x) :: t) (.ref x :: st) σ) : Ev E R own cc nL F pc (a0 :: a1 :: a2 :: a3 :: a4 :: a5 :: a6 :: a7 :: a8 :: a9 :: some (.ref x) :: t) st σ := by
  intro p l0 e s m args below meth c A cells slots Q H locs ls C hc hA hX hf hP hS hL
  exact lv_aload C.1 C.2.1 d (hL.get (i := 10) rfl) (k p l0 e s m args below meth c A cells slots Q H locs ls C hc hA hX hf hP hS hL)
theorem ev_istore_10 {a0 a1 a2 a3 a4 a5 a6 a7 a8 a9 : Option Value} {b : Option Value} {x : Int32} {t : xL} (d : decode cc pc = .ok (.istore 10, 2)) (hp : x_nl a9 = true) (k : Ev E R own cc nL F (pc + 2) (a0 :: a1 :: a2 :: a3 :: a4 :: a5 :: a6 :: a7 :: a8 :: a9 :: some (.int x) :: t) st σ) : Ev E R own cc nL F pc (a0 :: a1 :: a2 :: a3 :: a4 :: a5 :: a6 :: a7 :: a8 :: a9 :: b :: t) (.int x :: st) σ := by
  intro p l0 e s m args below meth c A cells slots Q H locs ls C hc hA hX hf hP hS hL
  have hi : 10 < (a0 :: a1 :: a2 :: a3 :: a4 :: a5 :: a6 :: a7 :: a8 :: a9 :: b :: t).length := by simp
  refine lv_istore C.1 C.2.1 d hL.1 (by rw [← hL.2]; exact hi) rfl (fun ls2 h2 => ?_)
  exact k p l0 e s m args below meth c A cells slots Q H locs ls2 C hc hA hX hf hP hS (hL.setI (.int x) hi (fun w _ h => x_nl_ok hp w (Option.some.inj h)) h2)
theorem ev_astore_10 {a0 a1 a2 a3 a4 a5 a6 a7 a8 a9 : Option Value} {b : Option Value} {x : Nat} {t : xL} (d : decode cc pc = .ok (.astore 10, 2)) (hp : x_nl a9 = true) (k : Ev E R own cc nL F (pc + 2) (a0 :: a1 :: a2 :: a3 :: a4 :: a5 :: a6 :: a7 :: a8 :: a9 :: some (.ref x) :: t) st σ) : Ev E R own cc nL F pc (a0 :: a1 :: a2 :: a3 :: a4 :: a5 :: a6 :: a7 :: a8 :: a9 :: b :: t) (.ref x :: st) σ := by
  intro p l0 e s m args below meth c A cells slots Q H locs ls C hc hA hX hf hP hS hL
  have hi : 10 < (a0 :: a1 :: a2 :: a3 :: a4 :: a5 :: a6 :: a7 :: a8 :: a9 :: b :: t).length := by simp
  refine lv_astore C.1 C.2.1 d hL.1 (by rw [← hL.2]; exact hi) rfl (fun ls2 h2 => ?_)
  exact k p l0 e s m args below meth c A cells slots Q H locs ls2 C hc hA hX hf hP hS (hL.setI (.ref x) hi (fun w _ h => x_nl_ok hp w (Option.some.inj h)) h2)
theorem ev_lstore_10 {a0 a1 a2 a3 a4 a5 a6 a7 a8 a9 : Option Value} {b b2 : Option Value} {x : Int64} {t : xL} (d : decode cc pc = .ok (.lstore 10, 2)) (hp : x_nl a9 = true) (k : Ev E R own cc nL F (pc + 2) (a0 :: a1 :: a2 :: a3 :: a4 :: a5 :: a6 :: a7 :: a8 :: a9 :: some (.long x) :: none :: t) st σ) : Ev E R own cc nL F pc (a0 :: a1 :: a2 :: a3 :: a4 :: a5 :: a6 :: a7 :: a8 :: a9 :: b :: b2 :: t) (.long x :: st) σ := by
  intro p l0 e s m args below meth c A cells slots Q H locs ls C hc hA hX hf hP hS hL
  have hi : 10 + 1 < (a0 :: a1 :: a2 :: a3 :: a4 :: a5 :: a6 :: a7 :: a8 :: a9 :: b :: b2 :: t).length := by simp
  refine lv_lstore C.1 C.2.1 d hL.1 (by rw [← hL.2]; exact hi) rfl (fun ls2 h2 => ?_)
  exact k p l0 e s m args below meth c A cells slots Q H locs ls2 C hc hA hX hf hP hS (hL.setL (.long x) hi (fun w _ h => x_nl_ok hp w (Option.some.inj h)) h2)
theorem ev_iinc_10 {a0 a1 a2 a3 a4 a5 a6 a7 a8 a9 : Option Value} {x : Int32} {n : Int} {t : xL} (v : Int32) (d : decode cc pc = .ok (.iinc 10 n, 3)) (hv : Int32.ofInt n = v) (hp : x_nl a9 = true) (k : Ev E R own cc nL F (pc + 3) (a0 :: a1 :: a2 :: a3 :: a4 :: a5 :: a6 :: a7 :: a8 :: a9 :: some (.int (x + v)) :: t) st σ) : Ev E R own cc nL F pc (a0 :: a1 :: a2 :: a3 :: a4 :: a5 :: a6 :: a7 :: a8 :: a9 :: some (.int x) :: t) st σ := by
  intro p l0 e s m args below meth c A cells slots Q H locs ls C hc hA hX hf hP hS hL
  have hi : 10 < (a0 :: a1 :: a2 :: a3 :: a4 :: a5 :: a6 :: a7 :: a8 :: a9 :: some (.int x) :: t).length := by simp
  obtain ⟨kk, hkk⟩ := List.getElem?_of_mem ((xll_mem (a0 :: a1 :: a2 :: a3 :: a4 :: a5 :: a6 :: a7 :: a8 :: a9 :: some (.int x) :: t) 0 10 (.int x)).mpr ⟨10, by omega, rfl⟩)
  refine lv_iinc (v := x + v) C.1 C.2.1 d hL.1 hkk (by rw [hv]) (by rw [← hL.2]; exact hi) rfl (fun ls2 h2 => ?_)
  exact k p l0 e s m args below meth c A cells slots Q H locs ls2 C hc hA hX hf hP hS (hL.setI (.int (x + v)) hi (fun w _ h => x_nl_ok hp w (Option.some.inj h)) h2)
theorem ev_iload_11 {a0 a1 a2 a3 a4 a5 a6 a7 a8 a9 a10 : Option Value} {x : Int32} {t : xL} (d : decode cc pc = .ok (.iload 11, 2)) (k : Ev E R own cc nL F (pc + 2) (a0 :: a1 :: a2 :: a3 :: a4 :: a5 :: a6 :: a7 :: a8 :: a9 :: a10 :: some (.int x) :: t) (.int x :: st) σ) : Ev E R own cc nL F pc (a0 :: a1 :: a2 :: a3 :: a4 :: a5 :: a6 :: a7 :: a8 :: a9 :: a10 :: some (.int x) :: t) st σ := by
  intro p l0 e s m args below meth c A cells slots Q H locs ls C hc hA hX hf hP hS hL
  exact lv_iload C.1 C.2.1 d (hL.get (i := 11) rfl) (k p l0 e s m args below meth c A cells slots Q H locs ls C hc hA hX hf hP hS hL)
theorem ev_lload_11 {a0 a1 a2 a3 a4 a5 a6 a7 a8 a9 a10 : Option Value} {x : Int64} {t : xL} (d : decode cc pc = .ok (.lload 11, 2)) (k : Ev E R own cc nL F (pc + 2) (a0 :: a1 :: a2 :: a3 :: a4 :: a5 :: a6 :: a7 :: a8 :: a9 :: a10 :: some (.long x) :: t) (.long x :: st) σ) : Ev E R own cc nL F pc (a0 :: a1 :: a2 :: a3 :: a4 :: a5 :: a6 :: a7 :: a8 :: a9 :: a10 :: some (.long x) :: t) st σ := by
  intro p l0 e s m args below meth c A cells slots Q H locs ls C hc hA hX hf hP hS hL
  exact lv_lload C.1 C.2.1 d (hL.get (i := 11) rfl) (k p l0 e s m args below meth c A cells slots Q H locs ls C hc hA hX hf hP hS hL)
theorem ev_aload_11 {a0 a1 a2 a3 a4 a5 a6 a7 a8 a9 a10 : Option Value} {x : Nat} {t : xL} (d : decode cc pc = .ok (.aload 11, 2)) (k : Ev E R own cc nL F (pc + 2) (a0 :: a1 :: a2 :: a3 :: a4 :: a5 :: a6 :: a7 :: a8 :: a9 :: a10 :: some (.ref x) :: t) (.ref x :: st) σ) : Ev E R own cc nL F pc (a0 :: a1 :: a2 :: a3 :: a4 :: a5 :: a6 :: a7 :: a8 :: a9 :: a10 :: some (.ref x) :: t) st σ := by
  intro p l0 e s m args below meth c A cells slots Q H locs ls C hc hA hX hf hP hS hL
  exact lv_aload C.1 C.2.1 d (hL.get (i := 11) rfl) (k p l0 e s m args below meth c A cells slots Q H locs ls C hc hA hX hf hP hS hL)
theorem ev_istore_11 {a0 a1 a2 a3 a4 a5 a6 a7 a8 a9 a10 : Option Value} {b : Option Value} {x : Int32} {t : xL} (d : decode cc pc = .ok (.istore 11, 2)) (hp : x_nl a10 = true) (k : Ev E R own cc nL F (pc + 2) (a0 :: a1 :: a2 :: a3 :: a4 :: a5 :: a6 :: a7 :: a8 :: a9 :: a10 :: some (.int x) :: t) st σ) : Ev E R own cc nL F pc (a0 :: a1 :: a2 :: a3 :: a4 :: a5 :: a6 :: a7 :: a8 :: a9 :: a10 :: b :: t) (.int x :: st) σ := by
  intro p l0 e s m args below meth c A cells slots Q H locs ls C hc hA hX hf hP hS hL
  have hi : 11 < (a0 :: a1 :: a2 :: a3 :: a4 :: a5 :: a6 :: a7 :: a8 :: a9 :: a10 :: b :: t).length := by simp
  refine lv_istore C.1 C.2.1 d hL.1 (by rw [← hL.2]; exact hi) rfl (fun ls2 h2 => ?_)
  exact k p l0 e s m args below meth c A cells slots Q H locs ls2 C hc hA hX hf hP hS (hL.setI (.int x) hi (fun w _ h => x_nl_ok hp w (Option.some.inj h)) h2)
theorem ev_astore_11 {a0 a1 a2 a3 a4 a5 a6 a7 a8 a9 a10 : Option Value} {b : Option Value} {x : Nat} {t : xL} (d : decode cc pc = .ok (.astore 11, 2)) (hp : x_nl a10 = true) (k : Ev E R own cc nL F (pc + 2) (a0 :: a1 :: a2 :: a3 :: a4 :: a5 :: a6 :: a7 :: a8 :: a9 :: a10 :: some (.ref x) :: t) st σ) : Ev E R own cc nL F pc (a0 :: a1 :: a2 :: a3 :: a4 :: a5 :: a6 :: a7 :: a8 :: a9 :: a10 :: b :: t) (.ref x :: st) σ := by
  intro p l0 e s m args below meth c A cells slots Q H locs ls C hc hA hX hf hP hS hL
  have hi : 11 < (a0 :: a1 :: a2 :: a3 :: a4 :: a5 :: a6 :: a7 :: a8 :: a9 :: a10 :: b :: t).length := by simp
  refine lv_astore C.1 C.2.1 d hL.1 (by rw [← hL.2]; exact hi) rfl (fun ls2 h2 => ?_)
  exact k p l0 e s m args below meth c A cells slots Q H locs ls2 C hc hA hX hf hP hS (hL.setI (.ref x) hi (fun w _ h => x_nl_ok hp w (Option.some.inj h)) h2)
theorem ev_lstore_11 {a0 a1 a2 a3 a4 a5 a6 a7 a8 a9 a10 : Option Value} {b b2 : Option Value} {x : Int64} {t : xL} (d : decode cc pc = .ok (.lstore 11, 2)) (hp : x_nl a10 = true) (k : Ev E R own cc nL F (pc + 2) (a0 :: a1 :: a2 :: a3 :: a4 :: a5 :: a6 :: a7 :: a8 :: a9 :: a10 :: some (.long x) :: none :: t) st σ) : Ev E R own cc nL F pc (a0 :: a1 :: a2 :: a3 :: a4 :: a5 :: a6 :: a7 :: a8 :: a9 :: a10 :: b :: b2 :: t) (.long x :: st) σ := by
  intro p l0 e s m args below meth c A cells slots Q H locs ls C hc hA hX hf hP hS hL
  have hi : 11 + 1 < (a0 :: a1 :: a2 :: a3 :: a4 :: a5 :: a6 :: a7 :: a8 :: a9 :: a10 :: b :: b2 :: t).length := by simp
  refine lv_lstore C.1 C.2.1 d hL.1 (by rw [← hL.2]; exact hi) rfl (fun ls2 h2 => ?_)
  exact k p l0 e s m args below meth c A cells slots Q H locs ls2 C hc hA hX hf hP hS (hL.setL (.long x) hi (fun w _ h => x_nl_ok hp w (Option.some.inj h)) h2)
theorem ev_iinc_11 {a0 a1 a2 a3 a4 a5 a6 a7 a8 a9 a10 : Option Value} {x : Int32} {n : Int} {t : xL} (v : Int32) (d : decode cc pc = .ok (.iinc 11 n, 3)) (hv : Int32.ofInt n = v) (hp : x_nl a10 = true) (k : Ev E R own cc nL F (pc + 3) (a0 :: a1 :: a2 :: a3 :: a4 :: a5 :: a6 :: a7 :: a8 :: a9 :: a10 :: some (.int (x + v)) :: t) st σ) : Ev E R own cc nL F pc (a0 :: a1 :: a2 :: a3 :: a4 :: a5 :: a6 :: a7 :: a8 :: a9 :: a10 :: some (.int x) :: t) st σ := by
  intro p l0 e s m args below meth c A cells slots Q H locs ls C hc hA hX hf hP hS hL
  have hi : 11 < (a0 :: a1 :: a2 :: a3 :: a4 :: a5 :: a6 :: a7 :: a8 :: a9 :: a10 :: some (.int x) :: t).length := by simp
  obtain ⟨kk, hkk⟩ := List.getElem?_of_mem ((xll_mem (a0 :: a1 :: a2 :: a3 :: a4 :: a5 :: a6 :: a7 :: a8 :: a9 :: a10 :: some (.int x) :: t) 0 11 (.int x)).mpr ⟨11, by omega, rfl⟩)
  refine lv_iinc (v := x + v) C.1 C.2.1 d hL.1 hkk (by rw [hv]) (by rw [← hL.2]; exact hi) rfl (fun ls2 h2 => ?_)
  exact k p l0 e s m args below meth c A cells slots Q H locs ls2 C hc hA hX hf hP hS (hL.setI (.int (x + v)) hi (fun w _ h => x_nl_ok hp w (Option.some.inj h)) h2)
theorem ev_iload_12 {a0 a1 a2 a3 a4 a5 a6 a7 a8 a9 a10 a11 : Option Value} {x : Int32} {t : xL} (d : decode cc pc = .ok (.iload 12, 2)) (k : Ev E R own cc nL F (pc + 2) (a0 :: a1 :: a2 :: a3 :: a4 :: a5 :: a6 :: a7 :: a8 :: a9 :: a10 :: a11 :: some (.int x) :: t) (.int x :: st) σ) : Ev E R own cc nL F pc (a0 :: a1 :: a2 :: a3 :: a4 :: a5 :: a6 :: a7 :: a8 :: a9 :: a10 :: a11 :: some (.int x) :: t) st σ := by
  intro p l0 e s m args below meth c A cells slots Q H locs ls C hc hA hX hf hP hS hL
  exact lv_iload C.1 C.2.1 d (hL.get (i := 12) rfl) (k p l0 e s m args below meth c A cells slots Q H locs ls C hc hA hX hf hP hS hL)
theorem ev_lload_12 {a0 a1 a2 a3 a4 a5 a6 a7 a8 a9 a10 a11 : Option Value} {x : Int64} {t : xL} (d : decode cc pc = .ok (.lload 12, 2)) (k : Ev E R own cc nL F (pc + 2) (a0 :: a1 :: a2 :: a3 :: a4 :: a5 :: a6 :: a7 :: a8 :: a9 :: a10 :: a11 :: some (.long x) :: t) (.long x :: st) σ) : Ev E R own cc nL F pc (a0 :: a1 :: a2 :: a3 :: a4 :: a5 :: a6 :: a7 :: a8 :: a9 :: a10 :: a11 :: some (.long x) :: t) st σ := by
  intro p l0 e s m args below meth c A cells slots Q H locs ls C hc hA hX hf hP hS hL
  exact lv_lload C.1 C.2.1 d (hL.get (i := 12) rfl) (k p l0 e s m args below meth c A cells slots Q H locs ls C hc hA hX hf hP hS hL)
theorem ev_aload_12 {a0 a1 a2 a3 a4 a5 a6 a7 a8 a9 a10 a11 : Option Value} {x : Nat} {t : xL} (d : decode cc pc = .ok (.aload 12, 2)) (k : Ev E R own cc nL F (pc + 2) (a0 :: a1 :: a2 :: a3 :: a4 :: a5 :: a6 :: a7 :: a8 :: a9 :: a10 :: a11 :: some (.ref x) :: t) (.ref x :: st) σ) : Ev E R own cc nL F pc (a0 :: a1 :: a2 :: a3 :: a4 :: a5 :: a6 :: a7 :: a8 :: a9 :: a10 :: a11 :: some (.ref x) :: t) st σ := by
  intro p l0 e s m args below meth c A cells slots Q H locs ls C hc hA hX hf hP hS hL
  exact lv_aload C.1 C.2.1 d (hL.get (i := 12) rfl) (k p l0 e s m args below meth c A cells slots Q H locs ls C hc hA hX hf hP hS hL)
theorem ev_istore_12 {a0 a1 a2 a3 a4 a5 a6 a7 a8 a9 a10 a11 : Option Value} {b : Option Value} {x : Int32} {t : xL} (d : decode cc pc = .ok (.istore 12, 2)) (hp : x_nl a11 = true) (k : Ev E R own cc nL F (pc + 2) (a0 :: a1 :: a2 :: a3 :: a4 :: a5 :: a6 :: a7 :: a8 :: a9 :: a10 :: a11 :: some (.int x) :: t) st σ) : Ev E R own cc nL F pc (a0 :: a1 :: a2 :: a3 :: a4 :: a5 :: a6 :: a7 :: a8 :: a9 :: a10 :: a11 :: b :: t) (.int x :: st) σ := by
  intro p l0 e s m args below meth c A cells slots Q H locs ls C hc hA hX hf hP hS hL
  have hi : 12 < (a0 :: a1 :: a2 :: a3 :: a4 :: a5 :: a6 :: a7 :: a8 :: a9 :: a10 :: a11 :: b :: t).length := by simp
  refine lv_istore C.1 C.2.1 d hL.1 (by rw [← hL.2]; exact hi) rfl (fun ls2 h2 => ?_)
  exact k p l0 e s m args below meth c A cells slots Q H locs ls2 C hc hA hX hf hP hS (hL.setI (.int x) hi (fun w _ h => x_nl_ok hp w (Option.some.inj h)) h2)
theorem ev_astore_12 {a0 a1 a2 a3 a4 a5 a6 a7 a8 a9 a10 a11 : Option Value} {b : Option Value} {x : Nat} {t : xL} (d : decode cc pc = .ok (.astore 12, 2)) (hp : x_nl a11 = true) (k : Ev E R own cc nL F (pc + 2) (a0 :: a1 :: a2 :: a3 :: a4 :: a5 :: a6 :: a7 :: a8 :: a9 :: a10 :: a11 :: some (.ref x) :: t) st σ) : Ev E R own cc nL F pc (a0 :: a1 :: a2 :: a3 :: a4 :: a5 :: a6 :: a7 :: a8 :: a9 :: a10 :: a11 :: b :: t) (.ref x :: st) σ := by
  intro p l0 e s m args below meth c A cells slots Q H locs ls C hc hA hX hf hP hS hL
  have hi : 12 < (a0 :: a1 :: a2 :: a3 :: a4 :: a5 :: a6 :: a7 :: a8 :: a9 :: a10 :: a11 :: b :: t).length := by simp
  refine lv_astore C.1 C.2.1 d hL.1 (by rw [← hL.2]; exact hi) rfl (fun ls2 h2 => ?_)
  exact k p l0 e s m args below meth c A cells slots Q H locs ls2 C hc hA hX hf hP hS (hL.setI (.ref x) hi (fun w _ h => x_nl_ok hp w (Option.some.inj h)) h2)
theorem ev_lstore_12 {a0 a1 a2 a3 a4 a5 a6 a7 a8 a9 a10 a11 : Option Value} {b b2 : Option Value} {x : Int64} {t : xL} (d : decode cc pc = .ok (.lstore 12, 2)) (hp : x_nl a11 = true) (k : Ev E R own cc nL F (pc + 2) (a0 :: a1 :: a2 :: a3 :: a4 :: a5 :: a6 :: a7 :: a8 :: a9 :: a10 :: a11 :: some (.long x) :: none :: t) st σ) : Ev E R own cc nL F pc (a0 :: a1 :: a2 :: a3 :: a4 :: a5 :: a6 :: a7 :: a8 :: a9 :: a10 :: a11 :: b :: b2 :: t) (.long x :: st) σ := by
  intro p l0 e s m args below meth c A cells slots Q H locs ls C hc hA hX hf hP hS hL
  have hi : 12 + 1 < (a0 :: a1 :: a2 :: a3 :: a4 :: a5 :: a6 :: a7 :: a8 :: a9 :: a10 :: a11 :: b :: b2 :: t).length := by simp
  refine lv_lstore C.1 C.2.1 d hL.1 (by rw [← hL.2]; exact hi) rfl (fun ls2 h2 => ?_)
  exact k p l0 e s m args below meth c A cells slots Q H locs ls2 C hc hA hX hf hP hS (hL.setL (.long x) hi (fun w _ h => x_nl_ok hp w (Option.some.inj h)) h2)
theorem ev_iinc_12 {a0 a1 a2 a3 a4 a5 a6 a7 a8 a9 a10 a11 : Option Value} {x : Int32} {n : Int} {t : xL} (v : Int32) (d : decode cc pc = .ok (.iinc 12 n, 3)) (hv : Int32.ofInt n = v) (hp : x_nl a11 = true) (k : Ev E R own cc nL F (pc + 3) (a0 :: a1 :: a2 :: a3 :: a4 :: a5 :: a6 :: a7 :: a8 :: a9 :: a10 :: a11 :: some (.int (x + v)) :: t) st σ) : Ev E R own cc nL F pc (a0 :: a1 :: a2 :: a3 :: a4 :: a5 :: a6 :: a7 :: a8 :: a9 :: a10 :: a11 :: some (.int x) :: t) st σ := by
  intro p l0 e s m args below meth c A cells slots Q H locs ls C hc hA hX hf hP hS hL
  have hi : 12 < (a0 :: a1 :: a2 :: a3 :: a4 :: a5 :: a6 :: a7 :: a8 :: a9 :: a10 :: a11 :: some (.int x) :: t).length := by simp
  obtain ⟨kk, hkk⟩ := List.getElem?_of_mem ((xll_mem (a0 :: a1 :: a2 :: a3 :: a4 :: a5 :: a6 :: a7 :: a8 :: a9 :: a10 :: a11 :: some (.int x) :: t) 0 12 (.int x)).mpr ⟨12, by omega, rfl⟩)
  refine lv_iinc (v := x + v) C.1 C.2.1 d hL.1 hkk (by rw [hv]) (by rw [← hL.2]; exact hi) rfl (fun ls2 h2 => ?_)
  exact k p l0 e s m args below meth c A cells slots Q H locs ls2 C hc hA hX hf hP hS (hL.setI (.int (x + v)) hi (fun w _ h => x_nl_ok hp w (Option.some.inj h)) h2)
theorem ev_iload_13 {a0 a1 a2 a3 a4 a5 a6 a7 a8 a9 a10 a11 a12 : Option Value} {x : Int32} {t : xL} (d : decode cc pc = .ok (.iload 13, 2)) (k : Ev E R own cc nL F (pc + 2) (a0 :: a1 :: a2 :: a3 :: a4 :: a5 :: a6 :: a7 :: a8 :: a9 :: a10 :: a11 :: a12 :: some (.int x) :: t) (.int x :: st) σ) : Ev E R own cc nL F pc (a0 :: a1 :: a2 :: a3 :: a4 :: a5 :: a6 :: a7 :: a8 :: a9 :: a10 :: a11 :: a12 :: some (.int x) :: t) st σ := by
  intro p l0 e s m args below meth c A cells slots Q H locs ls C hc hA hX hf hP hS hL
  exact lv_iload C.1 C.2.1 d (hL.get (i := 13) rfl) (k p l0 e s m args below meth c A cells slots Q H locs ls C hc hA hX hf hP hS hL)
theorem ev_lload_13 {a0 a1 a2 a3 a4 a5 a6 a7 a8 a9 a10 a11 a12 : Option Value} {x : Int64} {t : xL} (d : decode cc pc = .ok (.lload 13, 2)) (k : Ev E R own cc nL F (pc + 2) (a0 :: a1 :: a2 :: a3 :: a4 :: a5 :: a6 :: a7 :: a8 :: a9 :: a10 :: a11 :: a12 :: some (.long x) :: t) (.long x :: st) σ) : Ev E R own cc nL F pc (a0 :: a1 :: a2 :: a3 :: a4 :: a5 :: a6 :: a7 :: a8 :: a9 :: a10 :: a11 :: a12 :: some (.long x) :: t) st σ := by
  intro p l0 e s m args below meth c A cells slots Q H locs ls C hc hA hX hf hP hS hL
  exact lv_lload C.1 C.2.1 d (hL.get (i := 13) rfl) (k p l0 e s m args below meth c A cells slots Q H locs ls C hc hA hX hf hP hS hL)
theorem ev_aload_13 {a0 a1 a2 a3 a4 a5 a6 a7 a8 a9 a10 a11 a12 : Option Value} {x : Nat} {t : xL} (d : decode cc pc = .ok (.aload 13, 2)) (k : Ev E R own cc nL F (pc + 2) (a0 :: a1 :: a2 :: a3 :: a4 :: a5 :: a6 :: a7 :: a8 :: a9 :: a10 :: a11 :: a12 :: some (.ref x) :: t) (.ref x :: st) σ) : Ev E R own cc nL F pc (a0 :: a1 :: a2 :: a3 :: a4 :: a5 :: a6 :: a7 :: a8 :: a9 :: a10 :: a11 :: a12 :: some (.ref x) :: t) st σ := by
  intro p l0 e s m args below meth c A cells slots Q H locs ls C hc hA hX hf hP hS hL
  exact lv_aload C.1 C.2.1 d (hL.get (i := 13) rfl) (k p l0 e s m args below meth c A cells slots Q H locs ls C hc hA hX hf hP hS hL)
theorem ev_istore_13 {a0 a1 a2 a3 a4 a5 a6 a7 a8 a9 a10 a11 a12 : Option Value} {b : Option Value} {x : Int32} {t : xL} (d : decode cc pc = .ok (.istore 13, 2)) (hp : x_nl a12 = true) (k : Ev E R own cc nL F (pc + 2) (a0 :: a1 :: a2 :: a3 :: a4 :: a5 :: a6 :: a7 :: a8 :: a9 :: a10 :: a11 :: a12 :: some (.int x) :: t) st σ) : Ev E R own cc nL F pc (a0 :: a1 :: a2 :: a3 :: a4 :: a5 :: a6 :: a7 :: a8 :: a9 :: a10 :: a11 :: a12 :: b :: t) (.int x :: st) σ := by
  intro p l0 e s m args below meth c A cells slots Q H locs ls C hc hA hX hf hP hS hL
  have hi : 13 < (a0 :: a1 :: a2 :: a3 :: a4 :: a5 :: a6 :: a7 :: a8 :: a9 :: a10 :: a11 :: a12 :: b :: t).length := by simp
  refine lv_istore C.1 C.2.1 d hL.1 (by rw [← hL.2]; exact hi) rfl (fun ls2 h2 => ?_)
  exact k p l0 e s m args below meth c A cells slots Q H locs ls2 C hc hA hX hf hP hS (hL.setI (.int x) hi (fun w _ h => x_nl_ok hp w (Option.some.inj h)) h2)
theorem ev_astore_13 {a0 a1 a2 a3 a4 a5 a6 a7 a8 a9 a10 a11 a12 : Option Value} {b : Option Value} {x : Nat} {t : xL} (d : decode cc pc = .ok (.astore 13, 2)) (hp : x_nl a12 = true) (k : Ev E R own cc nL F (pc + 2) (a0 :: a1 :: a2 :: a3 :: a4 :: a5 :: a6 :: a7 :: a8 :: a9 :: a10 :: a11 :: a12 :: some (.ref x) :: t) st σ) : Ev E R own cc nL F pc (a0 :: a1 :: a2 :: a3 :: a4 :: a5 :: a6 :: a7 :: a8 :: a9 :: a10 :: a11 :: a12 :: b :: t) (.ref x :: st) σ := by
  intro p l0 e s m args below meth c A cells slots Q H locs ls C hc hA hX hf hP hS hL
  have hi : 13 < (a0 :: a1 :: a2 :: a3 :: a4 :: a5 :: a6 :: a7 :: a8 :: a9 :: a10 :: a11 :: a12 :: b :: t).length := by simp
  refine lv_astore C.1 C.2.1 d hL.1 (by rw [← hL.2]; exact hi) rfl (fun ls2 h2 => ?_)
  exact k p l0 e s m args below meth c A cells slots Q H locs ls2 C hc hA hX hf hP hS (hL.setI (.ref x) hi (fun w _ h => x_nl_ok hp w (Option.some.inj h)) h2)
theorem ev_lstore_13 {a0 a1 a2 a3 a4 a5 a6 a7 a8 a9 a10 a11 a12 : Option Value} {b b2 : Option Value} {x : Int64} {t : xL} (d : decode cc pc = .ok (.lstore 13, 2)) (hp : x_nl a12 = true) (k : Ev E R own cc nL F (pc + 2) (a0 :: a1 :: a2 :: a3 :: a4 :: a5 :: a6 :: a7 :: a8 :: a9 :: a10 :: a11 :: a12 :: some (.long x) :: none :: t) st σ) : Ev E R own cc nL F pc (a0 :: a1 :: a2 :: a3 :: a4 :: a5 :: a6 :: a7 :: a8 :: a9 :: a10 :: a11 :: a12 :: b :: b2 :: t) (.long x :: st) σ := by
  intro p l0 e s m args below meth c A cells slots Q H locs ls C hc hA hX hf hP hS hL
  have hi : 13 + 1 < (a0 :: a1 :: a2 :: a3 :: a4 :: a5 :: a6 :: a7 :: a8 :: a9 :: a10 :: a11 :: a12 :: b :: b2 :: t).length := by simp
  refine lv_lstore C.1 C.2.1 d hL.1 (by rw [← hL.2]; exact hi) rfl (fun ls2 h2 => ?_)
  exact k p l0 e s m args below meth c A cells slots Q H locs ls2 C hc hA hX hf hP hS (hL.setL (.long x) hi (fun w _ h => x_nl_ok hp w (Option.some.inj h)) h2)
theorem ev_iinc_13 {a0 a1 a2 a3 a4 a5 a6 a7 a8 a9 a10 a11 a12 : Option Value} {x : Int32} {n : Int} {t : xL} (v : Int32) (d : decode cc pc = .ok (.iinc 13 n, 3)) (hv : Int32.ofInt n = v) (hp : x_nl a12 = true) (k : Ev E R own cc nL F (pc + 3) (a0 :: a1 :: a2 :: a3 :: a4 :: a5 :: a6 :: a7 :: a8 :: a9 :: a10 :: a11 :: a12 :: some (.int (x + v)) :: t) st σ) : Ev E R own cc nL F pc (a0 :: a1 :: a2 :: a3 :: a4 :: a5 :: a6 :: a7 :: a8 :: a9 :: a10 :: a11 :: a12 :: some (.int x) :: t) st σ := by
  intro p l0 e s m args below meth c A cells slots Q H locs ls C hc hA hX hf hP hS hL
  have hi : 13 < (a0 :: a1 :: a2 :: a3 :: a4 :: a5 :: a6 :: a7 :: a8 :: a9 :: a10 :: a11 :: a12 :: some (.int x) :: t).length := by simp
  obtain ⟨kk, hkk⟩ := List.getElem?_of_mem ((xll_mem (a0 :: a1 :: a2 :: a3 :: a4 :: a5 :: a6 :: a7 :: a8 :: a9 :: a10 :: a11 :: a12 :: some (.int x) :: t) 0 13 (.int x)).mpr ⟨13, by omega, rfl⟩)
  refine lv_iinc (v := x + v) C.1 C.2.1 d hL.1 hkk (by rw [hv]) (by rw [← hL.2]; exact hi) rfl (fun ls2 h2 => ?_)
  exact k p l0 e s m args below meth c A cells slots Q H locs ls2 C hc hA hX hf hP hS (hL.setI (.int (x + v)) hi (fun w _ h => x_nl_ok hp w (Option.some.inj h)) h2)
def FK (own : String) (idx ci k : Nat) (fin : Bool) (ty : FieldType) : Prop := ∃ (C : String) (T : u_T) (N : Nat) (ty0 : Nat → FieldType), vwCl[ci]? = some (C, T, N) ∧ k < N ∧ (∀ w ∈ u_ws C T N, w ∈ xtbl) ∧ (∀ k, k < N → parseFieldDescriptor (T k).2.2.1 = some (ty0 k)) ∧ (∀ a, a < N → ∀ b, b < N → a ≠ b → (T a).2.1 ≠ (T b).2.1) ∧ (T k).2.2.2 = fin ∧ ty0 k = ty ∧
  (Cond.fieldLink own idx (T k).1 (T k).2.1 (T k).2.2.1 ∈ xtbl ∨ ∃ host, Cond.fieldLinkNest own idx (T k).1 (T k).2.1 (T k).2.2.1 host ∈ xnest)
theorem ev_get {i ci k idx : Nat} {fin : Bool} {ty : FieldType} {v : Value} (d : decode cc pc = .ok (.getfield idx, 3)) (fk : FK own idx ci k fin ty) (hi : i < xN ∧ xcls i = ci) (h7 : ci < 7) (hv : (xfs E (σ.1 i) (σ.2 i) ci i)[k]? = some v) (kk : Ev E R own cc nL F (pc + 3) l (v :: st) σ) : Ev E R own cc nL F pc l (.ref (E.1 i) :: st) σ := by
  intro p l0 e s m args below meth c A cells slots Q H locs ls C hc hA hX hf hP hS hL
  obtain ⟨Cn, T, N, ty0, h1, h2, h3, h4, h5, h6, h8, h9⟩ := fk
  rcases h9 with h9 | ⟨host, h9⟩
  · exact va_get C.1 C.2.1 C.2.2.2.2.1 h3 C.2.2.2.1 C.2.2.2.2.2.1 hP i (xw_getO E σ hi h7) h1 k h2 (C.2.2.2.2.1 _ h9) (fun _ h => h) hv d (kk p l0 e s m args below meth c A cells slots Q H locs ls C hc hA hX hf hP hS hL)
  · exact va_getN C.1 C.2.1 C.2.2.2.2.1 h3 C.2.2.2.1 C.2.2.2.2.2.1 hP i (xw_getO E σ hi h7) h1 k h2 ((C.2.2.2.2.2.2 _ h9).use rfl) (fun _ h => h) hv d (kk p l0 e s m args below meth c A cells slots Q H locs ls C hc hA hX hf hP hS hL)
theorem xint_out {c k i : Nat} {f : Nat → Int32} {g : Nat → Int64} (h : (xfs E f g c i).length ≤ k) : ¬ xint c k = true := by
  intro hk
  match c, h, hk with
  | 0, h, hk => simp [xint, xfs] at h hk; omega
  | 1, h, hk => simp [xint, xfs] at h hk; omega
  | 2, h, hk => simp [xint, xfs] at h hk; omega
  | 3, h, hk => simp [xint, xfs] at h hk; omega
  | 4, h, hk => simp [xint, xfs] at h hk; omega
  | 5, h, hk => simp [xint, xfs] at h hk; omega
  | 6, h, hk => simp [xint, xfs] at h hk; omega
  | c + 7, h, hk => simp [xint] at hk
theorem xlng_out {c k i : Nat} {f : Nat → Int32} {g : Nat → Int64} (h : (xfs E f g c i).length ≤ k) : ¬ xlng c k = true := by
  intro hk
  match c, h, hk with
  | 0, h, hk => simp [xlng] at hk
  | 1, h, hk => simp [xlng] at hk
  | 2, h, hk => simp [xlng] at hk
  | 3, h, hk => simp [xlng] at hk
  | 4, h, hk => simp [xlng] at hk
  | 5, h, hk => simp [xlng, xfs] at h hk; omega
  | 6, h, hk => simp [xlng, xfs] at h hk; omega
  | c + 7, h, hk => simp [xlng] at hk
theorem ev_put {i ci k idx : Nat} {v : Int32} (d : decode cc pc = .ok (.putfield idx, 3)) (fk : FK own idx ci k false .int) (hi : i < xN ∧ xcls i = ci) (h7 : ci < 7) (hk : xint ci k = true) (kk : Ev E R own cc nL F (pc + 3) l st (xu σ i k v)) : Ev E R own cc nL F pc l (.int v :: .ref (E.1 i) :: st) σ := by
  intro p l0 e s m args below meth c A cells slots Q H locs ls C hc hA hX hf hP hS hL
  obtain ⟨Cn, T, N, ty0, h1, h2, h3, h4, h5, h6, h8, h9⟩ := fk
  have hd : parseFieldDescriptor (T k).2.2.1 = some .int := by rw [← h8]; exact h4 k h2
  have hl : k < (xfs E (σ.1 i) (σ.2 i) ci i).length := by
    rcases Nat.lt_or_ge k (xfs E (σ.1 i) (σ.2 i) ci i).length with q | q
    · exact q
    · exact absurd hk (xint_out q)
  have kk2 : ∀ (H1 : Heap) (locs1 : List Loc), va_P E.2.1 vwCl ((xw E σ).set i (E.1 i, .inr (ci, (xfs E (σ.1 i) (σ.2 i) ci i).set k (.int v)))) H1 → va_D A ((xw E σ).set i (E.1 i, .inr (ci, (xfs E (σ.1 i) (σ.2 i) ci i).set k (.int v)))) → va_S A s.heap H1 locs1 → W p l0 e R s m args below meth c H1 locs1 cells slots Q (F0 m (pc + 3) ls st) := by
    intro H1 locs1 hP1 _ hS1
    rw [xw_setF E σ v hi h7 hk] at hP1
    exact kk p l0 e s m args below meth c A cells slots Q H1 locs1 ls C hc hA hX hf hP1 hS1 hL
  rcases h9 with h9 | ⟨host, h9⟩
  · exact va_put C.1 C.2.1 C.2.2.2.2.1 h3 ty0 h4 h5 C.2.2.2.1 C.2.2.2.2.2.1 hP (hA.va σ) hS i (xw_getO E σ hi h7) h1 k h2 (C.2.2.2.2.1 _ h9) (fun _ h => h) h6 hd rfl rfl hl d kk2
  · exact va_putN C.1 C.2.1 C.2.2.2.2.1 h3 ty0 h4 h5 C.2.2.2.1 C.2.2.2.2.2.1 hP (hA.va σ) hS i (xw_getO E σ hi h7) h1 k h2 ((C.2.2.2.2.2.2 _ h9).use rfl) (fun _ h => h) h6 hd rfl rfl hl d kk2
theorem ev_putZ {i ci k idx : Nat} {v : Int32} (d : decode cc pc = .ok (.putfield idx, 3)) (fk : FK own idx ci k false .boolean) (hi : i < xN ∧ xcls i = ci) (h7 : ci < 7) (hk : xint ci k = true) (hz : narrow .boolean (.int v) = .int v ∧ fits .boolean (.int v) = true) (kk : Ev E R own cc nL F (pc + 3) l st (xu σ i k v)) : Ev E R own cc nL F pc l (.int v :: .ref (E.1 i) :: st) σ := by
  intro p l0 e s m args below meth c A cells slots Q H locs ls C hc hA hX hf hP hS hL
  obtain ⟨Cn, T, N, ty0, h1, h2, h3, h4, h5, h6, h8, h9⟩ := fk
  have hd : parseFieldDescriptor (T k).2.2.1 = some .boolean := by rw [← h8]; exact h4 k h2
  have hl : k < (xfs E (σ.1 i) (σ.2 i) ci i).length := by
    rcases Nat.lt_or_ge k (xfs E (σ.1 i) (σ.2 i) ci i).length with q | q
    · exact q
    · exact absurd hk (xint_out q)
  have kk2 : ∀ (H1 : Heap) (locs1 : List Loc), va_P E.2.1 vwCl ((xw E σ).set i (E.1 i, .inr (ci, (xfs E (σ.1 i) (σ.2 i) ci i).set k (.int v)))) H1 → va_D A ((xw E σ).set i (E.1 i, .inr (ci, (xfs E (σ.1 i) (σ.2 i) ci i).set k (.int v)))) → va_S A s.heap H1 locs1 → W p l0 e R s m args below meth c H1 locs1 cells slots Q (F0 m (pc + 3) ls st) := by
    intro H1 locs1 hP1 _ hS1
    rw [xw_setF E σ v hi h7 hk] at hP1
    exact kk p l0 e s m args below meth c A cells slots Q H1 locs1 ls C hc hA hX hf hP1 hS1 hL
  rcases h9 with h9 | ⟨host, h9⟩
  · exact va_put C.1 C.2.1 C.2.2.2.2.1 h3 ty0 h4 h5 C.2.2.2.1 C.2.2.2.2.2.1 hP (hA.va σ) hS i (xw_getO E σ hi h7) h1 k h2 (C.2.2.2.2.1 _ h9) (fun _ h => h) h6 hd hz.1 hz.2 hl d kk2
  · exact va_putN C.1 C.2.1 C.2.2.2.2.1 h3 ty0 h4 h5 C.2.2.2.1 C.2.2.2.2.2.1 hP (hA.va σ) hS i (xw_getO E σ hi h7) h1 k h2 ((C.2.2.2.2.2.2 _ h9).use rfl) (fun _ h => h) h6 hd hz.1 hz.2 hl d kk2
theorem ev_putl {i ci k idx : Nat} {v : Int64} (d : decode cc pc = .ok (.putfield idx, 3)) (fk : FK own idx ci k false .long) (hi : i < xN ∧ xcls i = ci) (h7 : ci < 7) (hk : xlng ci k = true) (kk : Ev E R own cc nL F (pc + 3) l st (xul σ i k v)) : Ev E R own cc nL F pc l (.long v :: .ref (E.1 i) :: st) σ := by
  intro p l0 e s m args below meth c A cells slots Q H locs ls C hc hA hX hf hP hS hL
  obtain ⟨Cn, T, N, ty0, h1, h2, h3, h4, h5, h6, h8, h9⟩ := fk
  have hd : parseFieldDescriptor (T k).2.2.1 = some .long := by rw [← h8]; exact h4 k h2
  have hl : k < (xfs E (σ.1 i) (σ.2 i) ci i).length := by
    rcases Nat.lt_or_ge k (xfs E (σ.1 i) (σ.2 i) ci i).length with q | q
    · exact q
    · exact absurd hk (xlng_out q)
  have kk2 : ∀ (H1 : Heap) (locs1 : List Loc), va_P E.2.1 vwCl ((xw E σ).set i (E.1 i, .inr (ci, (xfs E (σ.1 i) (σ.2 i) ci i).set k (.long v)))) H1 → va_D A ((xw E σ).set i (E.1 i, .inr (ci, (xfs E (σ.1 i) (σ.2 i) ci i).set k (.long v)))) → va_S A s.heap H1 locs1 → W p l0 e R s m args below meth c H1 locs1 cells slots Q (F0 m (pc + 3) ls st) := by
    intro H1 locs1 hP1 _ hS1
    rw [xw_setL E σ v hi h7 hk] at hP1
    exact kk p l0 e s m args below meth c A cells slots Q H1 locs1 ls C hc hA hX hf hP1 hS1 hL
  rcases h9 with h9 | ⟨host, h9⟩
  · exact va_put C.1 C.2.1 C.2.2.2.2.1 h3 ty0 h4 h5 C.2.2.2.1 C.2.2.2.2.2.1 hP (hA.va σ) hS i (xw_getO E σ hi h7) h1 k h2 (C.2.2.2.2.1 _ h9) (fun _ h => h) h6 hd rfl rfl hl d kk2
  · exact va_putN C.1 C.2.1 C.2.2.2.2.1 h3 ty0 h4 h5 C.2.2.2.1 C.2.2.2.2.2.1 hP (hA.va σ) hS i (xw_getO E σ hi h7) h1 k h2 ((C.2.2.2.2.2.2 _ h9).use rfl) (fun _ h => h) h6 hd rfl rfl hl d kk2
theorem ev_iaload {i : Nat} {j : Int32} (d : decode cc pc = .ok (.iaload, 1)) (hi : i < xN ∧ xcls i = 7) (hj : vp_in j (xlen i)) (k : Ev E R own cc nL F (pc + 1) l (.int (σ.1 i j.toNatClampNeg) :: st) σ) : Ev E R own cc nL F pc l (.int j :: .ref (E.1 i) :: st) σ := by
  intro p l0 e s m args below meth c A cells slots Q H locs ls C hc hA hX hf hP hS hL
  exact va_iald C.1 C.2.1 C.2.2.2.2.2.1 hP i 0 (xw_getI E σ hi) rfl hj d (k p l0 e s m args below meth c A cells slots Q H locs ls C hc hA hX hf hP hS hL)
theorem ev_baload {i : Nat} {j : Int32} (d : decode cc pc = .ok (.baload, 1)) (hi : i < xN ∧ xcls i = 8) (hj : vp_in j (xlen i)) (k : Ev E R own cc nL F (pc + 1) l (.int (σ.1 i j.toNatClampNeg) :: st) σ) : Ev E R own cc nL F pc l (.int j :: .ref (E.1 i) :: st) σ := by
  intro p l0 e s m args below meth c A cells slots Q H locs ls C hc hA hX hf hP hS hL
  exact va_zald C.1 C.2.1 C.2.2.2.2.2.1 hP i 1 (xw_getZ E σ hi) rfl hj d (k p l0 e s m args below meth c A cells slots Q H locs ls C hc hA hX hf hP hS hL)
theorem ev_iastore {i : Nat} {j v : Int32} (d : decode cc pc = .ok (.iastore, 1)) (hi : i < xN ∧ xcls i = 7) (hj : vp_in j (xlen i)) (k : Ev E R own cc nL F (pc + 1) l st (xu σ i j.toNatClampNeg v)) : Ev E R own cc nL F pc l (.int v :: .int j :: .ref (E.1 i) :: st) σ := by
  intro p l0 e s m args below meth c A cells slots Q H locs ls C hc hA hX hf hP hS hL
  refine va_iast C.1 C.2.1 C.2.2.2.2.2.1 hP (hA.va σ) hS i 0 (xw_getI E σ hi) rfl hj d (fun H1 locs1 hP1 _ hS1 => ?_)
  rw [xw_setI E σ v hi] at hP1
  exact k p l0 e s m args below meth c A cells slots Q H1 locs1 ls C hc hA hX hf hP1 hS1 hL
theorem ev_bastore {i : Nat} {j v : Int32} (d : decode cc pc = .ok (.bastore, 1)) (hi : i < xN ∧ xcls i = 8) (hj : vp_in j (xlen i)) (hz : vp_nar .boolean v = v) (k : Ev E R own cc nL F (pc + 1) l st (xu σ i j.toNatClampNeg v)) : Ev E R own cc nL F pc l (.int v :: .int j :: .ref (E.1 i) :: st) σ := by
  intro p l0 e s m args below meth c A cells slots Q H locs ls C hc hA hX hf hP hS hL
  refine va_zast C.1 C.2.1 C.2.2.2.2.2.1 hP (hA.va σ) hS i 1 (xw_getZ E σ hi) rfl hj d (fun H1 locs1 hP1 _ hS1 => ?_)
  rw [hz, xw_setZ E σ v hi] at hP1
  exact k p l0 e s m args below meth c A cells slots Q H1 locs1 ls C hc hA hX hf hP1 hS1 hL
theorem ev_arraylength {i : Nat} (d : decode cc pc = .ok (.arraylength, 1)) (hi : i < xN ∧ xcls i = 7) (k : Ev E R own cc nL F (pc + 1) l (.int (Int32.ofNat (xlen i)) :: st) σ) : Ev E R own cc nL F pc l (.ref (E.1 i) :: st) σ := by
  intro p l0 e s m args below meth c A cells slots Q H locs ls C hc hA hX hf hP hS hL
  exact va_alen C.1 C.2.1 C.2.2.2.2.2.1 hP i 0 (xw_getI E σ hi) (ty := .int) rfl rfl d (k p l0 e s m args below meth c A cells slots Q H locs ls C hc hA hX hf hP hS hL)
theorem ev_mmax {idx : Nat} {x y : Int32} (d : decode cc pc = .ok (.invokestatic idx, 3)) (w : Cond.methodLink own idx Lib.Math.max.name ∈ xtbl ∧ Cond.static Lib.Math.max.name ∈ xtbl ∧ Cond.initialized "java/lang/Math" ∈ xtbl ∧ Cond.code Lib.Math.max.name Lib.Math.max.code 2 (some .int) ∈ xtbl) (hR : 1 ≤ R.frames ∧ 21 ≤ R.locals) (hst : (st.map fun v => v.category).sum ≤ 8) (k : Ev E R own cc nL F (pc + 3) l (.int (if x < y then y else x) :: st) σ) : Ev E R own cc nL F pc l (.int y :: .int x :: st) σ := by
  intro p l0 e s m args below meth c A cells slots Q H locs ls C hc hA hX hf hP hS hL
  exact va_mmax C.1 C.2.1 (C.2.2.1.trans hL.1.1.symm) C.2.2.2.1 (C.2.2.2.2.1 _ w.1) (C.2.2.2.2.1 _ w.2.1) (C.2.2.2.2.1 _ w.2.2.1) (C.2.2.2.2.1 _ w.2.2.2) hR.1 (by omega) hc.1 hc.2 d (k p l0 e s m args below meth c A cells slots Q H locs ls C hc hA hX hf hP hS hL)
theorem ev_mmin {idx : Nat} {x y : Int32} (d : decode cc pc = .ok (.invokestatic idx, 3)) (w : Cond.methodLink own idx Lib.Math.min.name ∈ xtbl ∧ Cond.static Lib.Math.min.name ∈ xtbl ∧ Cond.initialized "java/lang/Math" ∈ xtbl ∧ Cond.code Lib.Math.min.name Lib.Math.min.code 2 (some .int) ∈ xtbl) (hR : 1 ≤ R.frames ∧ 21 ≤ R.locals) (hst : (st.map fun v => v.category).sum ≤ 8) (k : Ev E R own cc nL F (pc + 3) l (.int (if y < x then y else x) :: st) σ) : Ev E R own cc nL F pc l (.int y :: .int x :: st) σ := by
  intro p l0 e s m args below meth c A cells slots Q H locs ls C hc hA hX hf hP hS hL
  exact va_mmin C.1 C.2.1 (C.2.2.1.trans hL.1.1.symm) C.2.2.2.1 (C.2.2.2.2.1 _ w.1) (C.2.2.2.2.1 _ w.2.1) (C.2.2.2.2.1 _ w.2.2.1) (C.2.2.2.2.1 _ w.2.2.2) hR.1 (by omega) hc.1 hc.2 d (k p l0 e s m args below meth c A cells slots Q H locs ls C hc hA hX hf hP hS hL)
theorem ev_mabs {idx : Nat} {x : Int32} (d : decode cc pc = .ok (.invokestatic idx, 3)) (w : Cond.methodLink own idx Lib.Math.abs.name ∈ xtbl ∧ Cond.static Lib.Math.abs.name ∈ xtbl ∧ Cond.initialized "java/lang/Math" ∈ xtbl ∧ Cond.code Lib.Math.abs.name Lib.Math.abs.code 1 (some .int) ∈ xtbl) (hR : 1 ≤ R.frames ∧ 21 ≤ R.locals) (hst : (st.map fun v => v.category).sum ≤ 8) (k : Ev E R own cc nL F (pc + 3) l (.int (if 0 ≤ x then x else 0 - x) :: st) σ) : Ev E R own cc nL F pc l (.int x :: st) σ := by
  intro p l0 e s m args below meth c A cells slots Q H locs ls C hc hA hX hf hP hS hL
  exact va_mabs C.1 C.2.1 (C.2.2.1.trans hL.1.1.symm) C.2.2.2.1 (C.2.2.2.2.1 _ w.1) (C.2.2.2.2.1 _ w.2.1) (C.2.2.2.2.1 _ w.2.2.1) (C.2.2.2.2.1 _ w.2.2.2) hR.1 (by omega) hc.1 hc.2 d (k p l0 e s m args below meth c A cells slots Q H locs ls C hc hA hX hf hP hS hL)
theorem ev_copy {idx i0 i1 : Nat} {sp dp n : Int32} (d : decode cc pc = .ok (.invokestatic idx, 3)) (w : Cond.methodLink own idx arraycopyName ∈ xtbl ∧ Cond.native arraycopyName ∈ xtbl ∧ Cond.static arraycopyName ∈ xtbl ∧ Cond.initialized "java/lang/System" ∈ xtbl) (hR : 1 ≤ R.frames ∧ 100 ≤ R.locals) (hst : (st.map fun v => v.category).sum ≤ 8) (hi0 : i0 < xN ∧ xcls i0 = 7) (hi1 : i1 < xN ∧ xcls i1 = 7)
    (h1 : ¬ sp < 0) (h2 : ¬ dp < 0) (h3 : ¬ n < 0) (h4 : sp.toNatClampNeg + n.toNatClampNeg ≤ xlen i0) (h5 : dp.toNatClampNeg + n.toNatClampNeg ≤ xlen i1) (k : Ev E R own cc nL F (pc + 3) l st (xrow σ i1 (va_cpy (σ.1 i0) (σ.1 i1) sp.toNatClampNeg dp.toNatClampNeg n.toNatClampNeg))) : Ev E R own cc nL F pc l (.int n :: .int dp :: .ref (E.1 i1) :: .int sp :: .ref (E.1 i0) :: st) σ := by
  intro p l0 e s m args below meth c A cells slots Q H locs ls C hc hA hX hf hP hS hL
  refine va_copyi C.1 C.2.1 (C.2.2.1.trans hL.1.1.symm) C.2.2.2.1 (C.2.2.2.2.1 _ w.1) (C.2.2.2.2.1 _ w.2.1) (C.2.2.2.2.1 _ w.2.2.1) (C.2.2.2.2.1 _ w.2.2.2) C.2.2.2.2.2.1 hP (hA.va σ) hS i0 i1 0 0 (xw_getI E σ hi0) (xw_getI E σ hi1) (ty := .int) rfl rfl rfl h1 h2 h3 h4 h5 (fun _ _ => rfl) hR.1 ?_ d (fun H1 locs1 hP1 _ hS1 => ?_)
  · have hw : nativeFrameWords "java/lang/System" "arraycopy" 5 ≤ 80 := by decide +kernel
    omega
  · rw [xw_setRow E σ _ hi1] at hP1
    exact k p l0 e s m args below meth c A cells slots Q H1 locs1 ls C hc hA hX hf hP1 hS1 hL
theorem x_call {p : Program} {l0 : Launch} {e : Env} {s : State} {m : MethodId} {args : Array Value} {below : List Frame} {meth : Method} {c : Code} {A : Nat → Prop} {cells slots : Nat} {Q : State → Prop} {H : Heap} {locs : List Loc} {ls : Array Slot} {st0 rest : List Value} {a : Array Value} {r : Option Value} {σ' : xS}
    (hr : va_Run p l0 e R s m args below meth c H locs cells slots 0 0 (F0 m pc ls st0) rest (xPost E r σ' a) (xA E)) (hS : va_S A s.heap H locs) (hA : xD E A)
    (kk : ∀ (H1 : Heap) (locs1 : List Loc), va_P E.2.1 vwCl (xw E σ') H1 → va_S A s.heap H1 locs1 → W p l0 e R s m args below meth c H1 locs1 cells slots Q (F0 m (pc + 3) ls (r.toList ++ rest))) : W p l0 e R s m args below meth c H locs cells slots Q (F0 m pc ls st0) := by
  intro T hT X
  have hAA : ∀ q, xA E q → A q := fun q h => by obtain ⟨i, h1, h2⟩ := h; rw [h2]; exact hA.2 i h1
  obtain ⟨v, st₀, t, T', L, h0, X', hL, e1, e2, ⟨⟨hv, hb⟩, hz, hk⟩, hst⟩ := hr T hT X
  cases hv
  rw [h0] at hz hk
  obtain ⟨t2, a1, b1⟩ := kk T'.heap (locs ++ L) (by rw [e1]; exact hb)
    ⟨Nat.le_trans hS.1 (by rw [e1]; exact hz), fun q h1 h2 => by rw [e1, hk q (Nat.lt_of_lt_of_le h1 hS.1) (fun z => h2 (hAA q z))]; exact hS.2.1 q h1 h2, fun q hq => by
      rcases List.mem_append.mp hq with h | h
      · exact hS.2.2 q h
      · exact hAA _ (hL q h)⟩ T' rfl X'
  exact ⟨t2, hst t2 a1, b1⟩
theorem x_pre {s : State} {A : Nat → Prop} {H : Heap} {locs : List Loc} {as : List Value} (hP : va_P E.2.1 vwCl (xw E σ) H) (hS : va_S A s.heap H locs) (hA : xD E A) (hX : xX E A s s.heap) (hK : va_K E.2.1 vwCl (xtys E) s) (hN : xNst s) : ∀ U : State, U.heap = H → s.WarmedH U.vm → va_Pc as (xPre E σ) as.toArray U := by
  intro U hU hW
  refine ⟨rfl, by rw [hU]; exact hP, va_K.moved hW.alike hK, ⟨hA.1, fun i hi => ⟨i, hi, rfl⟩⟩, hN.warm hW, ?_⟩
  rw [hU]
  exact ((hX.kept (fun a h1 h2 => hS.2.1 a h1 h2)).narrow (fun q h => by obtain ⟨i, h1, h2⟩ := h; rw [h2]; exact hA.2 i h1)).warm hW
def ML (own : String) (idx : Nat) (y : MethodName) : Prop := Cond.methodLink own idx y ∈ xtbl ∨ ∃ host, Cond.methodLinkNest own idx y host ∈ xnest
def MK (y : MethodName) (bytes : ByteArray) (maxL : Nat) (ret : Option FieldType) (n : Nat) : Prop := Cond.initialized y.cls ∈ xtbl ∧ Cond.code y bytes maxL ret ∈ xtbl ∧ (y.cls ≠ "java/lang/invoke/MethodHandle" ∧ y.cls ≠ "java/lang/invoke/VarHandle" ∧ (parseMethodDescriptor y.desc).map (fun d => d.parameters.length) = some n) ∧ maxL ≤ 180
def MV (y : MethodName) (bytes : ByteArray) (maxL : Nat) (ret : Option FieldType) (n : Nat) : Prop := MK y bytes maxL ret n ∧ Cond.instanceMethod y ∈ xtbl ∧ Cond.selects y.cls y y ∈ xtbl
def MS (y : MethodName) (bytes : ByteArray) (maxL : Nat) (ret : Option FieldType) (n : Nat) : Prop := MK y bytes maxL ret n ∧ Cond.static y ∈ xtbl
theorem ev_invV {idx i ci d' n maxL : Nat} {y : MethodName} {bytes : ByteArray} {ret : Option FieldType} {as st0 : List Value} {r : Option Value} {σ' : xS} (d : decode cc pc = .ok (.invokevirtual idx, 3)) (ml : ML own idx y) (mv : MV y bytes maxL ret n) (ct : Ct E d' y bytes maxL ret (.ref (E.1 i) :: as) σ r σ') (hi : i < xN ∧ xcls i = ci) (h7 : ci < 7) (hcl : (vwCl[ci]?).map (fun q => q.1) = some y.cls) (hn : as.length = n) (hst : st0 = as.reverse ++ .ref (E.1 i) :: st) (hR : d' + 1 ≤ R.frames ∧ 200 * (d' + 1) ≤ R.locals) (hw : (st.map fun v => v.category).sum ≤ 8)
    (k : Ev E R own cc nL F (pc + 3) l (r.toList ++ st) σ') : Ev E R own cc nL F pc l st0 σ := by
  intro p l0 e s m args below meth c A cells slots Q H locs ls C hc hA hX hf hP hS hL
  obtain ⟨⟨hini, hcode, hy, hmx⟩, hinst, hsel⟩ := mv
  have hts := C.2.2.2.2.1
  have hfr : (rm d').frames + 1 ≤ R.frames ∧ 8 + (maxL + 11) + (rm d').locals ≤ R.locals := ⟨hR.1, by show 8 + (maxL + 11) + 200 * d' ≤ R.locals; omega⟩
  obtain ⟨q, hq, hq1⟩ : ∃ q, vwCl[ci]? = some q ∧ q.1 = y.cls := by
    cases hh : vwCl[ci]? with
    | none => rw [hh] at hcl; cases hcl
    | some q => rw [hh] at hcl; exact ⟨q, rfl, Option.some.inj hcl⟩
  have hrec := va_recv C.2.2.2.2.2.1 hP (ci := ci) (q0 := i) hq (xw_getO E σ hi h7)
  rw [hq1] at hrec
  refine x_call (r := r) (σ' := σ') (rest := st) (a := (Value.ref (E.1 i) :: as).toArray) ?_ hS hA (fun H1 locs1 hP1 hS1 => k p l0 e s m args below meth c A cells slots Q H1 locs1 ls C hc hA hX hf hP1 hS1 hL)
  rcases ml with ml | ⟨host, ml⟩
  · exact va_runV (As := as) (rest := st) ⟨C.1, C.2.1, C.2.2.1, C.2.2.2.1, hts⟩ (ct l0) ⟨callB_of n hts (x_goodIn' hcode) rfl rfl rfl (hts _ hini) (hts _ ml) hy hfr, hts _ hinst, hts _ hsel⟩ ⟨xPc_blind, hrec, x_pre hP hS hA hX C.2.2.2.2.2.1 C.2.2.2.2.2.2⟩ rfl hn hL.1.1 hst (lv_room hw) d ⟨hc.1, hc.2⟩
  · exact va_runVN (As := as) (rest := st) ⟨C.1, C.2.1, C.2.2.1, C.2.2.2.1, hts⟩ (ct l0) ⟨va_cnB n hts (x_goodIn' hcode) rfl rfl rfl (C.2.2.2.2.2.2 _ ml) (hts _ hini) hy hfr, hts _ hinst, hts _ hsel⟩ ⟨xPc_blind, hrec, x_pre hP hS hA hX C.2.2.2.2.2.1 C.2.2.2.2.2.2⟩ rfl hn hL.1.1 hst (lv_room hw) d ⟨hc.1, hc.2⟩
theorem ev_invS {idx d' n maxL : Nat} {y : MethodName} {bytes : ByteArray} {ret : Option FieldType} {as st0 : List Value} {r : Option Value} {σ' : xS} (d : decode cc pc = .ok (.invokestatic idx, 3)) (ml : ML own idx y) (mv : MS y bytes maxL ret n) (ct : Ct E d' y bytes maxL ret as σ r σ') (hn : as.length = n) (hst : st0 = as.reverse ++ st) (hR : d' + 1 ≤ R.frames ∧ 200 * (d' + 1) ≤ R.locals) (hw : (st.map fun v => v.category).sum ≤ 8)
    (k : Ev E R own cc nL F (pc + 3) l (r.toList ++ st) σ') : Ev E R own cc nL F pc l st0 σ := by
  intro p l0 e s m args below meth c A cells slots Q H locs ls C hc hA hX hf hP hS hL
  obtain ⟨⟨hini, hcode, hy, hmx⟩, hstat⟩ := mv
  have hts := C.2.2.2.2.1
  have hfr : (rm d').frames + 1 ≤ R.frames ∧ 8 + (maxL + 11) + (rm d').locals ≤ R.locals := ⟨hR.1, by show 8 + (maxL + 11) + 200 * d' ≤ R.locals; omega⟩
  refine x_call (r := r) (σ' := σ') (rest := st) (a := as.toArray) ?_ hS hA (fun H1 locs1 hP1 hS1 => k p l0 e s m args below meth c A cells slots Q H1 locs1 ls C hc hA hX hf hP1 hS1 hL)
  rcases ml with ml | ⟨host, ml⟩
  · exact va_runS (As := as) (rest := st) ⟨C.1, C.2.1, C.2.2.1, C.2.2.2.1, hts⟩ (ct l0) ⟨callB_of n hts (x_goodIn' hcode) rfl rfl rfl (hts _ hini) (hts _ ml) hy hfr, hts _ hstat⟩ ⟨xPc_blind, x_pre hP hS hA hX C.2.2.2.2.2.1 C.2.2.2.2.2.2⟩ rfl hn hL.1.1 hst (lv_room hw) d ⟨hc.1, hc.2⟩
  · exact va_runSN (As := as) (rest := st) ⟨C.1, C.2.1, C.2.2.1, C.2.2.2.1, hts⟩ (ct l0) ⟨va_cnB n hts (x_goodIn' hcode) rfl rfl rfl (C.2.2.2.2.2.2 _ ml) (hts _ hini) hy hfr, hts _ hstat, trivial⟩ ⟨xPc_blind, x_pre hP hS hA hX C.2.2.2.2.2.1 C.2.2.2.2.2.2⟩ rfl hn hL.1.1 hst (lv_room hw) d ⟨hc.1, hc.2⟩
end
