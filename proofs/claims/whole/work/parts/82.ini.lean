/-! ===== THE CONSTRUCTORS: rows ===== -/
def iPre (E : xE) (ws : va_W) (sz : Nat) (U : State) : Prop := U.heap.size = sz ∧ va_P E.2.1 vwCl ws U.heap ∧ va_K E.2.1 vwCl (xtys E) U ∧ va_D (fun _ => True) ws ∧ xNst U
def iPost (E : xE) (Fin : va_W → Prop) (ws : va_W) (sz : Nat) : Array Value → State → Outcome → State → Prop := va_Qv Fin (fun ws' t => va_P E.2.1 vwCl ws' t.heap ∧ va_D (va_A ws sz) ws') (va_A ws sz)
/-- the contract of a constructor (or of a method on one new cell) -/
def Mi (E : xE) (d : Nat) (y : MethodName) (cc : ByteArray) (nL : Nat) (as : Nat → List Value) (e0 : va_E) (mc ms : Nat) (Fin : Nat → va_W → Prop) : Prop :=
  ∀ (l : Launch) (h0 sz : Nat), Met l y (Cond.code y cc nL none :: xtbl) { frames := d, cells := mc, slots := ms, locals := 200 * d } (va_Pc (as h0) (iPre E [(h0, e0)] sz)) (iPost E (Fin h0) [(h0, e0)] sz) mc ms (va_A [(h0, e0)] sz)
def Iv (E : xE) (R : Room) (own : String) (cc : ByteArray) (nL : Nat) (Fin : va_W → Prop) (mc ms : Nat) (pc : Nat) (l : xL) (st : List Value) (ws : va_W) (cells slots : Nat) : Prop :=
  ∀ (p : Program) (l0 : Launch) (e : Env) (s : State) (m : MethodId) (args : Array Value) (below : List Frame) (meth : Method) (c : Code) (A : Nat → Prop) (Q : State → Prop) (H : Heap) (locs : List Loc) (ls : Array Slot),
    xC E own cc nL p s m args c → meth.name = "<init>" → (∀ q, s.heap.size ≤ q → A q) →
    (∀ (ws' : va_W) (H' : Heap) (locs' : List Loc) (cells' slots' : Nat) (ls' : Array Slot) (pc' : Nat), Fin ws' → decode cc pc' = .ok (.return_, 1) → cells' ≤ mc → slots' ≤ ms → va_P E.2.1 vwCl ws' H' → va_D A ws' → va_S A s.heap H' locs' → W p l0 e R s m args below meth c H' locs' cells' slots' Q (F0 m pc' ls' [])) →
    va_P E.2.1 vwCl ws H → va_D A ws → va_S A s.heap H locs → xR ls nL l → W p l0 e R s m args below meth c H locs cells slots Q (F0 m pc ls st)
section
variable {E : xE} {R : Room} {own : String} {cc : ByteArray} {nL : Nat} {F : va_W → Prop} {mc ms pc : Nat} {l : xL} {st : List Value} {ws r : va_W} {cells slots : Nat}
theorem iv_aload_0 {x : Nat} {t : xL} (d : decode cc pc = .ok (.aload_n 0, 1)) (k : Iv E R own cc nL F mc ms (pc + 1) (some (.ref x) :: t) (.ref x :: st) ws cells slots) : Iv E R own cc nL F mc ms pc (some (.ref x) :: t) st ws cells slots := by
  intro p l0 e s m args below meth c A Q H locs ls C hin hA hf hP hD hS hL
  exact lv_aload_n C.1 C.2.1 d rfl (hL.get (i := 0) rfl) (k p l0 e s m args below meth c A Q H locs ls C hin hA hf hP hD hS hL)
theorem iv_iload_1 {a0 : Option Value} {x : Int32} {t : xL} (d : decode cc pc = .ok (.iload_n 1, 1)) (k : Iv E R own cc nL F mc ms (pc + 1) (a0 :: some (.int x) :: t) (.int x :: st) ws cells slots) : Iv E R own cc nL F mc ms pc (a0 :: some (.int x) :: t) st ws cells slots := by
  intro p l0 e s m args below meth c A Q H locs ls C hin hA hf hP hD hS hL
  exact lv_iload_n C.1 C.2.1 d rfl (hL.get (i := 1) rfl) (k p l0 e s m args below meth c A Q H locs ls C hin hA hf hP hD hS hL)
theorem iv_bipush {n : Int} (v : Int32) (d : decode cc pc = .ok (.bipush n, 2)) (hv : (Int8.ofInt n).toInt32 = v) (k : Iv E R own cc nL F mc ms (pc + 2) l (.int v :: st) ws cells slots) : Iv E R own cc nL F mc ms pc l st ws cells slots := by
  intro p l0 e s m args below meth c A Q H locs ls C hin hA hf hP hD hS hL
  exact lv_bipush C.1 C.2.1 d hv (k p l0 e s m args below meth c A Q H locs ls C hin hA hf hP hD hS hL)
theorem iv_sipush {n : Int} (v : Int32) (d : decode cc pc = .ok (.sipush n, 3)) (hv : (Int16.ofInt n).toInt32 = v) (k : Iv E R own cc nL F mc ms (pc + 3) l (.int v :: st) ws cells slots) : Iv E R own cc nL F mc ms pc l st ws cells slots := by
  intro p l0 e s m args below meth c A Q H locs ls C hin hA hf hP hD hS hL
  exact lv_sipush C.1 C.2.1 d hv (k p l0 e s m args below meth c A Q H locs ls C hin hA hf hP hD hS hL)
theorem iv_iconst_m1 (d : decode cc pc = .ok (.iconst (-1), 1)) (k : Iv E R own cc nL F mc ms (pc + 1) l (.int (-1) :: st) ws cells slots) : Iv E R own cc nL F mc ms pc l st ws cells slots := by
  intro p l0 e s m args below meth c A Q H locs ls C hin hA hf hP hD hS hL
  exact lv_iconst (v := -1) C.1 C.2.1 d rfl (k p l0 e s m args below meth c A Q H locs ls C hin hA hf hP hD hS hL)
theorem iv_iconst_0 (d : decode cc pc = .ok (.iconst (0), 1)) (k : Iv E R own cc nL F mc ms (pc + 1) l (.int (0) :: st) ws cells slots) : Iv E R own cc nL F mc ms pc l st ws cells slots := by
  intro p l0 e s m args below meth c A Q H locs ls C hin hA hf hP hD hS hL
  exact lv_iconst (v := 0) C.1 C.2.1 d rfl (k p l0 e s m args below meth c A Q H locs ls C hin hA hf hP hD hS hL)
theorem iv_iconst_1 (d : decode cc pc = .ok (.iconst (1), 1)) (k : Iv E R own cc nL F mc ms (pc + 1) l (.int (1) :: st) ws cells slots) : Iv E R own cc nL F mc ms pc l st ws cells slots := by
  intro p l0 e s m args below meth c A Q H locs ls C hin hA hf hP hD hS hL
  exact lv_iconst (v := 1) C.1 C.2.1 d rfl (k p l0 e s m args below meth c A Q H locs ls C hin hA hf hP hD hS hL)
theorem iv_iconst_2 (d : decode cc pc = .ok (.iconst (2), 1)) (k : Iv E R own cc nL F mc ms (pc + 1) l (.int (2) :: st) ws cells slots) : Iv E R own cc nL F mc ms pc l st ws cells slots := by
  intro p l0 e s m args below meth c A Q H locs ls C hin hA hf hP hD hS hL
  exact lv_iconst (v := 2) C.1 C.2.1 d rfl (k p l0 e s m args below meth c A Q H locs ls C hin hA hf hP hD hS hL)
theorem iv_iconst_3 (d : decode cc pc = .ok (.iconst (3), 1)) (k : Iv E R own cc nL F mc ms (pc + 1) l (.int (3) :: st) ws cells slots) : Iv E R own cc nL F mc ms pc l st ws cells slots := by
  intro p l0 e s m args below meth c A Q H locs ls C hin hA hf hP hD hS hL
  exact lv_iconst (v := 3) C.1 C.2.1 d rfl (k p l0 e s m args below meth c A Q H locs ls C hin hA hf hP hD hS hL)
theorem iv_iconst_4 (d : decode cc pc = .ok (.iconst (4), 1)) (k : Iv E R own cc nL F mc ms (pc + 1) l (.int (4) :: st) ws cells slots) : Iv E R own cc nL F mc ms pc l st ws cells slots := by
  intro p l0 e s m args below meth c A Q H locs ls C hin hA hf hP hD hS hL
  exact lv_iconst (v := 4) C.1 C.2.1 d rfl (k p l0 e s m args below meth c A Q H locs ls C hin hA hf hP hD hS hL)
theorem iv_iconst_5 (d : decode cc pc = .ok (.iconst (5), 1)) (k : Iv E R own cc nL F mc ms (pc + 1) l (.int (5) :: st) ws cells slots) : Iv E R own cc nL F mc ms pc l st ws cells slots := by
  intro p l0 e s m args below meth c A Q H locs ls C hin hA hf hP hD hS hL
  exact lv_iconst (v := 5) C.1 C.2.1 d rfl (k p l0 e s m args below meth c A Q H locs ls C hin hA hf hP hD hS hL)
theorem iv_lconst_0 (d : decode cc pc = .ok (.lconst 0, 1)) (k : Iv E R own cc nL F mc ms (pc + 1) l (.long 0 :: st) ws cells slots) : Iv E R own cc nL F mc ms pc l st ws cells slots := by
  intro p l0 e s m args below meth c A Q H locs ls C hin hA hf hP hD hS hL
  exact lv_lconst (v := 0) C.1 C.2.1 d rfl (k p l0 e s m args below meth c A Q H locs ls C hin hA hf hP hD hS hL)
theorem iv_lconst_1 (d : decode cc pc = .ok (.lconst 1, 1)) (k : Iv E R own cc nL F mc ms (pc + 1) l (.long 1 :: st) ws cells slots) : Iv E R own cc nL F mc ms pc l st ws cells slots := by
  intro p l0 e s m args below meth c A Q H locs ls C hin hA hf hP hD hS hL
  exact lv_lconst (v := 1) C.1 C.2.1 d rfl (k p l0 e s m args below meth c A Q H locs ls C hin hA hf hP hD hS hL)
theorem iv_imul {x y : Int32} (d : decode cc pc = .ok (.imul, 1)) (k : Iv E R own cc nL F mc ms (pc + 1) l (.int (x * y) :: st) ws cells slots) : Iv E R own cc nL F mc ms pc l (.int y :: .int x :: st) ws cells slots := by
  intro p l0 e s m args below meth c A Q H locs ls C hin hA hf hP hD hS hL
  exact lv_imul C.1 C.2.1 d (k p l0 e s m args below meth c A Q H locs ls C hin hA hf hP hD hS hL)
theorem iv_dup {va : Value} (d : decode cc pc = .ok (.dup, 1)) (h : va.category = 1) (k : Iv E R own cc nL F mc ms (pc + 1) l (va :: va :: st) ws cells slots) : Iv E R own cc nL F mc ms pc l (va :: st) ws cells slots := by
  intro p l0 e s m args below meth c A Q H locs ls C hin hA hf hP hD hS hL
  exact lv_dup C.1 C.2.1 d h (k p l0 e s m args below meth c A Q H locs ls C hin hA hf hP hD hS hL)
theorem iv_mmax {idx : Nat} {x y z : Int32} (d : decode cc pc = .ok (.invokestatic idx, 3)) (w : Cond.methodLink own idx Lib.Math.max.name ∈ xtbl ∧ Cond.static Lib.Math.max.name ∈ xtbl ∧ Cond.initialized "java/lang/Math" ∈ xtbl ∧ Cond.code Lib.Math.max.name Lib.Math.max.code 2 (some .int) ∈ xtbl) (hR : 1 ≤ R.frames ∧ 21 ≤ R.locals) (hst : (st.map fun v => v.category).sum ≤ 8) (hc : cells ≤ R.cells ∧ slots ≤ R.slots) (hz : (if x < y then y else x) = z) (k : Iv E R own cc nL F mc ms (pc + 3) l (.int z :: st) ws cells slots) : Iv E R own cc nL F mc ms pc l (.int y :: .int x :: st) ws cells slots := by
  intro p l0 e s m args below meth c A Q H locs ls C hin hA hf hP hD hS hL
  subst hz
  exact va_mmax C.1 C.2.1 (C.2.2.1.trans hL.1.1.symm) C.2.2.2.1 (C.2.2.2.2.1 _ w.1) (C.2.2.2.2.1 _ w.2.1) (C.2.2.2.2.1 _ w.2.2.1) (C.2.2.2.2.1 _ w.2.2.2) hR.1 (by omega) hc.1 hc.2 d (k p l0 e s m args below meth c A Q H locs ls C hin hA hf hP hD hS hL)
theorem iv_ret (d : decode cc pc = .ok (.return_, 1)) (hF : F ws) (h1 : cells ≤ mc) (h2 : slots ≤ ms) : Iv E R own cc nL F mc ms pc l [] ws cells slots := by
  intro p l0 e s m args below meth c A Q H locs ls C hin hA hf hP hD hS hL
  exact hf ws H locs cells slots ls pc hF d h1 h2 hP hD hS
def OI (own : String) (idx : Nat) : Prop := Cond.methodLink own idx objectInit ∈ xtbl ∧ Cond.instanceMethod objectInit ∈ xtbl ∧ Cond.code objectInit ⟨#[0xb1]⟩ 1 none ∈ xtbl
theorem iv_obj {idx x : Nat} {t : xL} (d : decode cc pc = .ok (.invokespecial idx, 3)) (w : OI own idx) (hR : 1 ≤ R.frames ∧ 12 ≤ R.locals) (hc : cells ≤ R.cells ∧ slots ≤ R.slots) (k : Iv E R own cc nL F mc ms (pc + 3) (some (.ref x) :: t) [] ws cells slots) : Iv E R own cc nL F mc ms pc (some (.ref x) :: t) [.ref x] ws cells slots := by
  intro p l0 e s m args below meth c A Q H locs ls C hin hA hf hP hD hS hL
  refine W.objInit C.1 C.2.1 C.2.2.2.1 (C.2.2.2.2.1 _ w.1) (C.2.2.2.2.1 _ w.2.1) (C.2.2.2.2.1 _ w.2.2) rfl (by rw [C.2.2.1]; exact hL.1.1) rfl d hR.1 (by simpa using hR.2) ?_
  exact W.eq (g2 := F0 m (pc + 3) ls []) rfl (k p l0 e s m args below meth c A Q H locs ls C hin hA hf hP hD hS hL)
theorem iv_get {idx ci k x : Nat} {fs : List Value} {fin : Bool} {ty : FieldType} {v : Value} (d : decode cc pc = .ok (.getfield idx, 3)) (fk : FK own idx ci k fin ty) (hv : fs[k]? = some v) (kk : Iv E R own cc nL F mc ms (pc + 3) l (v :: st) ((x, .inr (ci, fs)) :: r) cells slots) : Iv E R own cc nL F mc ms pc l (.ref x :: st) ((x, .inr (ci, fs)) :: r) cells slots := by
  intro p l0 e s m args below meth c A Q H locs ls C hin hA hf hP hD hS hL
  obtain ⟨Cn, T, N, ty0, h1, h2, h3, h4, h5, h6, h8, h9⟩ := fk
  rcases h9 with h9 | ⟨host, h9⟩
  · exact va_get C.1 C.2.1 C.2.2.2.2.1 h3 C.2.2.2.1 C.2.2.2.2.2.1 hP 0 rfl h1 k h2 (C.2.2.2.2.1 _ h9) (fun _ h => h) hv d (kk p l0 e s m args below meth c A Q H locs ls C hin hA hf hP hD hS hL)
  · exact va_getN C.1 C.2.1 C.2.2.2.2.1 h3 C.2.2.2.1 C.2.2.2.2.2.1 hP 0 rfl h1 k h2 ((C.2.2.2.2.2.2 _ h9).use rfl) (fun _ h => h) hv d (kk p l0 e s m args below meth c A Q H locs ls C hin hA hf hP hD hS hL)
def FI (own : String) (idx ci k : Nat) (ty : FieldType) : Prop := ∃ (C : String) (T : u_T) (N : Nat) (ty0 : Nat → FieldType), vwCl[ci]? = some (C, T, N) ∧ k < N ∧ (∀ w ∈ u_ws C T N, w ∈ xtbl) ∧ (∀ k, k < N → parseFieldDescriptor (T k).2.2.1 = some (ty0 k)) ∧ (∀ a, a < N → ∀ b, b < N → a ≠ b → (T a).2.1 ≠ (T b).2.1) ∧ ty0 k = ty ∧ (T k).1 = own ∧ Cond.fieldLink own idx (T k).1 (T k).2.1 (T k).2.2.1 ∈ xtbl
/-- putfield on the object that is being made -/
theorem iv_put {idx ci k x : Nat} {fs fs' : List Value} {ty : FieldType} {v : Value} (d : decode cc pc = .ok (.putfield idx, 3)) (fk : FI own idx ci k ty) (hfs : fs.set k v = fs') (hn : narrow ty v = v) (hfit : fits ty v = true) (hl : Nat.ble (k + 1) fs.length = true)
    (kk : Iv E R own cc nL F mc ms (pc + 3) l st ((x, .inr (ci, fs')) :: r) cells slots) : Iv E R own cc nL F mc ms pc l (v :: .ref x :: st) ((x, .inr (ci, fs)) :: r) cells slots := by
  intro p l0 e s m args below meth c A Q H locs ls C hin hA hf hP hD hS hL
  subst hfs
  obtain ⟨Cn, T, N, ty0, h1, h2, h3, h4, h5, h8, h6, h9⟩ := fk
  have hd : parseFieldDescriptor (T k).2.2.1 = some ty := by rw [← h8]; exact h4 k h2
  have kk2 : ∀ (H1 : Heap) (locs1 : List Loc), va_P E.2.1 vwCl (((x, .inr (ci, fs)) :: r).set 0 (x, .inr (ci, fs.set k v))) H1 → va_D A (((x, .inr (ci, fs)) :: r).set 0 (x, .inr (ci, fs.set k v))) → va_S A s.heap H1 locs1 → W p l0 e R s m args below meth c H1 locs1 cells slots Q (F0 m (pc + 3) ls st) :=
    fun H1 locs1 hP1 hD1 hS1 => kk p l0 e s m args below meth c A Q H1 locs1 ls C hin hA hf hP1 hD1 hS1 hL
  cases hfin : (T k).2.2.2 with
  | true => exact va_putF C.1 C.2.1 C.2.2.2.2.1 h3 ty0 h4 h5 C.2.2.2.1 C.2.2.2.2.2.1 hP hD hS 0 rfl h1 k h2 (C.2.2.2.2.1 _ h9) (fun _ h => h) hfin hin h6 hd hn hfit (Nat.le_of_ble_eq_true hl) d kk2
  | false => exact va_put C.1 C.2.1 C.2.2.2.2.1 h3 ty0 h4 h5 C.2.2.2.1 C.2.2.2.2.2.1 hP hD hS 0 rfl h1 k h2 (C.2.2.2.2.1 _ h9) (fun _ h => h) hfin hd hn hfit (Nat.le_of_ble_eq_true hl) d kk2
/-- newarray -/
theorem iv_newa {atype : ArrayType} (ty : FieldType) (cA : ClassId) (N : Nat) {n : Int32} {x : Nat × va_E} (d : decode cc pc = .ok (.newarray atype, 2)) (hty : newarray.typeOf atype = ty) (hw : Cond.arrayClass ty ∈ xtbl) (hcA : (cA, ty) ∈ xtys E) (hra : ∀ (U : State) (c : ClassId), va_RA U c ty → U.vm.findClass ("[" ++ ty.toString) = some c) (ha : ∀ c : ClassId, vp_cell c (N, .inl fun _ => 0) = arrV c N (fun _ => defaultValue ty)) (hn : ¬ n < 0) (hN : n.toNatClampNeg = N) (hb : N * componentBytes ty ≤ 536870912) (hc : cells + 1 ≤ R.cells) (hs : slots + N ≤ R.slots)
    (k : ∀ q : Nat, Iv E R own cc nL F mc ms (pc + 2) l (.ref q :: st) (x :: (r ++ [(q, .inl (cA, (N, .inl fun _ => 0)))])) (cells + 1) (slots + N)) : Iv E R own cc nL F mc ms pc l (.int n :: st) (x :: r) cells slots := by
  intro p l0 e s m args below meth c A Q H locs ls C hin hA hf hP hD hS hL
  refine va_newa C.1 C.2.1 (by rw [hty]; exact C.2.2.2.2.1 _ hw) hty C.2.2.2.2.2.1 hP hD hS hA (a0 := (N, .inl fun _ => 0)) ha hn hN hb hc hs d (fun q cB H1 hK1 hP1 hD1 hS1 => ?_)
  have hAB : cB = cA := by
    obtain ⟨i, hi⟩ := List.getElem?_of_mem hcA
    have h1 := hra _ _ (C.2.2.2.2.2.1.2 i _ hi).2
    have h2 := hra _ _ (hK1.2 (xtys E).length (cB, ty) (by simp)).2
    exact Option.some.inj (h2.symm.trans h1)
  subst hAB
  exact k q p l0 e s m args below meth c A Q H1 locs ls C hin hA hf hP1 hD1 hS1 hL
def NI (own : String) (idx ci : Nat) (fs : List Value) : Prop := ∃ (C : String) (T : u_T) (N : Nat) (ty0 : Nat → FieldType), vwCl[ci]? = some (C, T, N) ∧ (∀ w ∈ u_ws C T N, w ∈ xtbl) ∧ (∀ k, k < N → parseFieldDescriptor (T k).2.2.1 = some (ty0 k)) ∧ Cond.classLink own idx C ∈ xtbl ∧ Cond.instantiable C N ∈ xtbl ∧ Cond.initialized C ∈ xtbl ∧ (∀ j, j < N → defaultValue (ty0 j) = vp_V fs j) ∧ fs.length = N
theorem iv_new {idx ci : Nat} {fs : List Value} {x : Nat × va_E} (N : Nat) (d : decode cc pc = .ok (.new idx, 3)) (w : NI own idx ci fs) (hN : fs.length = N) (hc : cells + 1 ≤ R.cells) (hs : slots + N ≤ R.slots)
    (k : ∀ q : Nat, Iv E R own cc nL F mc ms (pc + 3) l (.ref q :: st) (x :: (r ++ [(q, .inr (ci, fs))])) (cells + 1) (slots + N)) : Iv E R own cc nL F mc ms pc l st (x :: r) cells slots := by
  intro p l0 e s m args below meth c A Q H locs ls C hin hA hf hP hD hS hL
  obtain ⟨Cn, T, N', ty0, h1, h2, h3, h4, h5, h6, h7, h8⟩ := w
  have hNN : N' = N := h8.symm.trans hN
  subst hNN
  exact va_new C.1 C.2.1 C.2.2.2.2.1 h2 ty0 h3 C.2.2.2.1 (C.2.2.2.2.1 _ h4) (C.2.2.2.2.1 _ h5) (C.2.2.2.2.1 _ h6) C.2.2.2.2.2.1 hP hD hS hA h1 h7 hc hs d (fun q H1 hP1 hD1 hS1 => k q p l0 e s m args below meth c A Q H1 locs ls C hin hA hf hP1 hD1 hS1 hL)
end
/-- behind a call on the last cell -/
theorem iw_join {A0 : Nat → Prop} {D : va_G} {cl : List vw_C} {wr wc w1 : va_W} {H H1 : Heap} (hP : va_P D cl (wr ++ wc) H) (hD : va_D A0 (wr ++ wc)) (hk : ∀ q : Nat, q < H.size → ¬ va_A wc H.size q → H1[q]? = H[q]?) (hF : ∀ q, va_A wc H.size q → A0 q) (hP1 : va_P D cl w1 H1) (hD1 : va_D (va_A wc H.size) w1) : va_P D cl (wr ++ w1) H1 ∧ va_D A0 (wr ++ w1) := by
  have inl : ∀ (k : Nat) (q : Nat × va_E), wr[k]? = some q → (wr ++ wc)[k]? = some q := by
    intro k q hq
    rw [List.getElem?_append_left (List.getElem?_eq_some_iff.mp hq).1]
    exact hq
  have inr : ∀ (k : Nat) (q : Nat × va_E), wc[k]? = some q → (wr ++ wc)[wr.length + k]? = some q := by
    intro k q hq
    rw [List.getElem?_append_right (by omega), show wr.length + k - wr.length = k by omega]
    exact hq
  have apart : ∀ (k : Nat) (q : Nat × va_E), wr[k]? = some q → q.1 < H.size ∧ ¬ va_A wc H.size q.1 := by
    intro k q hq
    have hl := (hP k q (inl k q hq)).lt
    refine ⟨hl, fun h => ?_⟩
    rcases h with ⟨k2, e, h⟩ | h
    · have := hD.1 k (wr.length + k2) q (q.1, e) (inl k q hq) (inr k2 _ h) rfl
      have := (List.getElem?_eq_some_iff.mp hq).1
      omega
    · omega
  refine ⟨va_P.app (fun k q hq => ?_) hP1, va_D.app ⟨fun i j x y hx hy e => hD.1 i j x y (inl i x hx) (inl j y hy) e, fun k q hk => hD.2 k q (inl k q hk)⟩ (hD1.weaken (fun k q _ h => hF q.1 h)) (fun i j x y hx hy hxy => ?_)⟩
  · obtain ⟨g1, g2⟩ := apart k q hq
    exact (hP k q (inl k q hq)).kept (hk q.1 g1 g2)
  · exact (apart i x hx).2 (by rw [hxy]; exact hD1.2 j y hy)
theorem iPc_blind {E : xE} {ws : va_W} {sz : Nat} {as : List Value} : FrameBlind (va_Pc as (iPre E ws sz)) := fun a U g mk q => ⟨q.1, q.2.1, q.2.2.1, xK.same (u := U) (U := U.calling g mk a) rfl q.2.2.2.1, q.2.2.2.2.1, xNst.same (u := U) (U := U.calling g mk a) rfl q.2.2.2.2.2⟩
/-- a constructor's call, at the level of W: on the world's last cell -/
theorem w_ini {E : xE} {R : Room} {own : String} {cc : ByteArray} {nL : Nat} {p : Program} {l0 : Launch} {e : Env} {s : State} {m : MethodId} {args : Array Value} {below : List Frame} {meth : Method} {c : Code} {A : Nat → Prop} {Q : State → Prop} {H : Heap} {locs : List Loc} {ls : Array Slot} {pc : Nat} {st0 rest As : List Value} {wr : va_W} {q : Nat} {e0 : va_E} {cells slots d' n mc' ms' maxL idx : Nat} {y : MethodName} {bytes : ByteArray} {Fin : Nat → va_W → Prop}
    (C : xC E own cc nL p s m args c) (hA : ∀ q, s.heap.size ≤ q → A q) (d : decode cc pc = .ok (.invokespecial idx, 3)) (ml : ML own idx y) (mk : MK y bytes maxL none n ∧ Cond.instanceMethod y ∈ xtbl) (hy1 : y.name = "<init>") (ct : Mi E d' y bytes maxL (fun h => .ref h :: As) e0 mc' ms' Fin) (hn : As.length = n) (hst : st0 = As.reverse ++ .ref q :: rest) (hR : d' + 1 ≤ R.frames ∧ 200 * (d' + 1) ≤ R.locals) (hw : (rest.map fun v => v.category).sum ≤ 8) (hc : cells + mc' ≤ R.cells ∧ slots + ms' ≤ R.slots) (hls : ls.size = nL)
    (hP : va_P E.2.1 vwCl (wr ++ [(q, e0)]) H) (hD : va_D A (wr ++ [(q, e0)])) (hS : va_S A s.heap H locs)
    (kk : ∀ (w1 : va_W) (H1 : Heap) (locs1 : List Loc), Fin q w1 → va_P E.2.1 vwCl (wr ++ w1) H1 → va_D A (wr ++ w1) → va_S A s.heap H1 locs1 → W p l0 e R s m args below meth c H1 locs1 (cells + mc') (slots + ms') Q (F0 m (pc + 3) ls rest)) : W p l0 e R s m args below meth c H locs cells slots Q (F0 m pc ls st0) := by
  obtain ⟨⟨hini, hcode, hy, hmx⟩, hinst⟩ := mk
  have hts := C.2.2.2.2.1
  have hfr : d' + 1 ≤ R.frames ∧ 8 + (maxL + 11) + 200 * d' ≤ R.locals := ⟨hR.1, by omega⟩
  have hin : ∀ (k : Nat) (x : Nat × va_E), [(q, e0)][k]? = some x → (wr ++ [(q, e0)])[wr.length + k]? = some x := by
    intro k x hx
    rw [List.getElem?_append_right (by omega), show wr.length + k - wr.length = k by omega]
    exact hx
  have hPc : va_P E.2.1 vwCl [(q, e0)] H := fun k x hx => hP _ x (hin k x hx)
  have hDc : va_D A [(q, e0)] := ⟨fun i j x z hx hz h => by have := hD.1 _ _ x z (hin i x hx) (hin j z hz) h; omega, fun k x hx => hD.2 _ x (hin k x hx)⟩
  have hFc : ∀ z, va_A [(q, e0)] H.size z → A z := by
    intro z h
    rcases h with ⟨k, e, h⟩ | h
    · exact hDc.2 k (z, e) h
    · exact hA z (Nat.le_trans hS.1 h)
  have hpre : ∀ U : State, U.heap = H → s.WarmedH U.vm → va_Pc (.ref q :: As) (iPre E [(q, e0)] H.size) (Value.ref q :: As).toArray U := fun U hU hW => ⟨rfl, by rw [hU], by rw [hU]; exact hPc, va_K.moved hW.alike C.2.2.2.2.2.1, hDc.weaken (fun _ _ _ _ => trivial), xNst.warm hW C.2.2.2.2.2.2⟩
  have fin : va_Run p l0 e R s m args below meth c H locs cells slots mc' ms' (F0 m pc ls st0) rest (iPost E (Fin q) [(q, e0)] H.size (Value.ref q :: As).toArray) (va_A [(q, e0)] H.size) → W p l0 e R s m args below meth c H locs cells slots Q (F0 m pc ls st0) := by
    intro hr
    refine va_callv hr hS (fun x _ h => hFc x h) hFc (fun u t H1 locs1 ht hvm h5 hB hz1 hk1 hS1 => ?_)
    obtain ⟨hP1, hD1⟩ := hB
    rw [ht] at hP1
    obtain ⟨hP2, hD2⟩ := iw_join hP hD hk1 hFc hP1 hD1
    exact kk u H1 locs1 h5 hP2 hD2 hS1
  rcases ml with ml | ⟨host, ml⟩
  · exact fin (va_runI (As := As) (rest := rest) ⟨C.1, C.2.1, C.2.2.1, C.2.2.2.1, hts⟩ (ct l0 q H.size) ⟨callB_of n hts (x_goodIn' hcode) rfl rfl rfl (hts _ hini) (hts _ ml) hy hfr, hy1, hts _ hinst⟩ ⟨iPc_blind, hpre⟩ rfl hn hls hst (lv_room hw) d hc)
  · exact fin (va_runIN (As := As) (rest := rest) ⟨C.1, C.2.1, C.2.2.1, C.2.2.2.1, hts⟩ (ct l0 q H.size) ⟨va_cnB n hts (x_goodIn' hcode) rfl rfl rfl (C.2.2.2.2.2.2 _ ml) (hts _ hini) hy hfr, hy1, hts _ hinst⟩ ⟨iPc_blind, hpre⟩ rfl hn hls hst (lv_room hw) d hc)
theorem iv_ini {E : xE} {R : Room} {own : String} {cc : ByteArray} {nL : Nat} {F : va_W → Prop} {mc ms pc : Nat} {l : xL} {st0 st As : List Value} {x : Nat × va_E} {r : va_W} {q : Nat} {e0 : va_E} {cells slots d' n mc' ms' maxL idx : Nat} {y : MethodName} {bytes : ByteArray} {Fin : Nat → va_W → Prop} (d : decode cc pc = .ok (.invokespecial idx, 3)) (ml : ML own idx y) (mk : MK y bytes maxL none n ∧ Cond.instanceMethod y ∈ xtbl) (hy1 : y.name = "<init>") (ct : Mi E d' y bytes maxL (fun h => .ref h :: As) e0 mc' ms' Fin) (hn : As.length = n) (hst : st0 = As.reverse ++ .ref q :: st) (hR : d' + 1 ≤ R.frames ∧ 200 * (d' + 1) ≤ R.locals) (hw : (st.map fun v => v.category).sum ≤ 8) (hc : cells + mc' ≤ R.cells ∧ slots + ms' ≤ R.slots)
    (kk : ∀ w1 : va_W, Fin q w1 → Iv E R own cc nL F mc ms (pc + 3) l st (x :: (r ++ w1)) (cells + mc') (slots + ms')) : Iv E R own cc nL F mc ms pc l st0 (x :: (r ++ [(q, e0)])) cells slots := by
  intro p l0 e s m args below meth c A Q H locs ls C hin hA hf hP hD hS hL
  exact w_ini (wr := x :: r) C hA d ml mk hy1 ct hn hst hR hw hc hL.1.1 hP hD hS (fun w1 H1 locs1 h1 hP1 hD1 hS1 => kk w1 h1 p l0 e s m args below meth c A Q H1 locs1 ls C hin hA hf hP1 hD1 hS1 hL)
set_option maxHeartbeats 4000000 in
/-- a contract out of a walk -/
theorem Mi.of {E : xE} {d : Nat} {y : MethodName} {cc : ByteArray} {nL : Nat} {as : List Value} {e0 : va_E} {mc ms : Nat} {Fin : Nat → va_W → Prop} (hy : plainName y.cls = true) (hi : y.name = "<init>") (hn : 1 + (lg_sl as).length ≤ nL)
    (k : ∀ h0 : Nat, Iv E { frames := d, cells := mc, slots := ms, locals := 200 * d } y.cls cc nL (Fin h0) mc ms 0 (xent (.ref h0 :: as) nL) [] [(h0, e0)] 0 0) : Mi E d y cc nL (fun h => .ref h :: as) e0 mc ms Fin := by
  intro l h0 sz
  have hn' : (lg_sl (.ref h0 :: as)).length ≤ nL := by
    have e : (lg_sl (.ref h0 :: as)).length = 1 + (lg_sl as).length := by simp [lg_sl, Value.category]; omega
    rw [e]; exact hn
  refine Met.ofW (cc := cc) (maxL := nL) (ret := none) hy rfl ?_
  intro p e s m args below meth c s₁ B hml hv
  obtain ⟨rfl, hsz, hP, hK, hD0, hN⟩ := hv
  have hx := B.exec
  have hb := B.bytes
  have hret := B.returns
  have hts := atoms_spec (ws := Cond.code y cc nL none :: xtbl) B.pre
  have hown : s.vm.findClass y.cls = some m.cls := findClass_of_methodNamed B.named
  have hin : meth.name = "<init>" := ((name_of_methodNamed B.named B.method).1).trans hi
  subst hsz
  have hD := hD0.self (sz := s.heap.size)
  have hl := lv_entry (.ref h0 :: as) (n := nL) hn'
  rw [lg_entry_eq]
  generalize (lg_sl (.ref h0 :: as) ++ List.replicate (nL - (lg_sl (.ref h0 :: as)).length) Slot.unset).toArray = ls at hl ⊢
  refine k h0 p l e s m _ below meth c (va_A [(h0, e0)] s.heap.size) _ s.heap [] ls ⟨hx, hb, hml, hown, fun w hw => hts w (List.mem_cons_of_mem _ hw), hK, hN⟩ hin (fun q h => Or.inr h) ?_ hP hD va_S.rf ⟨⟨hl.1, hl.2.1, ?_⟩, xent_len (.ref h0 :: as) nL hn'⟩
  · intro ws' H' locs' cells' slots' ls' pc' hF hd h1 h2 hP' hD' hS'
    exact W.widen h1 h2 (W.vret hx hb hret (fun t ht _ => ⟨⟨ws', rfl, hF, by rw [ht]; exact hP', hD'⟩, hS'.F ht⟩) hS'.2.2 hd)
  · rintro ⟨j, v⟩ hq
    refine hl.2.2 _ (xent_args (.ref h0 :: as) 0 j v (List.replicate (nL - ((Value.ref h0 :: as).flatMap (fun v => if v.category = 2 then [some v, none] else [some v]) : xL).length) none) (fun k w h => ?_) hq)
    have := List.mem_of_getElem? h
    simp at this
