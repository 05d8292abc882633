/-! THE CORE: one world of 85 cells for the class (ids 0..72) and the reference (ids 73..84); Ev: 'from here the method ends well'; Ct: a method's contract. -/
def xtbl : List Cond := lw_tbl.filter goodWord
def x_isNest : Cond → Bool
  | .fieldLinkNest .. => true
  | .methodLinkNest .. => true
  | _ => false
def xnest : List Cond := lw_tbl.filter x_isNest
theorem x_in {w : Cond} (i : Nat) (h : lw_tbl[i]? = some w) (hg : goodWord w = true) : w ∈ xtbl := List.mem_filter.mpr ⟨List.mem_of_getElem? h, hg⟩
theorem x_nin {w : Cond} (i : Nat) (h : lw_tbl[i]? = some w) (hg : x_isNest w = true) : w ∈ xnest := List.mem_filter.mpr ⟨List.mem_of_getElem? h, hg⟩
theorem x_inw {ws : List Cond} (h : (ws.all fun w => goodWord w) = true) (h2 : ∀ w ∈ ws, w ∈ lw_tbl) : ∀ w ∈ ws, w ∈ xtbl := fun w hw => List.mem_filter.mpr ⟨h2 w hw, List.all_eq_true.mp h w hw⟩
theorem x_good : ∀ w ∈ xtbl, (w.onTables && w.keeps) = true ∨ ∃ ty, w = .arrayClass ty := fun _ h => good_of_word (List.mem_filter.mp h).2
theorem x_goodIn (w0 : Cond) {w : Cond} (hw : w ∈ xtbl) : GoodIn (w0 :: xtbl) (w :: xtbl) := by
  intro v hv
  rcases List.mem_cons.mp hv with rfl | h
  · exact ⟨List.mem_cons_of_mem _ hw, x_good _ hw⟩
  · exact ⟨List.mem_cons_of_mem _ h, x_good _ h⟩
theorem x_goodIn' {w : Cond} (hw : w ∈ xtbl) : GoodIn xtbl (w :: xtbl) := by
  intro v hv
  rcases List.mem_cons.mp hv with rfl | h
  · exact ⟨hw, x_good _ hw⟩
  · exact ⟨h, x_good _ h⟩
/-! ===== the state: ints and longs by cell and place; the shape ===== -/
abbrev xS : Type := (Nat → Nat → Int32) × (Nat → Nat → Int64)
/-- addresses (strings from 1000 on, their rows from 1100 on), class numbers, the classes of int[] and boolean[] -/
abbrev xE : Type := (Nat → Nat) × (va_G × (ClassId × ClassId))
def xN : Nat := 85
/-- class of a cell: 0 Hints, 1 Past, 2 Reader, 3 Shop, 4 Town, 5 PledgeWindow, 6 the reference; 7 int[], 8 boolean[] -/
def xclsL : List Nat := [5] ++ [3, 4, 7, 7, 7, 7, 7, 7, 7, 1, 7, 0, 7, 0, 7, 0, 7] ++ [3, 4, 7, 7, 7, 7, 7, 7, 7, 1, 7, 0, 7, 0, 7, 0, 7] ++ [3, 4, 7, 7, 7, 7, 7, 7, 7, 1, 7, 0, 7, 0, 7, 0, 7] ++ [2, 7, 4, 7, 7, 7, 7, 7, 7, 7] ++ [4, 7, 7, 7, 7, 7, 7, 7] ++ [7, 7, 7] ++ [6, 7, 7, 8, 7, 7, 7, 7, 7, 7, 7, 7]
def xcls (i : Nat) : Nat := xclsL.getD i 9
def xlenL : List Nat := [0] ++ [0, 0, 7, 7, 7, 7, 4, 4, 3, 0, 152, 0, 20, 0, 24, 0, 24] ++ [0, 0, 7, 7, 7, 7, 4, 4, 3, 0, 152, 0, 20, 0, 24, 0, 24] ++ [0, 0, 7, 7, 7, 7, 4, 4, 3, 0, 152, 0, 20, 0, 24, 0, 24] ++ [0, 150, 0, 7, 7, 7, 7, 4, 4, 3] ++ [0, 7, 7, 7, 7, 4, 4, 3] ++ [28, 7, 7] ++ [0, 258, 516, 2, 3, 4, 4, 7, 48, 150, 106, 2]
def xlen (i : Nat) : Nat := xlenL.getD i 0
/-- what an object of class c at id i holds -/
def xfs (E : xE) (f : Nat → Int32) (g : Nat → Int64) (c i : Nat) : List Value :=
  match c with
  | 0 => [.int (f 0), .ref (E.1 (i + 1)), .int (f 2)]
  | 1 => [.ref (E.1 (i + 1)), .int (f 1)]
  | 2 => [.ref (E.1 (i + 1)), .ref (E.1 (i + 2)), .int (f 2), .int (f 3), .int (f 4), .int (f 5), .int (f 6), .int (f 7), .int (f 8)]
  | 3 => [.ref (E.1 (i + 1)), .ref (E.1 (i + 9)), .ref (E.1 (i + 11)), .ref (E.1 (i + 13)), .ref (E.1 (i + 15)), .int (f 5)]
  | 4 => [.ref (E.1 (i + 1)), .ref (E.1 (i + 2)), .ref (E.1 (i + 3)), .ref (E.1 (i + 4)), .ref (E.1 (i + 5)), .ref (E.1 (i + 6)), .ref (E.1 (i + 7)), .int (f 7), .int (f 8), .int (f 9), .int (f 10), .int (f 11)]
  | 5 => [.ref (E.1 1), .ref (E.1 18), .ref (E.1 35), .ref (E.1 52), .ref (E.1 62), .ref (E.1 70), .ref (E.1 71), .ref (E.1 72), .long (g 8), .long (g 9), .int (f 10), .int (f 11), .int (f 12)]
  | _ => [.ref (E.1 74), .ref (E.1 75), .ref (E.1 76), .ref (E.1 77), .long (g 4), .long (g 5), .ref (E.1 78), .ref (E.1 79), .ref (E.1 80), .ref (E.1 81), .ref (E.1 82), .int (f 11), .int (f 12), .int (f 13), .int (f 14), .int (f 15), .ref (E.1 83), .ref (E.1 84)]
def xct (E : xE) (i : Nat) (f : Nat → Int32) (g : Nat → Int64) : va_E :=
  if xcls i < 7 then .inr (xcls i, xfs E f g (xcls i) i) else .inl (if xcls i = 7 then E.2.2.1 else E.2.2.2, (xlen i, .inl f))
def xw (E : xE) (σ : xS) : va_W := (List.range xN).map (fun i => (E.1 i, xct E i (σ.1 i) (σ.2 i)))
def xu (σ : xS) (i k : Nat) (v : Int32) : xS := (fun a b => if a = i ∧ b = k then v else σ.1 a b, σ.2)
def xul (σ : xS) (i k : Nat) (v : Int64) : xS := (σ.1, fun a b => if a = i ∧ b = k then v else σ.2 a b)
def xupl (f : Nat → Int64) (k : Nat) (x : Int64) : Nat → Int64 := fun j => if j = k then x else f j
/-- whole rows: what array i holds becomes f -/
def xrow (σ : xS) (i : Nat) (f : Nat → Int32) : xS := (fun a => if a = i then f else σ.1 a, σ.2)
theorem xu_at (σ : xS) (i k : Nat) (v : Int32) : (xu σ i k v).1 i = upd (σ.1 i) k v := by funext b; simp [xu, upd]
theorem xu_ne (σ : xS) {i j : Nat} (k : Nat) (v : Int32) (h : j ≠ i) : (xu σ i k v).1 j = σ.1 j := by funext b; simp [xu, h]
theorem xul_at (σ : xS) (i k : Nat) (v : Int64) : (xul σ i k v).2 i = xupl (σ.2 i) k v := by funext b; simp [xul, xupl]
theorem xul_ne (σ : xS) {i j : Nat} (k : Nat) (v : Int64) (h : j ≠ i) : (xul σ i k v).2 j = σ.2 j := by funext b; simp [xul, h]
theorem xw_get (E : xE) (σ : xS) {i : Nat} (h : i < xN) : (xw E σ)[i]? = some (E.1 i, xct E i (σ.1 i) (σ.2 i)) := by simp [xw, h]
theorem xw_getO (E : xE) (σ : xS) {i ci : Nat} (h : i < xN ∧ xcls i = ci) (h7 : ci < 7) : (xw E σ)[i]? = some (E.1 i, .inr (ci, xfs E (σ.1 i) (σ.2 i) ci i)) := by
  rw [xw_get E σ h.1, xct, h.2, if_pos h7]
theorem xw_getI (E : xE) (σ : xS) {i : Nat} (h : i < xN ∧ xcls i = 7) : (xw E σ)[i]? = some (E.1 i, .inl (E.2.2.1, (xlen i, .inl (σ.1 i)))) := by
  rw [xw_get E σ h.1, xct, h.2, if_neg (by decide), if_pos rfl]
theorem xw_getZ (E : xE) (σ : xS) {i : Nat} (h : i < xN ∧ xcls i = 8) : (xw E σ)[i]? = some (E.1 i, .inl (E.2.2.2, (xlen i, .inl (σ.1 i)))) := by
  rw [xw_get E σ h.1, xct, h.2, if_neg (by decide), if_neg (by decide)]
theorem xw_set (E : xE) (σ σ' : xS) {i : Nat} {x : va_E} (hi : i < xN) (hx : xct E i (σ'.1 i) (σ'.2 i) = x) (ho : ∀ j, j ≠ i → σ'.1 j = σ.1 j ∧ σ'.2 j = σ.2 j) : (xw E σ).set i (E.1 i, x) = xw E σ' := by
  apply List.ext_getElem?
  intro j
  rw [List.getElem?_set]
  by_cases hj : i = j
  · subst hj
    simp [xw, hi, hx]
  · rw [if_neg hj]
    by_cases hN : j < xN
    · rw [xw_get E σ hN, xw_get E σ' hN, (ho j (fun h => hj h.symm)).1, (ho j (fun h => hj h.symm)).2]
    · simp [xw, hN]
theorem xw_setI (E : xE) (σ : xS) {i k : Nat} (v : Int32) (h : i < xN ∧ xcls i = 7) : (xw E σ).set i (E.1 i, .inl (E.2.2.1, (xlen i, .inl (upd (σ.1 i) k v)))) = xw E (xu σ i k v) :=
  xw_set E σ _ h.1 (by rw [xct, h.2, if_neg (by decide), if_pos rfl, xu_at]) (fun j hj => ⟨xu_ne σ k v hj, rfl⟩)
theorem xw_setZ (E : xE) (σ : xS) {i k : Nat} (v : Int32) (h : i < xN ∧ xcls i = 8) : (xw E σ).set i (E.1 i, .inl (E.2.2.2, (xlen i, .inl (upd (σ.1 i) k v)))) = xw E (xu σ i k v) :=
  xw_set E σ _ h.1 (by rw [xct, h.2, if_neg (by decide), if_neg (by decide), xu_at]) (fun j hj => ⟨xu_ne σ k v hj, rfl⟩)
theorem xw_setRow (E : xE) (σ : xS) {i : Nat} (f : Nat → Int32) (h : i < xN ∧ xcls i = 7) : (xw E σ).set i (E.1 i, .inl (E.2.2.1, (xlen i, .inl f))) = xw E (xrow σ i f) :=
  xw_set E σ _ h.1 (by rw [xct, h.2, if_neg (by decide), if_pos rfl]; simp [xrow]) (fun j hj => ⟨by simp [xrow, hj], rfl⟩)
def xint (c k : Nat) : Bool := match c with
  | 0 => k = 0 || k = 2
  | 1 => k = 1
  | 2 => 2 ≤ k && k < 9
  | 3 => k = 5
  | 4 => 7 ≤ k && k < 12
  | 5 => 10 ≤ k && k < 13
  | 6 => 11 ≤ k && k < 16
  | _ => false
def xlng (c k : Nat) : Bool := match c with
  | 5 => k = 8 || k = 9
  | 6 => k = 4 || k = 5
  | _ => false
theorem xfs_set (E : xE) (f : Nat → Int32) (g : Nat → Int64) (v : Int32) (i : Nat) : ∀ c k, xint c k = true → (xfs E f g c i).set k (.int v) = xfs E (upd f k v) g c i := by
  intro c k h
  match c, k, h with
  | 0, 0, _ => rfl
  | 0, 2, _ => rfl
  | 1, 1, _ => rfl
  | 2, 2, _ => rfl
  | 2, 3, _ => rfl
  | 2, 4, _ => rfl
  | 2, 5, _ => rfl
  | 2, 6, _ => rfl
  | 2, 7, _ => rfl
  | 2, 8, _ => rfl
  | 3, 5, _ => rfl
  | 4, 7, _ => rfl
  | 4, 8, _ => rfl
  | 4, 9, _ => rfl
  | 4, 10, _ => rfl
  | 4, 11, _ => rfl
  | 5, 10, _ => rfl
  | 5, 11, _ => rfl
  | 5, 12, _ => rfl
  | 6, 11, _ => rfl
  | 6, 12, _ => rfl
  | 6, 13, _ => rfl
  | 6, 14, _ => rfl
  | 6, 15, _ => rfl
  | 0, 1, h => simp [xint] at h
  | 0, k + 3, h => simp [xint] at h
  | 1, 0, h => simp [xint] at h
  | 1, k + 2, h => simp [xint] at h
  | 2, 0, h => simp [xint] at h
  | 2, 1, h => simp [xint] at h
  | 2, k + 9, h => simp [xint] at h; omega
  | 3, 0, h => simp [xint] at h
  | 3, 1, h => simp [xint] at h
  | 3, 2, h => simp [xint] at h
  | 3, 3, h => simp [xint] at h
  | 3, 4, h => simp [xint] at h
  | 3, k + 6, h => simp [xint] at h
  | 4, k, h =>
    simp [xint] at h
    rcases (show k = 7 ∨ k = 8 ∨ k = 9 ∨ k = 10 ∨ k = 11 by omega) with rfl | rfl | rfl | rfl | rfl <;> rfl
  | 5, k, h =>
    simp [xint] at h
    rcases (show k = 10 ∨ k = 11 ∨ k = 12 by omega) with rfl | rfl | rfl <;> rfl
  | 6, k, h =>
    simp [xint] at h
    rcases (show k = 11 ∨ k = 12 ∨ k = 13 ∨ k = 14 ∨ k = 15 by omega) with rfl | rfl | rfl | rfl | rfl <;> rfl
  | c + 7, k, h => simp [xint] at h
theorem xfs_setl (E : xE) (f : Nat → Int32) (g : Nat → Int64) (v : Int64) (i : Nat) : ∀ c k, xlng c k = true → (xfs E f g c i).set k (.long v) = xfs E f (xupl g k v) c i := by
  intro c k h
  match c, k, h with
  | 5, k, h =>
    simp [xlng] at h
    rcases h with rfl | rfl <;> rfl
  | 6, k, h =>
    simp [xlng] at h
    rcases h with rfl | rfl <;> rfl
  | 0, k, h => simp [xlng] at h
  | 1, k, h => simp [xlng] at h
  | 2, k, h => simp [xlng] at h
  | 3, k, h => simp [xlng] at h
  | 4, k, h => simp [xlng] at h
  | c + 7, k, h => simp [xlng] at h
theorem xw_setF (E : xE) (σ : xS) {i ci k : Nat} (v : Int32) (h : i < xN ∧ xcls i = ci) (h7 : ci < 7) (hk : xint ci k = true) : (xw E σ).set i (E.1 i, .inr (ci, (xfs E (σ.1 i) (σ.2 i) ci i).set k (.int v))) = xw E (xu σ i k v) :=
  xw_set E σ _ h.1 (by rw [xct, h.2, if_pos h7, xu_at, xfs_set E _ _ v i ci k hk]; rfl) (fun j hj => ⟨xu_ne σ k v hj, rfl⟩)
theorem xw_setL (E : xE) (σ : xS) {i ci k : Nat} (v : Int64) (h : i < xN ∧ xcls i = ci) (h7 : ci < 7) (hk : xlng ci k = true) : (xw E σ).set i (E.1 i, .inr (ci, (xfs E (σ.1 i) (σ.2 i) ci i).set k (.long v))) = xw E (xul σ i k v) :=
  xw_set E σ _ h.1 (by rw [xct, h.2, if_pos h7, xul_at, xfs_setl E _ _ v i ci k hk]; rfl) (fun j hj => ⟨rfl, xul_ne σ k v hj⟩)
/-- the addresses are apart, and in A -/
def xD (E : xE) (A : Nat → Prop) : Prop := (∀ i j, i < xN → j < xN → E.1 i = E.1 j → i = j) ∧ ∀ i, i < xN → A (E.1 i)
theorem xD.va {E : xE} {A : Nat → Prop} (h : xD E A) (σ : xS) : va_D A (xw E σ) := by
  have key : ∀ (i : Nat) (p : Nat × va_E), (xw E σ)[i]? = some p → i < xN ∧ p.1 = E.1 i := by
    intro i p hp
    by_cases hi : i < xN
    · rw [xw_get E σ hi] at hp
      cases hp
      exact ⟨hi, rfl⟩
    · simp [xw, hi] at hp
  refine ⟨fun i j p q hp hq e => ?_, fun k q hk => ?_⟩
  · obtain ⟨hi, h1⟩ := key i p hp
    obtain ⟨hj, h2⟩ := key j q hq
    exact h.1 i j hi hj (by rw [← h1, ← h2, e])
  · obtain ⟨hi, h1⟩ := key k q hk
    rw [h1]
    exact h.2 k hi
/-- what the methods of the world may write -/
def xA (E : xE) : Nat → Prop := fun q => ∃ i, i < xN ∧ q = E.1 i
def xtys (E : xE) : List (ClassId × FieldType) := [(E.2.2.1, .int), (E.2.2.2, .boolean)]
/-- the literals of the class: town promise hearer buyer buy keep days -/
def xsLen : List Nat := [4, 7, 6, 5, 3, 4, 4]
def xsByt : List (List Int32) := [[116, 111, 119, 110], [112, 114, 111, 109, 105, 115, 101], [104, 101, 97, 114, 101, 114], [98, 117, 121, 101, 114], [98, 117, 121], [107, 101, 101, 112], [100, 97, 121, 115]]
def xsTxt : List String := ["town", "promise", "hearer", "buyer", "buy", "keep", "days"]
/-- what is read and never written: the literals, two statics of the JDK -/
def xX (E : xE) (A : Nat → Prop) (U : State) (H : Heap) : Prop :=
  vk_S 7 xsLen xsByt (fun i => E.1 (1000 + i)) (fun i => E.1 (1100 + i)) A U H ∧ (∀ i, i < 7 → vk_R "PledgeWindow$Reader" (146 + 2 * i) (xsTxt.getD i "") (E.1 (1000 + i)) U) ∧
  va_Z "java/lang/String" "COMPACT_STRINGS" "Z" (.int 1) A U H ∧ va_Zq "jdk/internal/util/Preconditions" "SIOOBE_FORMATTER" "Ljava/util/function/BiFunction;" A U H
theorem xX.kept {E : xE} {A : Nat → Prop} {U : State} {H H1 : Heap} (h : xX E A U H) (hq : ∀ a : Nat, a < H.size → ¬ A a → H1[a]? = H[a]?) : xX E A U H1 := ⟨h.1.kept hq, h.2.1, h.2.2.1.kept hq, h.2.2.2.kept hq⟩
theorem xX.narrow {E : xE} {A B : Nat → Prop} {U : State} {H : Heap} (h : xX E A U H) (hAB : ∀ q, B q → A q) : xX E B U H := ⟨h.1.narrow hAB, h.2.1, h.2.2.1.narrow hAB, h.2.2.2.narrow hAB⟩
theorem xX.warm {E : xE} {A : Nat → Prop} {s U : State} {H : Heap} (hW : s.WarmedH U.vm) (h : xX E A s H) : xX E A U H := ⟨h.1.moved hW.alike, fun i hi => (h.2.1 i hi).warm hW, h.2.2.1.moved hW.alike, h.2.2.2.moved hW.alike⟩
theorem xX.same {E : xE} {A : Nat → Prop} {u U : State} {H : Heap} (hv : U.vm = u.vm) (h : xX E A u H) : xX E A U H := by
  have hal : u.vm.Alike U.vm := by rw [hv]; exact Vm.Alike.refl _
  exact ⟨h.1.moved hal, fun i hi => (h.2.1 i hi).same hv, h.2.2.1.moved hal, h.2.2.2.moved hal⟩
def xNst (U : State) : Prop := ∀ w ∈ xnest, va_Nw w U
theorem xNst.warm {s U : State} (hW : s.WarmedH U.vm) (h : xNst s) : xNst U := by
  intro w hw
  have h1 := h w hw
  have h2 := (List.mem_filter.mp hw).2
  cases w <;> first | (simp [x_isNest] at h2; done) | exact va_Nw.warmF hW h1 | exact va_Nw.warmM hW h1
theorem xNst.same {u U : State} (hv : u.vm = U.vm) (h : xNst u) : xNst U := by
  intro w hw
  have h1 := h w hw
  have h2 := (List.mem_filter.mp hw).2
  cases w <;> first | (simp [x_isNest] at h2; done) | exact va_Nw.same rfl hv h1
theorem xK.same {E : xE} {u U : State} (hv : u.vm = U.vm) (h : va_K E.2.1 vwCl (xtys E) u) : va_K E.2.1 vwCl (xtys E) U := va_K.moved (by rw [hv]; exact Vm.Alike.refl _) h
/-! ===== locals ===== -/
abbrev xL : Type := List (Option Value)
def xll : Nat → xL → List (Nat × Value)
  | _, [] => []
  | i, none :: t => xll (i + 1) t
  | i, some v :: t => (i, v) :: xll (i + 1) t
theorem xll_mem : ∀ (l : xL) (i j : Nat) (v : Value), (j, v) ∈ xll i l ↔ ∃ k, j = i + k ∧ l[k]? = some (some v) := by
  intro l
  induction l with
  | nil => intro i j v; simp [xll]
  | cons a t ih =>
    intro i j v
    have step : (j, v) ∈ xll (i + 1) t ↔ ∃ k, j = i + (k + 1) ∧ (a :: t)[k + 1]? = some (some v) := by
      rw [ih]
      constructor
      · rintro ⟨k, h1, h2⟩; exact ⟨k, by omega, by simpa using h2⟩
      · rintro ⟨k, h1, h2⟩; exact ⟨k, by omega, by simpa using h2⟩
    cases a with
    | none =>
      rw [xll, step]
      constructor
      · rintro ⟨k, h1, h2⟩; exact ⟨k + 1, h1, h2⟩
      · rintro ⟨k, h1, h2⟩
        cases k with
        | zero => simp at h2
        | succ k => exact ⟨k, h1, h2⟩
    | some w =>
      rw [xll, List.mem_cons, step]
      constructor
      · rintro (h | ⟨k, h1, h2⟩)
        · cases h; exact ⟨0, rfl, rfl⟩
        · exact ⟨k + 1, h1, h2⟩
      · rintro ⟨k, h1, h2⟩
        cases k with
        | zero => left; simp at h2; rw [h1, ← h2]; rfl
        | succ k => right; exact ⟨k, h1, h2⟩
def xR (ls : Array Slot) (nL : Nat) (l : xL) : Prop := lv_has ls nL (xll 0 l) ∧ l.length = nL
theorem xR.get {ls : Array Slot} {nL : Nat} {l : xL} (h : xR ls nL l) {i : Nat} {v : Value} (hi : l[i]? = some (some v)) : ls[i]? = some (.val v) :=
  h.1.2.2 (i, v) ((xll_mem l 0 i v).mpr ⟨i, by omega, hi⟩)
theorem xR.setI {ls ls' : Array Slot} {nL : Nat} {l : xL} (h : xR ls nL l) {i : Nat} (v : Value) (hi : i < l.length) (hp : ∀ w, i ≠ 0 → l[i - 1]? = some (some w) → w.category ≠ 2)
    (h' : lv_has ls' nL ((i, v) :: (xll 0 l).filter (fun q => !(q.1 == i) && !(q.1 + 1 == i && q.2.category == 2)))) : xR ls' nL (l.set i (some v)) := by
  refine ⟨⟨h'.1, h'.2.1, ?_⟩, by rw [List.length_set]; exact h.2⟩
  rintro ⟨j, w⟩ hq
  obtain ⟨k, hk, hw⟩ := (xll_mem _ 0 j w).mp hq
  have hjk : j = k := by omega
  subst hjk
  apply h'.2.2
  rw [List.getElem?_set] at hw
  by_cases hij : i = j
  · subst hij
    rw [if_pos rfl, if_pos hi] at hw
    simp at hw
    rw [hw]
    exact List.mem_cons_self
  · rw [if_neg hij] at hw
    refine List.mem_cons_of_mem _ (List.mem_filter.mpr ⟨(xll_mem l 0 j w).mpr ⟨j, by omega, hw⟩, ?_⟩)
    have h1 : (j == i) = false := by simp; omega
    by_cases h2 : j + 1 = i
    · have := hp w (by omega) (by rw [show i - 1 = j by omega]; exact hw)
      have h3 : (w.category == 2) = false := by simpa using this
      simp [h1, h3]
    · have h3 : (j + 1 == i) = false := by simpa using h2
      simp [h1, h3]
theorem xR.setL {ls ls' : Array Slot} {nL : Nat} {l : xL} (h : xR ls nL l) {i : Nat} (v : Value) (hi : i + 1 < l.length) (hp : ∀ w, i ≠ 0 → l[i - 1]? = some (some w) → w.category ≠ 2)
    (h' : lv_has ls' nL ((i, v) :: (xll 0 l).filter (fun q => !(q.1 == i) && (!(q.1 == i + 1) && !(q.1 + 1 == i && q.2.category == 2))))) : xR ls' nL ((l.set i (some v)).set (i + 1) none) := by
  refine ⟨⟨h'.1, h'.2.1, ?_⟩, by rw [List.length_set, List.length_set]; exact h.2⟩
  rintro ⟨j, w⟩ hq
  obtain ⟨k, hk, hw⟩ := (xll_mem _ 0 j w).mp hq
  have hjk : j = k := by omega
  subst hjk
  apply h'.2.2
  rw [List.getElem?_set] at hw
  by_cases hij : i + 1 = j
  · rw [if_pos hij] at hw
    simp [hi] at hw
  · rw [if_neg hij, List.getElem?_set] at hw
    by_cases hij2 : i = j
    · subst hij2
      rw [if_pos rfl, if_pos (by omega)] at hw
      simp at hw
      rw [hw]
      exact List.mem_cons_self
    · rw [if_neg hij2] at hw
      refine List.mem_cons_of_mem _ (List.mem_filter.mpr ⟨(xll_mem l 0 j w).mpr ⟨j, by omega, hw⟩, ?_⟩)
      have h1 : (j == i) = false := by simp; omega
      have h4 : (j == i + 1) = false := by simp; omega
      by_cases h2 : j + 1 = i
      · have := hp w (by omega) (by rw [show i - 1 = j by omega]; exact hw)
        have h3 : (w.category == 2) = false := by simpa using this
        simp [h1, h3, h4]
      · have h3 : (j + 1 == i) = false := by simpa using h2
        simp [h1, h3, h4]
/-! ===== Ev ===== -/
/-- the method that runs, its code, the tables -/
def xC (E : xE) (own : String) (cc : ByteArray) (nL : Nat) (p : Program) (s : State) (m : MethodId) (args : Array Value) (c : Code) : Prop :=
  p.tables.exec = Jvm.exec ∧ c.code = cc ∧ c.maxLocals = nL ∧ s.vm.findClass own = some m.cls ∧ (∀ w ∈ xtbl, w.before args s = true) ∧ va_K E.2.1 vwCl (xtys E) s ∧ xNst s
/-- at pc stands a return of v -/
def xRet (cc : ByteArray) (pc : Nat) (v : Option Value) : Prop :=
  (∃ x, v = some (.int x) ∧ decode cc pc = .ok (.ireturn, 1)) ∨ (∃ x, v = some (.long x) ∧ decode cc pc = .ok (.lreturn, 1)) ∨ (v = none ∧ decode cc pc = .ok (.return_, 1)) ∨ (∃ a, v = some (.ref a) ∧ decode cc pc = .ok (.areturn, 1))
def Ev (E : xE) (R : Room) (own : String) (cc : ByteArray) (nL : Nat) (Fin : Option Value → xS → Prop) (pc : Nat) (l : xL) (st : List Value) (σ : xS) : Prop :=
  ∀ (p : Program) (l0 : Launch) (e : Env) (s : State) (m : MethodId) (args : Array Value) (below : List Frame) (meth : Method) (c : Code) (A : Nat → Prop) (cells slots : Nat) (Q : State → Prop) (H : Heap) (locs : List Loc) (ls : Array Slot),
    xC E own cc nL p s m args c → (cells ≤ R.cells ∧ slots ≤ R.slots) → xD E A → xX E A s s.heap →
    (∀ (v : Option Value) (σ' : xS) (H' : Heap) (locs' : List Loc) (ls' : Array Slot) (pc' : Nat), Fin v σ' → xRet cc pc' v → va_P E.2.1 vwCl (xw E σ') H' → va_S A s.heap H' locs' → W p l0 e R s m args below meth c H' locs' cells slots Q (F0 m pc' ls' v.toList)) →
    va_P E.2.1 vwCl (xw E σ) H → va_S A s.heap H locs → xR ls nL l → W p l0 e R s m args below meth c H locs cells slots Q (F0 m pc ls st)
theorem Ev.mono {E : xE} {R : Room} {own : String} {cc : ByteArray} {nL : Nat} {F G : Option Value → xS → Prop} {pc : Nat} {l : xL} {st : List Value} {σ : xS} (h : ∀ v σ', F v σ' → G v σ') (k : Ev E R own cc nL F pc l st σ) : Ev E R own cc nL G pc l st σ :=
  fun p l0 e s m args below meth c A cells slots Q H locs ls C hc hA hX hf hP hS hL => k p l0 e s m args below meth c A cells slots Q H locs ls C hc hA hX (fun v σ' H' locs' ls' pc' hv => hf v σ' H' locs' ls' pc' (h v σ' hv)) hP hS hL
/-- more is known of the locals than is wanted -/
theorem Ev.forget {E : xE} {R : Room} {own : String} {cc : ByteArray} {nL : Nat} {F : Option Value → xS → Prop} {pc : Nat} {l l' : xL} {st : List Value} {σ : xS} (h : l'.length = l.length ∧ ∀ (i : Nat) (v : Value), l'[i]? = some (some v) → l[i]? = some (some v)) (k : Ev E R own cc nL F pc l' st σ) : Ev E R own cc nL F pc l st σ := by
  intro p l0 e s m args below meth c A cells slots Q H locs ls C hc hA hX hf hP hS hL
  refine k p l0 e s m args below meth c A cells slots Q H locs ls C hc hA hX hf hP hS ⟨⟨hL.1.1, hL.1.2.1, ?_⟩, h.1.trans hL.2⟩
  rintro ⟨j, w⟩ hq
  obtain ⟨i, h1, h2⟩ := (xll_mem _ 0 j w).mp hq
  exact hL.1.2.2 _ ((xll_mem _ 0 j w).mpr ⟨i, h1, h.2 i w h2⟩)
def rm (d : Nat) : Room := { frames := d, cells := 0, slots := 0, locals := 200 * d }
def xPre (E : xE) (σ : xS) (U : State) : Prop := va_P E.2.1 vwCl (xw E σ) U.heap ∧ va_K E.2.1 vwCl (xtys E) U ∧ xD E (xA E) ∧ xNst U ∧ xX E (xA E) U U.heap
def xPost (E : xE) (r : Option Value) (σ' : xS) : Array Value → State → Outcome → State → Prop := fun _ st o t => (o = .returned r ∧ va_P E.2.1 vwCl (xw E σ') t.heap) ∧ va_F (xA E) st t
/-- THE CONTRACT: called with these arguments where the world is σ, y answers r, and the world is σ' -/
def Ct (E : xE) (d : Nat) (y : MethodName) (cc : ByteArray) (nL : Nat) (ret : Option FieldType) (as : List Value) (σ : xS) (r : Option Value) (σ' : xS) : Prop :=
  ∀ l : Launch, Met l y (Cond.code y cc nL ret :: xtbl) (rm d) (va_Pc as (xPre E σ)) (xPost E r σ') 0 0 (xA E)
theorem Ct.eq {E : xE} {d : Nat} {y : MethodName} {cc : ByteArray} {nL : Nat} {ret : Option FieldType} {as : List Value} {σ : xS} {r r2 : Option Value} {σ1 σ2 : xS} (h : Ct E d y cc nL ret as σ r σ1) (h1 : r = r2) (h2 : σ1 = σ2) : Ct E d y cc nL ret as σ r2 σ2 := h1 ▸ h2 ▸ h
theorem xPc_blind {E : xE} {σ : xS} {as : List Value} : FrameBlind (va_Pc as (xPre E σ)) := fun a U g mk q => ⟨q.1, q.2.1, xK.same (u := U) (U := U.calling g mk a) rfl q.2.2.1, q.2.2.2.1, xNst.same (u := U) (U := U.calling g mk a) rfl q.2.2.2.2.1, xX.same (u := U) (U := U.calling g mk a) rfl q.2.2.2.2.2⟩
/-- what a method returns, as its type has it -/
def xNar (ret : Option FieldType) (r : Option Value) : Prop := match r with
  | none => ret = none
  | some (.int x) => ∃ ty, ret = some ty ∧ narrow ty (.int x) = .int x
  | some (.long _) => ret = some .long
  | some (.ref _) => ∃ ty, ret = some ty ∧ ((∃ n, ty = .object n) ∨ ∃ t, ty = .array t)
  | _ => False
/-- locals at the entry -/
def xent (as : List Value) (n : Nat) : xL :=
  let l : xL := as.flatMap (fun v => if v.category = 2 then [some v, none] else [some v])
  l ++ List.replicate (n - l.length) none
theorem xent_args : ∀ (as : List Value) (i j : Nat) (v : Value) (pad : xL), (∀ (k : Nat) (w : Value), pad[k]? = some (some w) → False) → (j, v) ∈ xll i (as.flatMap (fun v => if v.category = 2 then [some v, none] else [some v]) ++ pad) → (j, v) ∈ lv_args i as := by
  intro as
  induction as with
  | nil =>
    intro i j v pad hp h
    obtain ⟨k, h1, h2⟩ := (xll_mem _ i j v).mp h
    simp at h2
    exact (hp k v h2).elim
  | cons a t ih =>
    intro i j v pad hp h
    by_cases hc : a.category = 2
    · rw [List.flatMap_cons, if_pos hc] at h
      simp only [List.cons_append, List.nil_append, xll] at h
      rw [lv_args, hc]
      rcases List.mem_cons.mp h with h | h
      · rw [h]; exact List.mem_cons_self
      · exact List.mem_cons_of_mem _ (ih _ _ _ _ hp h)
    · rw [List.flatMap_cons, if_neg hc] at h
      simp only [List.cons_append, List.nil_append, xll] at h
      have hc1 : a.category = 1 := by
        cases a <;> first | rfl | (exact absurd rfl hc)
      rw [lv_args, hc1]
      rcases List.mem_cons.mp h with h | h
      · rw [h]; exact List.mem_cons_self
      · exact List.mem_cons_of_mem _ (ih _ _ _ _ hp h)
theorem xent_len (as : List Value) (n : Nat) (h : (lg_sl as).length ≤ n) : (xent as n).length = n := by
  have e : (as.flatMap (fun v => if v.category = 2 then [some v, none] else [some v]) : xL).length = (lg_sl as).length := by
    clear h
    induction as with
    | nil => rfl
    | cons a t ih =>
      rw [lg_sl] at ih ⊢
      rw [List.flatMap_cons, List.flatMap_cons, List.length_append, List.length_append, ih]
      by_cases hc : a.category = 2 <;> simp [hc]
  simp only [xent, List.length_append, List.length_replicate, e]
  omega
set_option maxHeartbeats 4000000 in
/-- a contract out of a walk of the body -/
theorem Ct.of {E : xE} {d : Nat} {y : MethodName} {cc : ByteArray} {nL : Nat} {ret : Option FieldType} {as : List Value} {σ σ' : xS} {r : Option Value} (hy : plainName y.cls = true) (hn : (lg_sl as).length ≤ nL) (hr : xNar ret r)
    (k : Ev E (rm d) y.cls cc nL (fun v t => v = r ∧ t = σ') 0 (xent as nL) [] σ) : Ct E d y cc nL ret as σ r σ' := by
  intro l
  refine Met.ofW (cc := cc) (maxL := nL) (ret := ret) hy rfl ?_
  intro p e s m args below meth c s₁ B hml hv
  obtain ⟨rfl, hP, hK, hD, hN, hX⟩ := hv
  have hx := B.exec
  have hb := B.bytes
  have hret := B.returns
  have hts := atoms_spec (ws := Cond.code y cc nL ret :: xtbl) B.pre
  have hown : s.vm.findClass y.cls = some m.cls := findClass_of_methodNamed B.named
  have hlocks := B.notSynchronized
  have hl := lv_entry as (n := nL) hn
  rw [lg_entry_eq]
  generalize (lg_sl as ++ List.replicate (nL - (lg_sl as).length) Slot.unset).toArray = ls at hl ⊢
  refine k p l e s m as.toArray below meth c (xA E) 0 0 _ s.heap [] ls ⟨hx, hb, hml, hown, fun w hw => hts w (List.mem_cons_of_mem _ hw), hK, hN⟩ ⟨Nat.zero_le _, Nat.zero_le _⟩ hD hX ?_ hP va_S.rf ⟨⟨hl.1, hl.2.1, ?_⟩, xent_len as nL hn⟩
  · rintro v t H' locs' ls' pc' ⟨rfl, rfl⟩ hR hP' hS'
    rcases hR with ⟨x, rfl, hd⟩ | ⟨x, rfl, hd⟩ | ⟨rfl, hd⟩ | ⟨a, rfl, hd⟩
    · obtain ⟨ty, h1, h2⟩ := hr
      exact W.zret (v := x) hx hb (hret.trans h1) h2 (fun t ht _ => ⟨⟨rfl, by rw [ht]; exact hP'⟩, hS'.F ht⟩) hS'.2.2 hd
    · exact W.lret (v := x) hx hb (hret.trans hr) (fun t ht _ => ⟨⟨rfl, by rw [ht]; exact hP'⟩, hS'.F ht⟩) hS'.2.2 hd
    · exact W.vret hx hb (hret.trans hr) (fun t ht _ => ⟨⟨rfl, by rw [ht]; exact hP'⟩, hS'.F ht⟩) hS'.2.2 hd
    · obtain ⟨ty, h1, h2⟩ := hr
      exact W.aret (v := .ref a) hx hb (hret.trans h1) h2 (Or.inr ⟨a, rfl⟩) (fun t ht _ => ⟨⟨rfl, by rw [ht]; exact hP'⟩, hS'.F ht⟩) hS'.2.2 hd
  · rintro ⟨j, v⟩ hq
    refine hl.2.2 _ (xent_args as 0 j v (List.replicate (nL - (as.flatMap (fun v => if v.category = 2 then [some v, none] else [some v]) : xL).length) none) (fun k w h => ?_) hq)
    have := List.mem_of_getElem? h
    simp at this
