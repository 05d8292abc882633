/-! ===== the reference's constructor: begin on the row that was just made ===== -/
theorem b_upd0 (k : Nat) : upd (fun _ : Nat => (0 : Int32)) k 0 = fun _ => 0 := by funext j; simp [upd]
set_option maxHeartbeats 4000000 in
theorem begin_loop {E : xE} {R : Room} {p : Program} {l0 : Launch} {e : Env} {s : State} {m : MethodId} {args : Array Value} {below : List Frame} {meth : Method} {c : Code} {A : Nat → Prop} {Q : State → Prop} {cells slots h0 : Nat} (C : xC E RX6 cX6_begin 2 p s m args c)
    (fin : ∀ (H : Heap) (locs : List Loc) (ls : Array Slot), va_P E.2.1 vwCl [(h0, zI E 258)] H → va_D A [(h0, zI E 258)] → va_S A s.heap H locs → W p l0 e R s m args below meth c H locs cells slots Q (F0 m 18 ls [])) :
    ∀ (n i : Nat), i + n = 106 → ∀ (H : Heap) (locs : List Loc) (ls : Array Slot), va_P E.2.1 vwCl [(h0, zI E 258)] H → va_D A [(h0, zI E 258)] → va_S A s.heap H locs → xR ls 2 [some (.ref h0), some (.int (Int32.ofNat i))] → W p l0 e R s m args below meth c H locs cells slots Q (F0 m 2 ls []) := by
  intro n
  induction n with
  | zero =>
    intro i hi H locs ls hP hD hS hL
    have h6 : i = 106 := by omega
    subst h6
    refine lv_iload_n C.1 C.2.1 dX6_begin_2 rfl (hL.get (i := 1) rfl) ?_
    refine lv_bipush (v := 106) C.1 C.2.1 dX6_begin_3 rfl ?_
    refine lv_icmp_ge (tgt := 18) C.1 C.2.1 dX6_begin_5 rfl (fun _ => fin H locs ls hP hD hS) (fun h => absurd (by decide) h)
  | succ n ih =>
    intro i hi H locs ls hP hD hS hL
    have hlt : i < 106 := by omega
    have hnot : ¬ (106 : Int32) ≤ Int32.ofNat i := by
      have : ∀ i : Fin 106, ¬ (106 : Int32) ≤ Int32.ofNat i.val := by decide
      exact this ⟨i, hlt⟩
    have hcl : (Int32.ofNat i).toNatClampNeg = i := by
      have : ∀ i : Fin 106, (Int32.ofNat i.val).toNatClampNeg = i.val := by decide
      exact this ⟨i, hlt⟩
    have hnn : ¬ Int32.ofNat i < 0 := by
      have : ∀ i : Fin 106, ¬ Int32.ofNat i.val < 0 := by decide
      exact this ⟨i, hlt⟩
    have hnx : Int32.ofNat i + 1 = Int32.ofNat (i + 1) := by
      have : ∀ i : Fin 106, Int32.ofNat i.val + 1 = Int32.ofNat (i.val + 1) := by decide
      exact this ⟨i, hlt⟩
    refine lv_iload_n C.1 C.2.1 dX6_begin_2 rfl (hL.get (i := 1) rfl) ?_
    refine lv_bipush (v := 106) C.1 C.2.1 dX6_begin_3 rfl ?_
    refine lv_icmp_ge (tgt := 18) C.1 C.2.1 dX6_begin_5 rfl (fun h => absurd h hnot) (fun _ => ?_)
    refine lv_aload_n C.1 C.2.1 dX6_begin_8 rfl (hL.get (i := 0) rfl) ?_
    refine lv_iload_n C.1 C.2.1 dX6_begin_9 rfl (hL.get (i := 1) rfl) ?_
    refine lv_iconst (v := 0) C.1 C.2.1 dX6_begin_10 rfl ?_
    refine va_iast C.1 C.2.1 C.2.2.2.2.2.1 hP hD hS 0 0 (cA := E.2.2.1) (n := 258) (f := fun _ => 0) rfl rfl (by rintro (h | h); exact hnn h; rw [hcl] at h; omega) dX6_begin_11 (fun H1 locs1 hP1 hD1 hS1 => ?_)
    rw [b_upd0] at hP1 hD1
    have hi1 : 1 < ([some (.ref h0), some (.int (Int32.ofNat i))] : xL).length := by simp
    obtain ⟨kk, hkk⟩ := List.getElem?_of_mem ((xll_mem [some (.ref h0), some (.int (Int32.ofNat i))] 0 1 (.int (Int32.ofNat i))).mpr ⟨1, by omega, rfl⟩)
    refine lv_iinc (v := Int32.ofNat (i + 1)) C.1 C.2.1 dX6_begin_12 hL.1 hkk (by rw [← hnx]; rfl) (by rw [← hL.2]; exact hi1) rfl (fun ls2 h2 => ?_)
    refine lv_goto (tgt := 2) C.1 C.2.1 dX6_begin_15 rfl ?_
    exact ih (i + 1) (by omega) H1 locs1 ls2 hP1 hD1 hS1 (hL.setI (.int (Int32.ofNat (i + 1))) hi1 (fun w _ h => x_nl_ok rfl w (Option.some.inj h)) h2)
set_option maxHeartbeats 4000000 in
theorem i_begin (E : xE) : Mi E 1 yX6_begin cX6_begin 2 (fun h => [.ref h]) (zI E 258) 0 0 (fun h ws => ws = [(h, zI E 258)]) := by
  intro l h0 sz
  refine Met.ofW (cc := cX6_begin) (maxL := 2) (ret := none) rfl rfl ?_
  intro p e s m args below meth c s₁ B hml hv
  obtain ⟨rfl, hsz, hP, hK, hD0, hN⟩ := hv
  have hx := B.exec
  have hb := B.bytes
  have hret := B.returns
  have hts := atoms_spec (ws := Cond.code yX6_begin cX6_begin 2 none :: xtbl) B.pre
  have hown : s.vm.findClass RX6 = some m.cls := findClass_of_methodNamed B.named
  subst hsz
  have hD := hD0.self (sz := s.heap.size)
  have hl := lv_entry [.ref h0] (n := 2) (Nat.le_of_ble_eq_true rfl)
  rw [lg_entry_eq]
  generalize (lg_sl [.ref h0] ++ List.replicate (2 - (lg_sl [.ref h0]).length) Slot.unset).toArray = ls at hl ⊢
  have C : xC E RX6 cX6_begin 2 p s m #[.ref h0] c := ⟨hx, hb, hml, hown, fun w hw => hts w (List.mem_cons_of_mem _ hw), hK, hN⟩
  have hL : xR ls 2 [some (.ref h0), none] := ⟨⟨hl.1, hl.2.1, fun q hq => hl.2.2 q hq⟩, rfl⟩
  refine lv_iconst (v := 0) C.1 C.2.1 dX6_begin_0 rfl ?_
  have hi1 : 1 < ([some (.ref h0), none] : xL).length := by simp
  refine lv_istore_n C.1 C.2.1 dX6_begin_1 rfl hL.1 (by rw [← hL.2]; exact hi1) rfl (fun ls2 h2 => ?_)
  refine begin_loop C ?_ 106 0 rfl s.heap [] ls2 hP hD va_S.rf (hL.setI (.int 0) hi1 (fun w _ h => x_nl_ok rfl w (Option.some.inj h)) h2)
  intro H' locs' ls' hP' hD' hS'
  exact W.vret hx hb hret (fun t ht _ => ⟨⟨_, rfl, rfl, by rw [ht]; exact hP', hD'⟩, hS'.F ht⟩) hS'.2.2 dX6_begin_18
/-- begin called on the cell at place i of a world: nothing changes -/
theorem iv_begin {E : xE} {R : Room} {nL : Nat} {own : String} {cc : ByteArray} {F : va_W → Prop} {mc ms pc : Nat} {l : xL} {st : List Value} {ws : va_W} {cells slots q idx : Nat} (i : Nat) (d : decode cc pc = .ok (.invokestatic idx, 3)) (ml : ML own idx yX6_begin) (hi : ws[i]? = some (q, zI E 258)) (hR : 2 ≤ R.frames ∧ 400 ≤ R.locals) (hw : (st.map fun v => v.category).sum ≤ 8) (hc : cells ≤ R.cells ∧ slots ≤ R.slots)
    (kk : Iv E R own cc nL F mc ms (pc + 3) l st ws cells slots) : Iv E R own cc nL F mc ms pc l (.ref q :: st) ws cells slots := by
  intro p l0 e s m args below meth c A Q H locs ls C hin hA hf hP hD hS hL
  obtain ⟨⟨hini, hcode, hy, hmx⟩, hstat⟩ := mt_X6_begin
  have hts := C.2.2.2.2.1
  have hfr : 1 + 1 ≤ R.frames ∧ 8 + (2 + 11) + 200 * 1 ≤ R.locals := ⟨hR.1, by omega⟩
  have hPc : va_P E.2.1 vwCl [(q, zI E 258)] H := by
    intro k x hx
    have hz : k < 1 := (List.getElem?_eq_some_iff.mp hx).1
    rw [show k = 0 by omega] at hx
    cases hx
    exact hP i _ hi
  have hDc : va_D A [(q, zI E 258)] := by
    refine ⟨fun j k x y hx hy _ => ?_, fun k x hx => ?_⟩
    · have h1 : j < 1 := (List.getElem?_eq_some_iff.mp hx).1
      have h2 : k < 1 := (List.getElem?_eq_some_iff.mp hy).1
      omega
    · have hz : k < 1 := (List.getElem?_eq_some_iff.mp hx).1
      rw [show k = 0 by omega] at hx
      cases hx
      exact hD.2 i _ hi
  have hFc : ∀ z, va_A [(q, zI E 258)] H.size z → A z := by
    intro z h
    rcases h with ⟨k, e, h⟩ | h
    · exact hDc.2 k (z, e) h
    · exact hA z (Nat.le_trans hS.1 h)
  have hpre : ∀ U : State, U.heap = H → s.WarmedH U.vm → va_Pc [.ref q] (iPre E [(q, zI E 258)] H.size) #[Value.ref q] U := fun U hU hW => ⟨rfl, by rw [hU], by rw [hU]; exact hPc, va_K.moved hW.alike C.2.2.2.2.2.1, hDc.weaken (fun _ _ _ _ => trivial), xNst.warm hW C.2.2.2.2.2.2⟩
  have fin : va_Run p l0 e R s m args below meth c H locs cells slots 0 0 (F0 m pc ls (.ref q :: st)) st (iPost E (fun ws => ws = [(q, zI E 258)]) [(q, zI E 258)] H.size #[Value.ref q]) (va_A [(q, zI E 258)] H.size) → W p l0 e R s m args below meth c H locs cells slots Q (F0 m pc ls (.ref q :: st)) := by
    intro hr
    refine va_callv hr hS (fun x _ h => hFc x h) hFc (fun u t H1 locs1 ht hvm h5 hB hz1 hk1 hS1 => ?_)
    subst h5
    obtain ⟨hP1, hD1⟩ := hB
    rw [ht] at hP1
    have hP2 : va_P E.2.1 vwCl ws H1 := by
      intro k x hx
      by_cases hki : k = i
      · subst hki
        cases hx.symm.trans hi
        exact hP1 0 _ rfl
      · refine (hP k x hx).kept (hk1 x.1 (hP k x hx).lt (fun h => ?_))
        rcases h with ⟨k2, e2, h⟩ | h
        · have hz : k2 < 1 := (List.getElem?_eq_some_iff.mp h).1
          rw [show k2 = 0 by omega] at h
          have hxq : q = x.1 := congrArg Prod.fst (Option.some.inj h)
          exact hki (hD.1 k i x (q, zI E 258) hx hi hxq.symm)
        · have := (hP k x hx).lt
          omega
    exact kk p l0 e s m args below meth c A Q H1 locs1 ls C hin hA hf hP2 hD hS1 hL
  rcases ml with ml | ⟨host, ml⟩
  · exact fin (va_runS (As := [.ref q]) (rest := st) ⟨C.1, C.2.1, C.2.2.1, C.2.2.2.1, hts⟩ (i_begin E l0 q H.size) ⟨callB_of 1 hts (x_goodIn' hcode) rfl rfl rfl (hts _ hini) (hts _ ml) hy hfr, hts _ hstat⟩ ⟨iPc_blind, hpre⟩ rfl rfl hL.1.1 rfl (lv_room hw) d hc)
  · exact fin (va_runSN (As := [.ref q]) (rest := st) ⟨C.1, C.2.1, C.2.2.1, C.2.2.2.1, hts⟩ (i_begin E l0 q H.size) ⟨va_cnB 1 hts (x_goodIn' hcode) rfl rfl rfl (C.2.2.2.2.2.2 _ ml) (hts _ hini) hy hfr, hts _ hstat, trivial⟩ ⟨iPc_blind, hpre⟩ rfl rfl hL.1.1 rfl (lv_room hw) d hc)
