/-! ===== the law, from its entry ===== -/
theorem ni_L_7 : NI RL 7 5 [.null, .null, .null, .null, .null, .null, .null, .null, .long 0, .long 0, .int 0, .int 0, .int 0] := ⟨RX5, TX5, 13, tyX5, rfl, hin_X5, tyX5_ok, x_mem (by decide +kernel) rfl, x_mem (by decide +kernel) rfl, x_mem (by decide +kernel) rfl, (fun j hj => by rcases (show j = 0 ∨ j = 1 ∨ j = 2 ∨ j = 3 ∨ j = 4 ∨ j = 5 ∨ j = 6 ∨ j = 7 ∨ j = 8 ∨ j = 9 ∨ j = 10 ∨ j = 11 ∨ j = 12 by omega) with rfl | rfl | rfl | rfl | rfl | rfl | rfl | rfl | rfl | rfl | rfl | rfl | rfl <;> rfl), rfl⟩
theorem ni_L_10 : NI RL 10 6 [.null, .null, .null, .null, .long 0, .long 0, .null, .null, .null, .null, .null, .int 0, .int 0, .int 0, .int 0, .int 0, .null, .null] := ⟨RX6, TX6, 18, tyX6, rfl, hin_X6, tyX6_ok, x_mem (by decide +kernel) rfl, x_mem (by decide +kernel) rfl, x_mem (by decide +kernel) rfl, (fun j hj => by rcases (show j = 0 ∨ j = 1 ∨ j = 2 ∨ j = 3 ∨ j = 4 ∨ j = 5 ∨ j = 6 ∨ j = 7 ∨ j = 8 ∨ j = 9 ∨ j = 10 ∨ j = 11 ∨ j = 12 ∨ j = 13 ∨ j = 14 ∨ j = 15 ∨ j = 16 ∨ j = 17 by omega) with rfl | rfl | rfl | rfl | rfl | rfl | rfl | rfl | rfl | rfl | rfl | rfl | rfl | rfl | rfl | rfl | rfl | rfl <;> rfl), rfl⟩
/-- `new` at the level of W -/
theorem w_new {E : xE} {R : Room} {own : String} {cc : ByteArray} {nL : Nat} {p : Program} {l0 : Launch} {e : Env} {s : State} {m : MethodId} {args : Array Value} {below : List Frame} {meth : Method} {c : Code} {A : Nat → Prop} {Q : State → Prop} {H : Heap} {locs : List Loc} {ls : Array Slot} {pc : Nat} {st : List Value} {wr : va_W} {cells slots idx ci : Nat} {fs : List Value} (N : Nat)
    (C : xC E own cc nL p s m args c) (hA : ∀ q, s.heap.size ≤ q → A q) (d : decode cc pc = .ok (.new idx, 3)) (w : NI own idx ci fs) (hN : fs.length = N) (hc : cells + 1 ≤ R.cells) (hs : slots + N ≤ R.slots) (hP : va_P E.2.1 vwCl wr H) (hD : va_D A wr) (hS : va_S A s.heap H locs)
    (k : ∀ (q : Nat) (H1 : Heap), va_P E.2.1 vwCl (wr ++ [(q, .inr (ci, fs))]) H1 → va_D A (wr ++ [(q, .inr (ci, fs))]) → va_S A s.heap H1 locs → W p l0 e R s m args below meth c H1 locs (cells + 1) (slots + N) Q (F0 m (pc + 3) ls (.ref q :: st))) : W p l0 e R s m args below meth c H locs cells slots Q (F0 m pc ls st) := by
  obtain ⟨Cn, T, N', ty0, h1, h2, h3, h4, h5, h6, h7, h8⟩ := w
  have hNN : N' = N := h8.symm.trans hN
  subst hNN
  exact va_new C.1 C.2.1 C.2.2.2.2.1 h2 ty0 h3 C.2.2.2.1 (C.2.2.2.2.1 _ h4) (C.2.2.2.2.1 _ h5) (C.2.2.2.2.1 _ h6) C.2.2.2.2.2.1 hP hD hS hA h1 h7 hc hs d k
set_option maxHeartbeats 4000000 in
set_option maxRecDepth 100000 in
theorem whole_start {p : Program} {e : Env} {s : State} {m : MethodId} {below : List Frame} {meth : Method} {c : Code} (l : Launch) (hflags : l.flags = flags0) {b L : Nat} {xs : Nat → Int32} (hL : L ≤ 384) (C0 : lw_At p s m meth c b L xs) : W p l e room_1 s m #[Value.ref b] below meth c s.heap [] 0 0 (lw_Z below #[Value.ref b] s) (entryFrame m ([Value.ref b] : List Value).toArray 4) := by
  obtain ⟨hx, hb, hr, hml, hown, hts, hX, hbl, hlocks, hgv⟩ := id C0
  obtain ⟨D, hK⟩ := start_K hts
  obtain ⟨str, hStr⟩ := start_str hts hgv
  have hN := start_nst hts
  have hA : ∀ q : Nat, s.heap.size ≤ q → (fun q : Nat => s.heap.size ≤ q) q := fun _ h => h
  have hbA : ¬ (fun q : Nat => s.heap.size ≤ q) b := Nat.not_le.mpr hbl
  have hxt : ∀ w ∈ xtbl, w.before #[Value.ref b] s = true := fun w hw => hts w (List.mem_filter.mp hw).1
  have C1 : ∀ ad : Nat → Nat, xC (ad, D) RL cL_law 4 p s m #[Value.ref b] c := fun ad => ⟨hx, hb, hml, hown, hxt, hK, hN⟩
  have C := C1 (fun _ => 0)
  have hS : va_S (fun q : Nat => s.heap.size ≤ q) s.heap s.heap [] := va_S.rf
  have hP : va_P D.1 vwCl [] s.heap := fun k q h => by simp at h
  have hD : va_D (fun q : Nat => s.heap.size ≤ q) [] := ⟨fun i j p q h => by simp at h, fun k q h => by simp at h⟩
  have hl := lv_entry ([.ref b]) (n := 4) (Nat.le_of_ble_eq_true rfl)
  rw [lg_entry_eq]
  generalize (lg_sl ([.ref b]) ++ List.replicate (4 - (lg_sl ([.ref b])).length) Slot.unset).toArray = ls at hl ⊢
  have hR0 : xR ls 4 [some (.ref b), none, none, none] := ⟨⟨hl.1, hl.2.1, fun q hq => hl.2.2 q hq⟩, rfl⟩
  refine w_new (wr := []) 13 C hA dL_law_0 ni_L_7 rfl (Nat.le_of_ble_eq_true rfl) (Nat.le_of_ble_eq_true rfl) hP hD hS (fun q1 H1 hP1 hD1 hS1 => ?_)
  refine lv_dup hx hb dL_law_3 rfl ?_
  refine w_ini (wr := []) (As := []) C hA dL_law_4 ml_L_9 mt_X5_init rfl (i_X5 (fun _ => 0, D)) rfl rfl ⟨by decide, by decide⟩ (Nat.le_of_ble_eq_true rfl) ⟨Nat.le_of_ble_eq_true rfl, Nat.le_of_ble_eq_true rfl⟩ hR0.1.1 hP1 hD1 hS1 (fun w1 H2 locs2 hw1 hP2 hD2 hS2 => ?_)
  obtain ⟨a, ha, rfl⟩ := hw1
  subst ha
  refine lv_astore_n hx hb dL_law_7 rfl hR0.1 (by decide) rfl (fun ls1 h1 => ?_)
  have hR1 : xR ls1 4 [some (.ref b), some (.ref (a 0)), none, none] := hR0.setI (i := 1) (.ref (a 0)) (by simp) (fun w _ h => x_nl_ok rfl w (Option.some.inj h)) h1
  refine w_new (wr := [] ++ wB (fun _ => 0, D) a) 18 C hA dL_law_8 ni_L_10 rfl (Nat.le_of_ble_eq_true rfl) (Nat.le_of_ble_eq_true rfl) hP2 hD2 hS2 (fun q2 H3 hP3 hD3 hS3 => ?_)
  refine lv_dup hx hb dL_law_11 rfl ?_
  refine w_ini (wr := [] ++ wB (fun _ => 0, D) a) (As := []) C hA dL_law_12 ml_L_12 mt_X6_init rfl (i_X6 (fun _ => 0, D)) rfl rfl ⟨by decide, by decide⟩ (Nat.le_of_ble_eq_true rfl) ⟨Nat.le_of_ble_eq_true rfl, Nat.le_of_ble_eq_true rfl⟩ hR1.1.1 hP3 hD3 hS3 (fun w2 H4 locs4 hw2 hP4 hD4 hS4 => ?_)
  obtain ⟨a2, ha2, rfl⟩ := hw2
  subst ha2
  refine lv_astore_n hx hb dL_law_15 rfl hR1.1 (by decide) rfl (fun ls2 h2 => ?_)
  have hR2 : xR ls2 4 [some (.ref b), some (.ref (a 0)), some (.ref (a2 0)), none] := hR1.setI (i := 2) (.ref (a2 0)) (by simp) (fun w _ h => x_nl_ok rfl w (Option.some.inj h)) h2
  refine lv_iconst (v := 0) hx hb dL_law_16 rfl ?_
  refine lv_istore_n hx hb dL_law_17 rfl hR2.1 (by decide) rfl (fun ls3 h3 => ?_)
  have hR3 : xR ls3 4 (LL (sE a a2 str, D) b 0) := hR2.setI (i := 3) (.int 0) (by simp) (fun w _ h => x_nl_ok rfl w (Option.some.inj h)) h3
  have hPw : va_P D.1 vwCl (xw (sE a a2 str, D) σ0) H4 := by
    rw [← start_xw a a2 str D]; exact hP4
  have hDw : va_D (fun q : Nat => s.heap.size ≤ q) (xw (sE a a2 str, D) σ0) := by
    rw [← start_xw a a2 str D]; exact hD4
  have hXD : xD (sE a a2 str, D) (fun q : Nat => s.heap.size ≤ q) :=
    ⟨fun i j hi hj h => hDw.1 i j _ _ (xw_get _ σ0 hi) (xw_get _ σ0 hj) h, fun i hi => hDw.2 i _ (xw_get _ σ0 hi)⟩
  have eS : ∀ n, 85 ≤ n → sE a a2 str n = str n := fun n hn => by rw [sE, if_neg (by omega)]
  have hXX : xX (sE a a2 str, D) (fun q : Nat => s.heap.size ≤ q) s s.heap := by
    refine ⟨hStr.1.cg (fun i _ => ⟨eS _ (by omega), eS _ (by omega)⟩), fun i hi => ?_, hStr.2.2.1, hStr.2.2.2⟩
    have := hStr.2.1 i hi
    rw [← eS (1000 + i) (by omega)] at this
    exact this
  refine law_loop (E := (sE a a2 str, D)) (b := b) (L := L) (xs := xs) (F := fun v _ => v = some (.int 1)) hL (fun _ => rfl) 64 0 σ0 (by omega) (by omega) Inv_0 p l e s m #[Value.ref b] below meth c (fun q : Nat => s.heap.size ≤ q) _ _ _ H4 locs4 ls3 (C1 _) ⟨Nat.le_of_ble_eq_true rfl, Nat.le_of_ble_eq_true rfl⟩ hXD hXX ⟨hX, hbl, hbA⟩ ?_ hPw hS4 hR3
  intro v σ' H' locs' ls' pc' hv hret hP' hS'
  subst hv
  rcases hret with ⟨x, hx1, hd⟩ | ⟨x, hx1, hd⟩ | ⟨hx1, hd⟩ | ⟨x, hx1, hd⟩
  · refine va_forget (fun q hq => hS'.2.2 q hq) ?_
    exact W.widen (k := 600000) (n := 7302250) (Nat.le_of_ble_eq_true rfl) (Nat.le_of_ble_eq_true rfl) (lw_ret hx hb hr hlocks hd)
  · cases hx1
  · cases hx1
  · cases hx1
