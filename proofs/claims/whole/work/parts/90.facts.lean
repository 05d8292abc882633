/-! ===== what holds at the start ===== -/
def sT (i : Nat) : Term := Term.string "PledgeWindow$Reader" (146 + 2 * i)
theorem vk_S.cg {N : Nat} {len : List Nat} {byt : List (List Int32)} {adK adV adK' adV' : Nat → Nat} {A : Nat → Prop} {U : State} {H : Heap} (h : vk_S N len byt adK adV A U H) (e : ∀ i, i < N → adK' i = adK i ∧ adV' i = adV i) : vk_S N len byt adK' adV' A U H := by
  refine ⟨fun i hi => ?_, fun i j hi hj => ?_⟩
  · rw [(e i hi).1, (e i hi).2]; exact h.1 i hi
  · rw [(e i hi).1, (e j hj).1]; exact h.2 i j hi hj
set_option maxHeartbeats 4000000 in
set_option maxRecDepth 100000 in
theorem start_str {s : State} {b : Nat} (hts : ∀ w ∈ lw_tbl, w.before #[Value.ref b] s = true) (hgv : (Jvm.Cond.and given_1 narrow_1).before #[Value.ref b] s = true) : ∃ str : Nat → Nat, vk_S 7 xsLen xsByt (fun i => str (1000 + i)) (fun i => str (1100 + i)) (fun q => s.heap.size ≤ q) s s.heap ∧ (∀ i, i < 7 → vk_R "PledgeWindow$Reader" (146 + 2 * i) (xsTxt.getD i "") (str (1000 + i)) s) ∧
    va_Z "java/lang/String" "COMPACT_STRINGS" "Z" (.int 1) (fun q => s.heap.size ≤ q) s s.heap ∧ va_Zq "jdk/internal/util/Preconditions" "SIOOBE_FORMATTER" "Ljava/util/function/BiFunction;" (fun q => s.heap.size ≤ q) s s.heap := by
  have hs := flat_of_before _ hgv
  have hA : ∀ a : Nat, a < s.heap.size → ¬ (fun q => s.heap.size ≤ q) a := fun a h => Nat.not_le.mpr h
  have hZ : (Cond.eq (.static "java/lang/String" "COMPACT_STRINGS" "Z") (.int 1)).before #[Value.ref b] s = true := hs _ (by decide +kernel)
  have hQ : (Cond.isRef (.static "jdk/internal/util/Preconditions" "SIOOBE_FORMATTER" "Ljava/util/function/BiFunction;")).before #[Value.ref b] s = true := hs _ (by decide +kernel)
  obtain ⟨adK, adV, hS, hE⟩ := vk_Sof (args := #[Value.ref b]) (s := s) (N := 7) (tm := sT) (len := xsLen) (byt := xsByt) (A := fun q => s.heap.size ≤ q)
    (by decide) 
    (fun i hi => hs _ ((by decide +kernel : ∀ i, i < 7 → Cond.exactly (sT i) "java/lang/String" ∈ flatC (Jvm.Cond.and given_1 narrow_1)) i hi))
    (fun i hi => hs _ ((by decide +kernel : ∀ i, i < 7 → Cond.eq (.field (sT i) "java/lang/String" "coder" "B") (.int 0) ∈ flatC (Jvm.Cond.and given_1 narrow_1)) i hi))
    (fun i hi => hs _ ((by decide +kernel : ∀ i, i < 7 → Cond.arrayOf (.field (sT i) "java/lang/String" "value" "[B") .byte ∈ flatC (Jvm.Cond.and given_1 narrow_1)) i hi))
    (fun i hi => hs _ ((by decide +kernel : ∀ i, i < 7 → Cond.eq (.length (.field (sT i) "java/lang/String" "value" "[B")) (.int (Int32.ofNat (xsLen.getD i 0))) ∈ flatC (Jvm.Cond.and given_1 narrow_1)) i hi))
    (fun i hi j hj => hs _ ((by decide +kernel : ∀ i, i < 7 → ∀ j, j < xsLen.getD i 0 → Cond.eq (.elem (.field (sT i) "java/lang/String" "value" "[B") (.int (Int32.ofNat j))) (.int ((xsByt.getD i []).getD j 0)) ∈ flatC (Jvm.Cond.and given_1 narrow_1)) i hi j hj))
    (fun i j hi hj hij => ((by decide +kernel : ∀ i, i < 7 → ∀ j, j < 7 → i ≠ j → Cond.not (Cond.eq (sT i) (sT j)) ∈ flatC (Jvm.Cond.and given_1 narrow_1) ∨ Cond.not (Cond.eq (sT j) (sT i)) ∈ flatC (Jvm.Cond.and given_1 narrow_1)) i hi j hj hij).imp (hs _) (hs _))
    hA
  refine ⟨fun n => if n < 1100 then adK (n - 1000) else adV (n - 1100), hS.cg (fun i hi => ?_), fun i hi => ?_, va_Zof (hts _ (by decide +kernel)) (hts _ (by decide +kernel)) (va_eqi hZ) hA, va_Zqof (hts _ (by decide +kernel)) (hts _ (by decide +kernel)) hQ hA⟩
  · refine ⟨?_, ?_⟩
    · show (if 1000 + i < 1100 then adK (1000 + i - 1000) else adV (1000 + i - 1100)) = adK i
      rw [if_pos (by omega), show 1000 + i - 1000 = i by omega]
    · show (if 1100 + i < 1100 then adK (1100 + i - 1000) else adV (1100 + i - 1100)) = adV i
      rw [if_neg (by omega), show 1100 + i - 1100 = i by omega]
  · have e : (if 1000 + i < 1100 then adK (1000 + i - 1000) else adV (1000 + i - 1100)) = adK i := by rw [if_pos (by omega), show 1000 + i - 1000 = i by omega]
    show vk_R _ _ _ (if 1000 + i < 1100 then adK (1000 + i - 1000) else adV (1000 + i - 1100)) s
    rw [e]
    exact vk_R.of (hts _ ((by decide +kernel : ∀ i, i < 7 → Cond.stringRef "PledgeWindow$Reader" (146 + 2 * i) (xsTxt.getD i "") ∈ lw_tbl) i hi)) (hE i hi)
theorem start_nst {s : State} {b : Nat} (hts : ∀ w ∈ lw_tbl, w.before #[Value.ref b] s = true) : xNst s := by
  intro w hw
  obtain ⟨h1, h2⟩ := List.mem_filter.mp hw
  have h3 := hts w h1
  cases w <;> first | (simp [x_isNest] at h2; done) | exact va_Nw.of rfl h3
theorem start_arr {s : State} {args : Array Value} {ty : FieldType} (h : (Cond.arrayClass ty).before args s = true) : ∃ cA : ClassId, ArrOfT s cA ty ∧ s.vm.findClass ("[" ++ ty.toString) = some cA := by
  obtain ⟨cA, kA, comp, h1, h2, h3⟩ := Cond.arrayClass_spec h
  exact ⟨cA, fun n z => ⟨fun k h => (by cases h), kA, h2, comp, h3⟩, h1⟩
set_option maxHeartbeats 4000000 in
theorem start_K {s : State} {b : Nat} (hts : ∀ w ∈ lw_tbl, w.before #[Value.ref b] s = true) : ∃ D : va_G × (ClassId × ClassId), va_K D.1 vwCl [(D.2.1, .int), (D.2.2, .boolean)] s := by
  have hx : ∀ w ∈ xtbl, w.before #[Value.ref b] s = true := fun w hw => hts w (List.mem_filter.mp hw).1
  obtain ⟨c0, i0, k0⟩ := u_known (C := RX0) (T := TX0) (N := 3) (n := 3) hx hin_X0 (hts _ (by decide +kernel))
  obtain ⟨c1, i1, k1⟩ := u_known (C := RX1) (T := TX1) (N := 2) (n := 2) hx hin_X1 (hts _ (by decide +kernel))
  obtain ⟨c2, i2, k2⟩ := u_known (C := RX2) (T := TX2) (N := 9) (n := 9) hx hin_X2 (hts _ (by decide +kernel))
  obtain ⟨c3, i3, k3⟩ := u_known (C := RX3) (T := TX3) (N := 6) (n := 6) hx hin_X3 (hts _ (by decide +kernel))
  obtain ⟨c4, i4, k4⟩ := u_known (C := RX4) (T := TX4) (N := 12) (n := 12) hx hin_X4 (hts _ (by decide +kernel))
  obtain ⟨c5, i5, k5⟩ := u_known (C := RX5) (T := TX5) (N := 13) (n := 13) hx hin_X5 (hts _ (by decide +kernel))
  obtain ⟨c6, i6, k6⟩ := u_known (C := RX6) (T := TX6) (N := 18) (n := 18) hx hin_X6 (hts _ (by decide +kernel))
  obtain ⟨cI, a1, a2⟩ := start_arr (hx _ aw_int)
  obtain ⟨cZ, z1, z2⟩ := start_arr (hx _ aw_bool)
  refine ⟨((fun k => [c0, c1, c2, c3, c4, c5, c6].getD k c0, fun k => [i0, i1, i2, i3, i4, i5, i6].getD k i0), (cI, cZ)), fun k q hq => ?_, fun k q hq => ?_⟩
  · match k, hq with
    | 0, hq => cases hq; exact k0
    | 1, hq => cases hq; exact k1
    | 2, hq => cases hq; exact k2
    | 3, hq => cases hq; exact k3
    | 4, hq => cases hq; exact k4
    | 5, hq => cases hq; exact k5
    | 6, hq => cases hq; exact k6
    | k + 7, hq => simp at hq
  · match k, hq with
    | 0, hq => cases hq; exact ⟨a1, a2⟩
    | 1, hq => cases hq; exact ⟨z1, z2⟩
    | k + 2, hq => simp at hq
