/-! both, call by call: a town, days -/
def vOk (rc : Option FieldType) (v : Value) : Bool := match rc, v with
  | some .int, .int _ => true
  | some .long, .long _ => true
  | _, _ => false
theorem vOk.i {v : Value} (h : vOk (some .int) v = true) : ∃ x, v = .int x := by cases v <;> first | exact ⟨_, rfl⟩ | (simp [vOk] at h)
theorem vOk.l {v : Value} (h : vOk (some .long) v = true) : ∃ x, v = .long x := by cases v <;> first | exact ⟨_, rfl⟩ | (simp [vOk] at h)
def Both (E : xE) (yc : MethodName) (bc : ByteArray) (nc : Nat) (rc : Option FieldType) (yr : MethodName) (br : ByteArray) (nr : Nat) (rr : Option FieldType) (as : List Value) (σ : xS) : Prop :=
  ∃ v σ1 σ2, Ct E 8 yc bc nc rc (.ref (E.1 0) :: as) σ (some v) σ1 ∧ Ct E 8 yr br nr rr (.ref (E.1 73) :: as) σ1 (some v) σ2 ∧ Inv σ2 σ2 ∧ vOk rc v = true
theorem mkB {E : xE} {yc : MethodName} {bc : ByteArray} {nc : Nat} {rc : Option FieldType} {yr : MethodName} {br : ByteArray} {nr : Nat} {rr : Option FieldType} {as : List Value} {σ σ1 σ2 : xS} {v v' : Value} (h : Inv σ σ) (hc : Ct E 8 yc bc nc rc (.ref (E.1 0) :: as) σ (some v) σ1) (hr : Ct E 8 yr br nr rr (.ref (E.1 73) :: as) σ1 (some v') σ2) (cf : cFr σ σ1) (rf : rFr σ1 σ2) (k : Inv σ σ1 → v' = v ∧ Inv σ1 σ2) (hv : vOk rc v = true := by rfl) : Both E yc bc nc rc yr br nr rr as σ := by
  have h1 := k (h.o (cSame.rf σ) cf.r)
  obtain ⟨rfl, h2⟩ := h1
  exact ⟨_, σ1, σ2, hc, hr, h2.o rf.c (rSame.rf σ2), hv⟩
theorem cFr.rf (σ : xS) : cFr σ σ := ⟨fun _ _ => rfl, rfl⟩
theorem rFr.rf (σ : xS) : rFr σ σ := ⟨fun _ _ => rfl, rfl⟩
theorem cFr.xu {σ τ : xS} {i k : Nat} {v : Int32} (h : cFr σ τ) (hi : i < 73) : cFr σ (xu τ i k v) := ⟨fun j hj => (xu_f (by omega)).trans (h.1 j hj), h.2⟩
theorem rFr.xu {σ τ : xS} {i k : Nat} {v : Int32} (h : rFr σ τ) (hi : 73 ≤ i) : rFr σ (xu τ i k v) := ⟨fun j hj => (xu_f (by omega)).trans (h.1 j hj), h.2⟩
theorem cFr.row {σ τ : xS} {i : Nat} {f : Nat → Int32} (h : cFr σ τ) (hi : i < 73) : cFr σ (xrow τ i f) := ⟨fun j hj => (xrow_ne _ _ (by omega)).trans (h.1 j hj), h.2⟩
theorem rFr.row {σ τ : xS} {i : Nat} {f : Nat → Int32} (h : rFr σ τ) (hi : 73 ≤ i) : rFr σ (xrow τ i f) := ⟨fun j hj => (xrow_ne _ _ (by omega)).trans (h.1 j hj), h.2⟩
theorem cFr_xput {σ τ : xS} {r : Nat} {i v : Int32} (h : cFr σ τ) (hr : r < 73) : cFr σ (xput τ r i v) := by
  unfold xput
  split
  · exact h
  · split
    · exact h
    · exact h.xu hr
theorem cFr.tr {σ τ υ : xS} (h : cFr σ τ) (h2 : cFr τ υ) : cFr σ υ := ⟨fun i hi => (h2.1 i hi).trans (h.1 i hi), h2.2.trans h.2⟩
theorem rFr.tr {σ τ υ : xS} (h : rFr σ τ) (h2 : rFr τ υ) : rFr σ υ := ⟨fun i hi => (h2.1 i hi).trans (h.1 i hi), h2.2.trans h.2⟩
theorem cFr_bad (σ : xS) : cFr σ (badS σ) := (cFr.rf σ).xu (by omega)
theorem cFr_no (σ : xS) : cFr σ (noS σ) := (cFr.rf σ).xu (by omega)
theorem cFr_full (σ : xS) : cFr σ (fullS σ) := (cFr.rf σ).xu (by omega)
theorem rFr_bad (σ : xS) : rFr σ (mBad σ) := (rFr.rf σ).row (by omega)
theorem rFr_no (σ : xS) : rFr σ (mNo σ) := (rFr.rf σ).row (by omega)
theorem rFr_full (σ : xS) : rFr σ (mFull σ) := (rFr.rf σ).row (by omega)
theorem b_bad {E : xE} {yc : MethodName} {bc : ByteArray} {nc : Nat} {rc : Option FieldType} {yr : MethodName} {br : ByteArray} {nr : Nat} {rr : Option FieldType} {as : List Value} {σ : xS} {v : Value} (h : Inv σ σ) (hc : Ct E 8 yc bc nc rc (.ref (E.1 0) :: as) σ (some v) (badS σ)) (hr : Ct E 8 yr br nr rr (.ref (E.1 73) :: as) (badS σ) (some v) (mBad (badS σ))) (hv : vOk rc v = true := by rfl) : Both E yc bc nc rc yr br nr rr as σ :=
  mkB h hc hr (cFr_bad σ) (rFr_bad _) (fun h1 => ⟨rfl, h1.bad⟩) (hv := hv)
theorem b_no {E : xE} {yc : MethodName} {bc : ByteArray} {nc : Nat} {rc : Option FieldType} {yr : MethodName} {br : ByteArray} {nr : Nat} {rr : Option FieldType} {as : List Value} {σ : xS} {v : Value} (h : Inv σ σ) (hc : Ct E 8 yc bc nc rc (.ref (E.1 0) :: as) σ (some v) (noS σ)) (hr : Ct E 8 yr br nr rr (.ref (E.1 73) :: as) (noS σ) (some v) (mNo (noS σ))) (hv : vOk rc v = true := by rfl) : Both E yc bc nc rc yr br nr rr as σ :=
  mkB h hc hr (cFr_no σ) (rFr_no _) (fun h1 => ⟨rfl, h1.no⟩) (hv := hv)
theorem b_full {E : xE} {yc : MethodName} {bc : ByteArray} {nc : Nat} {rc : Option FieldType} {yr : MethodName} {br : ByteArray} {nr : Nat} {rr : Option FieldType} {as : List Value} {σ : xS} {v : Value} (h : Inv σ σ) (hc : Ct E 8 yc bc nc rc (.ref (E.1 0) :: as) σ (some v) (fullS σ)) (hr : Ct E 8 yr br nr rr (.ref (E.1 73) :: as) (fullS σ) (some v) (mFull (fullS σ))) (hv : vOk rc v = true := by rfl) : Both E yc bc nc rc yr br nr rr as σ :=
  mkB h hc hr (cFr_full σ) (rFr_full _) (fun h1 => ⟨rfl, h1.full⟩) (hv := hv)
/-- nothing changes but what is only at hand -/
theorem b_same {E : xE} {yc : MethodName} {bc : ByteArray} {nc : Nat} {rc : Option FieldType} {yr : MethodName} {br : ByteArray} {nr : Nat} {rr : Option FieldType} {as : List Value} {σ σ1 σ2 : xS} {v v' : Value} (h : Inv σ σ) (hc : Ct E 8 yc bc nc rc (.ref (E.1 0) :: as) σ (some v) σ1) (hr : Ct E 8 yr br nr rr (.ref (E.1 73) :: as) σ1 (some v') σ2) (cf : cFr σ σ1) (cs : cSame σ σ1) (rf : rFr σ1 σ2) (rs : rSame σ1 σ2) (e : v' = v) (hv : vOk rc v = true := by rfl) : Both E yc bc nc rc yr br nr rr as σ :=
  mkB h hc hr cf rf (fun h1 => ⟨e, h1.o cs rs⟩) (hv := hv)
/-! the shop at hand -/
def SX (σ : xS) (f : Nat → Int32) (P H B U S N M : Nat) : Prop := zT σ 2 f 9999 P H B ∧ zP σ 10 f P H B U ∧ zE σ 12 f S ∧ zN σ 14 f 4 58 99 N ∧ zN σ 16 f 5 82 30 M
theorem Inv.x {σ ρ : xS} (h : Inv σ ρ) : ∃ P H B U S N M, SX σ (ρ.1 74) P H B U S N M := h.1
theorem SX.r {σ : xS} {f : Nat → Int32} {P H B U S N M : Nat} (h : SX σ f P H B U S N M) : SR σ 1 f := ⟨P, H, B, U, S, N, M, h⟩
theorem SX.town {σ σ' : xS} {f f' : Nat → Int32} {P H B U S N M P' H' B' U' : Nat} (h : SX σ f P H B U S N M) (hT : zT σ' 2 f' 9999 P' H' B') (hU : zP σ' 10 f' P' H' B' U') (hc : ∀ i, 12 ≤ i → i ≤ 17 → σ'.1 i = σ.1 i) (hf : ∀ k, k = 3 ∨ k = 4 ∨ k = 5 ∨ (48 ≤ k ∧ k < 106) → f' k = f k) : SX σ' f' P' H' B' U' S N M := by
  obtain ⟨-, -, e, n, m⟩ := h
  refine ⟨hT, hU, e.mv (by rw [hc 12 (by omega) (by omega)]) (fun k _ => ?_) (fun k hk => hf k (by omega)), n.mv (by rw [hc 14 (by omega) (by omega)]) (fun k _ => ?_) (fun k hk => hf k (by omega)), m.mv (by rw [hc 16 (by omega) (by omega)]) (fun k _ => ?_) (fun k hk => hf k (by omega))⟩
  · rw [hc (12 + 1) (by omega) (by omega)]
  · rw [hc (14 + 1) (by omega) (by omega)]
  · rw [hc (16 + 1) (by omega) (by omega)]
theorem Inv.sh {σ σ' ρ : xS} {g : Nat → Int32} (h : Inv σ ρ) (hc : ∀ i, (i = 0 ∨ 17 < i ∧ i < 54) → σ'.1 i = σ.1 i) (hm : σ'.1 12 0 = σ.1 12 0 ∧ σ'.1 14 0 = σ.1 14 0 ∧ σ'.1 16 0 = σ.1 16 0) (hc2 : σ'.2 = σ.2) (hs : SR σ' 1 g) : Inv σ' (xrow ρ 74 g) := by
  obtain ⟨k1, k2, k3⟩ := h.2.2.2.2.2.2
  refine h.shop hc (by rw [hc2]) (fun i h1 h2 => xrow_ne _ _ (by omega)) (xrow_ne _ _ (by decide)) (by rw [xrow_ne _ _ (by decide)]) rfl ⟨hm.1.trans k1, hm.2.1.trans k2, hm.2.2.trans k3⟩ ?_
  rw [xrow_at]; exact hs
theorem zP_0 {σ : xS} {f : Nat → Int32} {q P H B : Nat} (h1 : σ.1 q 1 = 0) (h2 : f 6 = 0) : zP σ q f P H B 0 := ⟨h1, h2, by omega, fun u hu => absurd hu (Nat.not_lt_zero u)⟩
theorem cFr_empty (σ : xS) : cFr σ (emptyS σ) := by
  simp only [emptyS]
  repeat (first | exact cFr.rf _ | refine cFr.xu ?_ (by omega))
theorem emptyS_o (σ : xS) {a b : Nat} (h : (a ≠ 2 ∨ b < 7 ∨ 11 < b) ∧ (a ≠ 10 ∨ b ≠ 1) ∧ (a ≠ 12 ∨ b ≠ 2) ∧ (a ≠ 14 ∨ b ≠ 2) ∧ (a ≠ 16 ∨ b ≠ 2)) : (emptyS σ).1 a b = σ.1 a b := by
  simp only [emptyS]
  repeat rw [xu_o (by omega)]
theorem emptyS_i (σ : xS) : (emptyS σ).1 2 7 = 0 ∧ (emptyS σ).1 2 8 = 0 ∧ (emptyS σ).1 2 9 = 0 ∧ (emptyS σ).1 2 10 = 0 ∧ (emptyS σ).1 2 11 = 0 ∧ (emptyS σ).1 10 1 = 0 ∧ (emptyS σ).1 12 2 = 0 ∧ (emptyS σ).1 14 2 = 0 ∧ (emptyS σ).1 16 2 = 0 := by
  simp [emptyS, xu_1]
theorem emptyS_x (σ : xS) (f : Nat → Int32) : SX (emptyS σ) (mZero f 106) 0 0 0 0 0 0 0 := by
  obtain ⟨e1, e2, e3, e4, e5, e6, e7, e8, e9⟩ := emptyS_i σ
  have z : ∀ k, k < 106 → mZero f 106 k = 0 := fun k hk => by rw [mZero, if_pos hk]
  refine ⟨⟨⟨⟨e1, z 0 (by omega), by omega⟩, ⟨e2, z 1 (by omega), by omega⟩, ⟨e3, z 2 (by omega), by omega⟩, fun p hp => absurd hp (Nat.not_lt_zero p), fun p hp => absurd hp (Nat.not_lt_zero p)⟩, 0, by omega, z 25 (by omega), e4.trans (z 25 (by omega)).symm, e5.trans (z 24 (by omega)).symm, fun p hp => absurd hp (Nat.not_lt_zero p), fun p hp => absurd hp (Nat.not_lt_zero p), fun p hp => absurd hp (Nat.not_lt_zero p)⟩, zP_0 e6 (z 6 (by omega)), ⟨e7, z 3 (by omega), by omega, fun p hp => absurd hp (Nat.not_lt_zero p)⟩, ⟨e8, z 4 (by omega), by omega, fun p hp => absurd hp (Nat.not_lt_zero p)⟩, ⟨e9, z 5 (by omega), by omega, fun p hp => absurd hp (Nat.not_lt_zero p)⟩⟩
theorem b_town {E : xE} {σ : xS} (h : Inv σ σ) : Both E yX5_town cX5_town 2 (some .int) yX6_town cX6_town 2 (some .int) [] σ := by
  refine mkB h (c_X5_town 6) (c_X6_town 7) (cFr_empty σ) ((rFr.rf _).row (by omega)) (fun h1 => ?_)
  obtain ⟨P, H, B, U, S, N, M, hT, -⟩ := h1.x
  refine ⟨by rw [hT.1.1.1, hT.1.1.2.1], h1.sh (fun i hi => ?_) ⟨emptyS_o σ (by omega), emptyS_o σ (by omega), emptyS_o σ (by omega)⟩ rfl (emptyS_x σ _).r⟩
  funext k; exact emptyS_o σ (by omega)
theorem nP_eq {P : Nat} (hP : P ≤ 7) : 7 ≤ P ↔ P = 7 := by omega
theorem b_promise {E : xE} {σ : xS} {k w : Int32} (h : Inv σ σ) : Both E yX5_promise cX5_promise 3 (some .int) yX6_promise cX6_promise 3 (some .int) [.int k, .int w] σ := by
  obtain ⟨P, H, B, U, S, N, M, hx⟩ := h.x
  have hP := hx.1.1.1
  have hc := c_X5_promise 6 (E := E) (k := k) (w := w) hP.1 hP.2.2
  by_cases q1 : btw k 0 5
  · by_cases q2 : btw w 1 9
    · by_cases q3 : P = 7
      · have e : promiseC σ P k w = (-4, fullS σ) := by rw [promiseC, if_pos q1, if_pos q2, if_pos (by omega)]
        rw [e] at hc
        have e2 : mPromise (fullS σ) P k w = (-4, mFull (fullS σ)) := by rw [mPromise, if_pos q1, if_pos q2, if_pos q3]
        have hr := c_X6_promise 6 (E := E) (σ := fullS σ) (P := P) (k := k) (w := w) (by rw [(cFr_full σ).1 74 (by omega)]; exact hP.2.1) hP.2.2
        rw [e2] at hr
        exact b_full h hc hr
      · have e : promiseC σ P k w = (nI P, xu (xu (xu (xu (xu (xu σ 10 1 0) 3 P k) 4 P w) 5 P 0) 6 P 0) 2 7 (nI (P + 1))) := by rw [promiseC, if_pos q1, if_pos q2, if_neg (by omega)]
        rw [e] at hc
        obtain ⟨σ1, h1⟩ : ∃ σ1, σ1 = xu (xu (xu (xu (xu (xu σ 10 1 0) 3 P k) 4 P w) 5 P 0) 6 P 0) 2 7 (nI (P + 1)) := ⟨_, rfl⟩
        rw [← h1] at hc
        have cf : cFr σ σ1 := by rw [h1]; repeat (first | exact cFr.rf _ | refine cFr.xu ?_ (by omega))
        have e2 : mPromise σ1 P k w = (nI P, xrow σ1 74 (upd (mLay (σ1.1 74) P k w) 6 0)) := by rw [mPromise, if_pos q1, if_pos q2, if_neg q3]
        have hr := c_X6_promise 6 (E := E) (σ := σ1) (P := P) (k := k) (w := w) (by rw [cf.1 74 (by omega)]; exact hP.2.1) hP.2.2
        rw [e2, cf.1 74 (by omega)] at hr
        refine mkB h hc hr cf ((rFr.rf _).row (by omega)) (fun hi => ⟨rfl, hi.sh (fun i hi => ?_) ⟨?_, ?_, ?_⟩ (by rw [h1]; rfl) ?_⟩)
        · funext j; rw [h1]; repeat rw [xu_o (by omega)]
        · rw [h1]; repeat rw [xu_o (by omega)]
        · rw [h1]; repeat rw [xu_o (by omega)]
        · rw [h1]; repeat rw [xu_o (by omega)]
        · have hT : zT (xu σ 10 1 0) 2 (σ.1 74) 9999 P H B := hx.1.o (fun b => xu_o (by omega)) (fun i _ _ => xu_f (by omega)) (fun _ _ => rfl)
          have hT2 : zT σ1 2 (mLay (σ.1 74) P k w) 9999 (P + 1) H B := by rw [h1]; exact W_addP hT (by omega) (Sm_1 rfl q2)
          have hT3 : zT σ1 2 (upd (mLay (σ.1 74) P k w) 6 0) 9999 (P + 1) H B := hT2.o (fun _ => rfl) (fun _ _ _ => rfl) (fun j hj => upd_ne _ _ (by omega))
          refine (hx.town hT3 (zP_0 ?_ (upd_at _ _ _)) (fun i _ _ => ?_) (fun j hj => ?_)).r
          · rw [h1]; repeat rw [xu_o (by omega)]
            rw [xu_s]
          · funext j; rw [h1]; repeat rw [xu_o (by omega)]
          · rw [mLay]; repeat rw [upd_ne _ _ (by omega)]
    · have e : promiseC σ P k w = (-2, badS σ) := by rw [promiseC, if_pos q1, if_neg q2]
      rw [e] at hc
      have e2 : mPromise (badS σ) P k w = (-2, mBad (badS σ)) := by rw [mPromise, if_pos q1, if_neg q2]
      have hr := c_X6_promise 6 (E := E) (σ := badS σ) (P := P) (k := k) (w := w) (by rw [(cFr_bad σ).1 74 (by omega)]; exact hP.2.1) hP.2.2
      rw [e2] at hr
      exact b_bad h hc hr
  · have e : promiseC σ P k w = (-2, badS σ) := by rw [promiseC, if_neg q1]
    rw [e] at hc
    have e2 : mPromise (badS σ) P k w = (-2, mBad (badS σ)) := by rw [mPromise, if_neg q1]
    have hr := c_X6_promise 6 (E := E) (σ := badS σ) (P := P) (k := k) (w := w) (by rw [(cFr_bad σ).1 74 (by omega)]; exact hP.2.1) hP.2.2
    rw [e2] at hr
    exact b_bad h hc hr
theorem b_hearer {E : xE} {σ : xS} {k w : Int32} (h : Inv σ σ) : Both E yX5_hearer cX5_hearer 3 (some .int) yX6_hearer cX6_hearer 3 (some .int) [.int k, .int w] σ := by
  obtain ⟨P, H, B, U, S, N, M, hx⟩ := h.x
  have hH := hx.1.1.2.1
  have hc := c_X5_hearer 6 (E := E) (k := k) (w := w) hH.1 hH.2.2
  by_cases q1 : btw k 0 5
  · by_cases q2 : btw w 1 9
    · by_cases q3 : H = 4
      · have e : hearerC σ H k w = (-4, fullS σ) := by rw [hearerC, if_pos q1, if_pos q2, if_pos (by omega)]
        rw [e] at hc
        have e2 : mHearer (fullS σ) H k w = (-4, mFull (fullS σ)) := by rw [mHearer, if_pos q1, if_pos q2, if_pos q3]
        have hr := c_X6_hearer 6 (E := E) (σ := fullS σ) (H := H) (k := k) (w := w) (by rw [(cFr_full σ).1 74 (by omega)]; exact hH.2.1) hH.2.2
        rw [e2] at hr
        exact b_full h hc hr
      · have e : hearerC σ H k w = (nI H, xu (xu (xu (xu σ 10 1 0) 7 H k) 8 H w) 2 8 (nI (H + 1))) := by rw [hearerC, if_pos q1, if_pos q2, if_neg (by omega)]
        rw [e] at hc
        obtain ⟨σ1, h1⟩ : ∃ σ1, σ1 = xu (xu (xu (xu σ 10 1 0) 7 H k) 8 H w) 2 8 (nI (H + 1)) := ⟨_, rfl⟩
        rw [← h1] at hc
        have cf : cFr σ σ1 := by rw [h1]; repeat (first | exact cFr.rf _ | refine cFr.xu ?_ (by omega))
        have e2 : mHearer σ1 H k w = (nI H, xrow σ1 74 (upd (upd (upd (upd (σ1.1 74) (40 + H) k) (44 + H) w) 1 (nI (H + 1))) 6 0)) := by rw [mHearer, if_pos q1, if_pos q2, if_neg q3]
        have hr := c_X6_hearer 6 (E := E) (σ := σ1) (H := H) (k := k) (w := w) (by rw [cf.1 74 (by omega)]; exact hH.2.1) hH.2.2
        rw [e2, cf.1 74 (by omega)] at hr
        refine mkB h hc hr cf ((rFr.rf _).row (by omega)) (fun hi => ⟨rfl, hi.sh (fun i hi => ?_) ⟨?_, ?_, ?_⟩ (by rw [h1]; rfl) ?_⟩)
        · funext j; rw [h1]; repeat rw [xu_o (by omega)]
        · rw [h1]; repeat rw [xu_o (by omega)]
        · rw [h1]; repeat rw [xu_o (by omega)]
        · rw [h1]; repeat rw [xu_o (by omega)]
        · have hT : zT (xu σ 10 1 0) 2 (σ.1 74) 9999 P H B := hx.1.o (fun b => xu_o (by omega)) (fun i _ _ => xu_f (by omega)) (fun _ _ => rfl)
          have hT2 : zT σ1 2 (upd (upd (upd (σ.1 74) (40 + H) k) (44 + H) w) 1 (nI (H + 1))) 9999 P (H + 1) B := by rw [h1]; exact W_addH hT (by omega) (Sm_1 rfl q2)
          have hT3 : zT σ1 2 (upd (upd (upd (upd (σ.1 74) (40 + H) k) (44 + H) w) 1 (nI (H + 1))) 6 0) 9999 P (H + 1) B := hT2.o (fun _ => rfl) (fun _ _ _ => rfl) (fun j hj => upd_ne _ _ (by omega))
          refine (hx.town hT3 (zP_0 ?_ (upd_at _ _ _)) (fun i _ _ => ?_) (fun j hj => ?_)).r
          · rw [h1]; repeat rw [xu_o (by omega)]
            rw [xu_s]
          · funext j; rw [h1]; repeat rw [xu_o (by omega)]
          · repeat rw [upd_ne _ _ (by omega)]
    · have e : hearerC σ H k w = (-2, badS σ) := by rw [hearerC, if_pos q1, if_neg q2]
      rw [e] at hc
      have e2 : mHearer (badS σ) H k w = (-2, mBad (badS σ)) := by rw [mHearer, if_pos q1, if_neg q2]
      have hr := c_X6_hearer 6 (E := E) (σ := badS σ) (H := H) (k := k) (w := w) (by rw [(cFr_bad σ).1 74 (by omega)]; exact hH.2.1) hH.2.2
      rw [e2] at hr
      exact b_bad h hc hr
  · have e : hearerC σ H k w = (-2, badS σ) := by rw [hearerC, if_neg q1]
    rw [e] at hc
    have e2 : mHearer (badS σ) H k w = (-2, mBad (badS σ)) := by rw [mHearer, if_neg q1]
    have hr := c_X6_hearer 6 (E := E) (σ := badS σ) (H := H) (k := k) (w := w) (by rw [(cFr_bad σ).1 74 (by omega)]; exact hH.2.1) hH.2.2
    rw [e2] at hr
    exact b_bad h hc hr
theorem b_buyer {E : xE} {σ : xS} {k : Int32} (h : Inv σ σ) : Both E yX5_buyer cX5_buyer 2 (some .int) yX6_buyer cX6_buyer 2 (some .int) [.int k] σ := by
  obtain ⟨P, H, B, U, S, N, M, hx⟩ := h.x
  have hB := hx.1.1.2.2.1
  have hc := c_X5_buyer 6 (E := E) (k := k) hB.1 hB.2.2
  by_cases q1 : btw k 0 999
  · by_cases q3 : B = 3
    · have e : buyerC σ B k = (-4, fullS σ) := by rw [buyerC, if_pos q1, if_pos (by omega)]
      rw [e] at hc
      have e2 : mBuyer (fullS σ) B k = (-4, mFull (fullS σ)) := by rw [mBuyer, if_pos q1, if_pos q3]
      have hr := c_X6_buyer 7 (E := E) (σ := fullS σ) (H := B) (w := k) (by rw [(cFr_full σ).1 74 (by omega)]; exact hB.2.1) hB.2.2
      rw [e2] at hr
      exact b_full h hc hr
    · have e : buyerC σ B k = (nI B, xu (xu (xu σ 10 1 0) 9 B k) 2 9 (nI (B + 1))) := by rw [buyerC, if_pos q1, if_neg (by omega)]
      rw [e] at hc
      obtain ⟨σ1, h1⟩ : ∃ σ1, σ1 = xu (xu (xu σ 10 1 0) 9 B k) 2 9 (nI (B + 1)) := ⟨_, rfl⟩
      rw [← h1] at hc
      have cf : cFr σ σ1 := by rw [h1]; repeat (first | exact cFr.rf _ | refine cFr.xu ?_ (by omega))
      have e2 : mBuyer σ1 B k = (nI B, xrow σ1 74 (upd (upd (upd (σ1.1 74) (21 + B) k) 2 (nI (B + 1))) 6 0)) := by rw [mBuyer, if_pos q1, if_neg q3]
      have hr := c_X6_buyer 7 (E := E) (σ := σ1) (H := B) (w := k) (by rw [cf.1 74 (by omega)]; exact hB.2.1) hB.2.2
      rw [e2, cf.1 74 (by omega)] at hr
      refine mkB h hc hr cf ((rFr.rf _).row (by omega)) (fun hi => ⟨rfl, hi.sh (fun i hi => ?_) ⟨?_, ?_, ?_⟩ (by rw [h1]; rfl) ?_⟩)
      · funext j; rw [h1]; repeat rw [xu_o (by omega)]
      · rw [h1]; repeat rw [xu_o (by omega)]
      · rw [h1]; repeat rw [xu_o (by omega)]
      · rw [h1]; repeat rw [xu_o (by omega)]
      · have hT : zT (xu σ 10 1 0) 2 (σ.1 74) 9999 P H B := hx.1.o (fun b => xu_o (by omega)) (fun i _ _ => xu_f (by omega)) (fun _ _ => rfl)
        have hT2 : zT σ1 2 (upd (upd (σ.1 74) (21 + B) k) 2 (nI (B + 1))) 9999 P H (B + 1) := by rw [h1]; exact W_addB hT (by omega) (Sm_of rfl q1.1 q1.2)
        have hT3 : zT σ1 2 (upd (upd (upd (σ.1 74) (21 + B) k) 2 (nI (B + 1))) 6 0) 9999 P H (B + 1) := hT2.o (fun _ => rfl) (fun _ _ _ => rfl) (fun j hj => upd_ne _ _ (by omega))
        refine (hx.town hT3 (zP_0 ?_ (upd_at _ _ _)) (fun i _ _ => ?_) (fun j hj => ?_)).r
        · rw [h1]; repeat rw [xu_o (by omega)]
          rw [xu_s]
        · funext j; rw [h1]; repeat rw [xu_o (by omega)]
        · repeat rw [upd_ne _ _ (by omega)]
  · have e : buyerC σ B k = (-2, badS σ) := by rw [buyerC, if_neg q1]
    rw [e] at hc
    have e2 : mBuyer (badS σ) B k = (-2, mBad (badS σ)) := by rw [mBuyer, if_neg q1]
    have hr := c_X6_buyer 7 (E := E) (σ := badS σ) (H := B) (w := k) (by rw [(cFr_bad σ).1 74 (by omega)]; exact hB.2.1) hB.2.2
    rw [e2] at hr
    exact b_bad h hc hr
