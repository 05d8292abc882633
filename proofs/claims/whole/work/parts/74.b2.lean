/-! both, call by call: the text at hand, days -/
theorem b_type {E : xE} {σ : xS} {c : Int32} (h : Inv σ σ) : Both E yX5_type cX5_type 2 (some .int) yX6_type cX6_type 2 (some .int) [.int c] σ := by
  obtain ⟨hT, L, hL, h1, h2⟩ := h.2.2.2.1
  have hc := c_X5_type 6 (E := E) (c := c) h1 hL
  by_cases q1 : btw c 0 127
  · by_cases q3 : L = 150
    · have e : typeC σ L c = (-4, fullS σ) := by rw [typeC, if_pos q1, if_pos (by omega)]
      rw [e] at hc
      have e2 : mType (fullS σ) L c = (-4, mFull (fullS σ)) := by rw [mType, if_pos q3]
      have hr := c_X6_type 7 (E := E) (σ := fullS σ) (L := L) (c := c) q1 (by rw [(cFr_full σ).1 73 (by omega)]; exact h2) hL
      rw [e2] at hr
      exact b_full h hc hr
    · have e : typeC σ L c = (nI (L + 1), xu (xu σ 53 L c) 52 2 (nI (L + 1))) := by rw [typeC, if_pos q1, if_neg (by omega)]
      rw [e] at hc
      obtain ⟨σ1, e1⟩ : ∃ σ1, σ1 = xu (xu σ 53 L c) 52 2 (nI (L + 1)) := ⟨_, rfl⟩
      rw [← e1] at hc
      have cf : cFr σ σ1 := by rw [e1]; exact ((cFr.rf _).xu (by omega)).xu (by omega)
      have e2 : mType σ1 L c = (nI (L + 1), xu (xrow σ1 82 (upd (σ1.1 82) L c)) 73 11 (nI (L + 1))) := by rw [mType, if_neg q3]
      have hr := c_X6_type 7 (E := E) (σ := σ1) (L := L) (c := c) q1 (by rw [cf.1 73 (by omega)]; exact h2) hL
      rw [e2] at hr
      refine mkB h hc hr cf (((rFr.rf _).row (by omega)).xu (by omega)) (fun hi => ⟨rfl, ?_⟩)
      obtain ⟨i1, ⟨i2, i3⟩, ⟨i4, i5⟩, ⟨i6, -⟩, i10, i12, i15⟩ := hi
      have a1 : ∀ i, i < 52 → σ1.1 i = σ.1 i := fun i hi => by rw [e1, xu_f (by omega), xu_f (by omega)]
      have b1 : ∀ i, 74 ≤ i → i ≠ 82 → (xu (xrow σ1 82 (upd (σ1.1 82) L c)) 73 11 (nI (L + 1))).1 i = σ1.1 i := fun i h1 h2 => by rw [xu_f (by omega), xrow_ne _ _ h2]
      rw [Inv, b1 74 (by omega) (by omega), b1 75 (by omega) (by omega), b1 76 (by omega) (by omega), b1 77 (by omega) (by omega), a1 18 (by omega), a1 35 (by omega), a1 0 (by omega), a1 12 (by omega), a1 14 (by omega), a1 16 (by omega)]
      refine ⟨i1.o (fun i _ _ => a1 i (by omega)) (fun _ _ => rfl), ⟨i2, fun z => (i3 z).o (fun i _ _ => a1 i (by omega)) (fun _ _ => rfl)⟩, ⟨i4, fun z => (i5 z).o (fun i _ _ => a1 i (by omega)) (fun _ _ => rfl)⟩, ⟨?_, L + 1, by omega, ?_, ?_⟩, ?_, i12, i15⟩
      · rw [xu_f (by decide), xrow_at, e1, xu_f (by decide), xu_at, ← e1, ← i6]
      · rw [e1, xu_s]
      · rw [xu_s]
      · rw [e1] at i10 ⊢; exact i10
  · have e : typeC σ L c = (-2, badS σ) := by rw [typeC, if_neg q1]
    rw [e] at hc
    exact b_bad h hc (c_X6_type_bad 7 q1)
theorem b_clear {E : xE} {σ : xS} (h : Inv σ σ) : Both E yX5_clear cX5_clear 2 (some .int) yX6_clear cX6_clear 2 (some .int) [] σ := by
  have cf : cFr σ (xu σ 52 2 0) := (cFr.rf _).xu (by omega)
  refine mkB h (c_X5_clear 8) (c_X6_clear 8) cf ((rFr.rf _).xu (by omega)) (fun hi => ?_)
  obtain ⟨σ1, e1⟩ : ∃ σ1, σ1 = xu σ 52 2 0 := ⟨_, rfl⟩
  rw [← e1] at hi ⊢
  obtain ⟨i1, ⟨i2, i3⟩, ⟨i4, i5⟩, ⟨i6, L, i7, i8, i9⟩, i10, i12, i15⟩ := hi
  refine ⟨by rw [i9, i8], ?_⟩
  have a1 : ∀ i, i ≠ 52 → σ1.1 i = σ.1 i := fun i hi => by rw [e1, xu_f (by omega)]
  have b1 : ∀ i, i ≠ 73 → (xu σ1 73 11 0).1 i = σ1.1 i := fun i h1 => by rw [xu_f h1]
  rw [Inv, b1 74 (by omega), b1 75 (by omega), b1 76 (by omega), b1 77 (by omega), b1 82 (by omega), a1 18 (by omega), a1 35 (by omega), a1 0 (by omega), a1 12 (by omega), a1 14 (by omega), a1 16 (by omega), a1 53 (by omega)]
  refine ⟨i1.o (fun i _ _ => a1 i (by omega)) (fun _ _ => rfl), ⟨i2, fun z => (i3 z).o (fun i _ _ => a1 i (by omega)) (fun _ _ => rfl)⟩, ⟨i4, fun z => (i5 z).o (fun i _ _ => a1 i (by omega)) (fun _ _ => rfl)⟩, ⟨i6, 0, by omega, ?_, ?_⟩, ?_, i12, i15⟩
  · rw [e1, xu_s]; rfl
  · rw [xu_s]; rfl
  · rw [e1] at i10 ⊢; exact i10
theorem cFr_saveAt (σ : xS) (u : Nat) : cFr σ (saveAt σ u) := by
  simp only [saveAt]
  repeat (first | exact cFr.rf _ | refine cFr.xu ?_ (by omega) | refine cFr.row ?_ (by omega))
theorem cFr_save (σ : xS) (u : Nat) : cFr σ (saveC σ u) := by
  unfold saveC
  split
  · exact (((cFr.rf σ).row (by omega)).xu (by omega)).tr (cFr_saveAt _ _)
  · exact cFr_saveAt _ _
theorem cFr_days (σ : xS) {t : Nat} (P : Nat) (m : Int32) (ht : t + 3 < 73) : cFr σ (daysTo σ t P m) := by
  refine ⟨fun i hi => ?_, rfl⟩
  funext b
  show (if i = t + 3 ∧ b < P ∧ σ.1 (t + 4) b = 0 then _ else _) = _
  rw [if_neg (by omega)]
theorem daysTo_o (σ : xS) {t a : Nat} (P : Nat) (m : Int32) (h : a ≠ t + 3) : (daysTo σ t P m).1 a = σ.1 a := by
  funext b
  show (if a = t + 3 ∧ b < P ∧ σ.1 (t + 4) b = 0 then _ else _) = _
  rw [if_neg (fun z => h z.1)]
theorem saveC_2 (σ : xS) (u : Nat) : (saveC σ u).2 = σ.2 := by
  unfold saveC
  split <;> rfl
/-- the town at hand, saved -/
theorem zT_save {σ : xS} {f : Nat → Int32} {P H B : Nat} (h : zT σ 2 f 9999 P H B) (U : Nat) : zT (saveC σ U) 2 (mSave f U) 9999 P H B :=
  h.o (fun b => saveC_o σ U b (by decide) (by decide)) (fun i h1 h2 => saveC_f σ U (by omega) (by omega)) (fun k hk => mSave_lo f U (by omega) (by omega))
theorem btw_99 {n : Int32} (h : btw n 1 99) : ∃ k, k ≤ 99 ∧ n = nI k := Sm_1 rfl h
theorem b_days {E : xE} {σ : xS} {n : Int32} (h : Inv σ σ) : Both E yX5_days cX5_days 2 (some .int) yX6_days cX6_days 2 (some .int) [.int n] σ := by
  obtain ⟨P, H, B, U, S, N, M, hx⟩ := h.x
  have hP := hx.1.1.1
  have hU := hx.2.1
  have hc := c_X5_days 4 (E := E) (n := n) hP.1 hP.2.2 hU.1 hU.2.2.1
  by_cases q1 : btw n 1 99
  · obtain ⟨k, hk, rfl⟩ := btw_99 q1
    obtain ⟨D0, d0, d1, d2, -⟩ := hx.1.2
    have e25 : (σ.1 74) 25 = nI D0 := d1
    have e10 : σ.1 2 10 = nI D0 := d2.trans d1
    have em : xmin (nI k) (9999 - σ.1 2 10) = nI (min k (9999 - D0)) := by
      rw [e10, show (9999 : Int32) - nI D0 = nI (9999 - D0) from pk_sub (a := 9999) d0]
      exact xmin_N (by omega) (by omega)
    have e : daysC σ P U (nI k) = (σ.1 2 10 + nI (min k (9999 - D0)), xu (daysTo (saveC σ U) 2 P (nI (min k (9999 - D0)))) 2 10 (σ.1 2 10 + nI (min k (9999 - D0)))) := by rw [daysC, if_pos q1, em]
    rw [e] at hc
    obtain ⟨σ1, e1⟩ : ∃ σ1, σ1 = xu (daysTo (saveC σ U) 2 P (nI (min k (9999 - D0)))) 2 10 (σ.1 2 10 + nI (min k (9999 - D0))) := ⟨_, rfl⟩
    rw [← e1] at hc
    have cf : cFr σ σ1 := by rw [e1]; exact ((cFr_save σ U).tr (cFr_days _ P _ (by omega))).xu (by omega)
    have e2 : mDays P k (mSave (σ.1 74) U) = agF (mSave (σ.1 74) U) P (min k (9999 - D0)) := mDays_ag hP.2.2 k _ D0 (by rw [mSave_lo _ _ (by omega) (by omega)]; exact e25) d0
    have hr := c_X6_days 5 (E := E) (σ := σ1) (P := P) (U := U) (n := nI k) (by rw [cf.1 74 (by omega)]; exact hP.2.1) hP.2.2 (by rw [cf.1 74 (by omega)]; exact hU.2.1) hU.2.2.1
    rw [mDaysQ, if_pos q1, nI_clamp (by omega), cf.1 74 (by omega), e2] at hr
    have e10s : (saveC σ U).1 2 10 = σ.1 2 10 := saveC_o σ U 10 (by decide) (by decide)
    refine mkB h hc hr cf ((rFr.rf _).row (by omega)) (fun hi => ⟨?_, hi.sh (fun i hi => ?_) ⟨?_, ?_, ?_⟩ (by rw [e1]; exact saveC_2 σ U) ?_⟩)
    · show Value.int (agF (mSave (σ.1 74) U) P (min k (9999 - D0)) 25) = Value.int (σ.1 2 10 + nI (min k (9999 - D0)))
      rw [agF_25 _ P _ hP.2.2, mSave_lo _ _ (by omega) (by omega), e25, e10]
    · rw [e1, xu_f (by omega), daysTo_o _ P _ (by omega), saveC_f σ U (by omega) (by omega)]
    · rw [e1, xu_f (by omega), daysTo_o _ P _ (by omega), saveC_f σ U (by omega) (by omega)]
    · rw [e1, xu_f (by omega), daysTo_o _ P _ (by omega), saveC_f σ U (by omega) (by omega)]
    · rw [e1, xu_f (by omega), daysTo_o _ P _ (by omega), saveC_f σ U (by omega) (by omega)]
    · have hT : zT σ1 2 (agF (mSave (σ.1 74) U) P (min k (9999 - D0))) 9999 P H B := by
        rw [e1, ← e10s]
        refine W_days (zT_save hx.1 U) (fun D1 h1 h2 => ?_)
        rw [mSave_lo _ _ (by omega) (by omega), e25] at h1
        have := (nI_eq (by omega) (by omega)).mp h1
        omega
      refine (hx.town hT ((W_save hx.1 hU).mv hP.2.2 hx.1.1.2.2.1.2.2 ?_ (fun k _ => ?_) (fun j hj => ?_)) (fun i _ _ => ?_) (fun j hj => ?_)).r
      · rw [e1, xu_f (by omega), daysTo_o _ P _ (by omega)]
      · rw [e1, xu_f (by omega), daysTo_o _ P _ (by omega)]
      · exact agF_o _ P _ hP.2.2 (by omega)
      · rw [e1, xu_f (by omega), daysTo_o _ P _ (by omega), saveC_f σ U (by omega) (by omega)]
      · rw [agF_o _ P _ hP.2.2 (by omega), mSave_lo _ _ (by omega) (by omega)]
  · have e : daysC σ P U n = (-2, badS σ) := by rw [daysC, if_neg q1]
    rw [e] at hc
    have hr := c_X6_days 5 (E := E) (σ := badS σ) (P := P) (U := U) (n := n) (by rw [(cFr_bad σ).1 74 (by omega)]; exact hP.2.1) hP.2.2 (by rw [(cFr_bad σ).1 74 (by omega)]; exact hU.2.1) hU.2.2.1
    rw [mDaysQ, if_neg q1] at hr
    exact b_bad h hc hr
/-! what may be bought, what is held -/
theorem zT.may {σ : xS} {f : Nat → Int32} {P H B b p : Nat} {t : Nat} {D : Nat} (h : zT σ t f D P H B) (hD : D ≤ 19000) (ht : TownAt t) (hb : b < B) (hp : p < P) : canB σ t (nI b) (nI p) ↔ mayF f b p := by
  have hpr := h.pr hD ht hp
  obtain ⟨⟨⟨a1, a2, a3⟩, -, ⟨c1, c2, c3⟩, -⟩, D0, -, -, -, -, m3, -, m5⟩ := h
  obtain ⟨-, -, -, -, -, -, -, -, l1, l2, l3, l4, l5, l6, l7⟩ := ht
  have hh1 : hasIn (σ.1 t 9) (nI b) := by rw [c1]; exact hasIn_of (by omega) hb
  have hh2 : hasIn (σ.1 t 7) (nI p) := by rw [a1]; exact hasIn_of (by omega) hp
  have e4 : xat σ (t + 4) (nI p) = f (7 + p) := by rw [xat_nI (by omega)]; exact (m3 p hp).1
  have e7 : xat σ (t + 7) (nI b) = f (21 + b) := by rw [xat_nI (by omega)]; exact (m5 b hb).1
  show (hasIn (σ.1 t 9) (nI b) ∧ (hasIn (σ.1 t 7) (nI p) ∧ xat σ (t + 4) (nI p) = 0) ∧ prB σ t (nI p) ≤ xat σ (t + 7) (nI b)) ↔ (f (7 + p) = 0 ∧ priceF f p ≤ f (21 + b))
  rw [e4, e7, hpr.1, hpr.2]
  exact ⟨fun z => ⟨z.2.1.2, z.2.2⟩, fun z => ⟨hh1, ⟨hh2, z.1⟩, z.2⟩⟩
theorem zT.hd {σ : xS} {f : Nat → Int32} {P H B p : Nat} {t : Nat} {D : Nat} (h : zT σ t f D P H B) (ht : TownAt t) (hp : p < P) : held σ t (nI p) ↔ heldF f p := by
  obtain ⟨⟨⟨a1, a2, a3⟩, ⟨-, -, b3⟩, -, -⟩, D0, -, -, -, -, m3, -, -⟩ := h
  obtain ⟨-, -, -, -, -, -, -, -, l1, l2, l3, l4, l5, l6, l7⟩ := ht
  have hh2 : hasIn (σ.1 t 7) (nI p) := by rw [a1]; exact hasIn_of (by omega) hp
  have e4 : xat σ (t + 4) (nI p) = f (7 + p) := by rw [xat_nI (by omega)]; exact (m3 p hp).1
  have hok : PlOK H (f (7 + p)) := (m3 p hp).2
  show (hasIn (σ.1 t 7) (nI p) ∧ 1 ≤ xat σ (t + 4) (nI p) ∧ xat σ (t + 4) (nI p) ≤ 3) ↔ (1 ≤ f (7 + p) ∧ f (7 + p) < 10)
  rw [e4]
  rcases hok with z | ⟨b, hb, z⟩ | ⟨k, hk, z⟩
  · rw [z]; exact ⟨fun y => absurd y.2.1 (by decide), fun y => absurd y.1 (by decide)⟩
  · rw [z]
    exact ⟨fun y => ⟨y.2.1, show nI (1 + b) < nI 10 from nI_lt (by omega) (by omega)⟩, fun y => ⟨hh2, y.1, show nI (1 + b) ≤ nI 3 from nI_le (by omega) (by omega)⟩⟩
  · rw [z]
    exact ⟨fun y => absurd y.2.2 (show ¬ nI (10 + k) ≤ nI 3 from nI_ge (by omega) (by omega)), fun y => absurd y.2 (show ¬ nI (10 + k) < nI 10 from nI_nlt (by omega) (by omega))⟩
theorem xput_fo {σ : xS} {r a : Nat} {i v : Int32} (h : a ≠ r) : (xput σ r i v).1 a = σ.1 a := xput_f h
theorem xput_2 (σ : xS) (r : Nat) (i v : Int32) : (xput σ r i v).2 = σ.2 := by
  unfold xput
  split
  · rfl
  · split <;> rfl
theorem b_buys {E : xE} {σ : xS} {b p : Int32} (h : Inv σ σ) : Both E yX5_buys cX5_buys 4 (some .int) yX6_buys cX6_buys 3 (some .int) [.int b, .int p] σ := by
  obtain ⟨P, H, B, U, S, N, M, hx⟩ := h.x
  have hP := hx.1.1.1
  have hB := hx.1.1.2.2.1
  have hU := hx.2.1
  have hc := c_X5_buys 3 (E := E) (b := b) (p := p) hU.1 hU.2.2.1
  by_cases q1 : hasIn (σ.1 2 9) b
  · by_cases q2 : hasIn (σ.1 2 7) p
    · obtain ⟨b', hb, rfl⟩ := hasIn_nI (by omega) (hB.1 ▸ q1)
      obtain ⟨p', hp, rfl⟩ := hasIn_nI (by omega) (hP.1 ▸ q2)
      have hm := hx.1.may (by omega) town_now hb hp
      by_cases q3 : mayF (σ.1 74) b' p'
      · have hT := zT_save hx.1 U
        have hmS : mayF (mSave (σ.1 74) U) b' p' := by
          have e1 : priceF (mSave (σ.1 74) U) p' = priceF (σ.1 74) p' := by
            rw [priceF, priceF, goodF, goodF, mSave_lo _ _ (by omega) (by omega), mSave_lo _ _ (by omega) (by omega), mSave_lo _ _ (by omega) (by omega)]
          show mSave (σ.1 74) U (7 + p') = 0 ∧ priceF (mSave (σ.1 74) U) p' ≤ mSave (σ.1 74) U (21 + b')
          rw [e1, mSave_lo _ _ (by omega) (by omega), mSave_lo _ _ (by omega) (by omega)]
          exact q3
        have hW := W_sell hT (by omega) town_now hb hp hmS
        rw [buysC, if_pos q1, if_pos q2, if_pos (hm.mpr q3)] at hc
        dsimp only at hc
        obtain ⟨σ1, e1⟩ : ∃ σ1, σ1 = xput (xput (saveC σ U) 9 (nI b') (xat (saveC σ U) 9 (nI b') - prB (saveC σ U) 2 (nI p'))) 6 (nI p') (1 + nI b') := ⟨_, rfl⟩
        rw [← e1] at hc
        have hW : zT σ1 2 (mGoBuy (mSave (σ.1 74) U) b' p') 9999 P H B := by rw [e1]; exact hW
        have cf : cFr σ σ1 := by rw [e1]; exact cFr_xput (cFr_xput (cFr_save σ U) (by omega)) (by omega)
        have hr := c_X6_buys 4 (E := E) (σ := σ1) (P := P) (B := B) (U := U) (b := b') (p := p') (by rw [cf.1 74 (by omega)]; exact hP.2.1) hP.2.2 (by rw [cf.1 74 (by omega)]; exact hB.2.1) hB.2.2 (by rw [cf.1 74 (by omega)]; exact hU.2.1) hU.2.2.1 hb hp
        rw [mBuys, cf.1 74 (by omega), if_pos q3] at hr
        have oth : ∀ i, i ≠ 6 → i ≠ 9 → i ≠ 10 → i ≠ 11 → σ1.1 i = σ.1 i := fun i a b c d => by rw [e1, xput_f a, xput_f b, saveC_f σ U c d]
        refine mkB h hc hr cf ((rFr.rf _).row (by omega)) (fun hi => ⟨?_, hi.sh (fun i hi => oth i (by omega) (by omega) (by omega) (by omega)) ⟨?_, ?_, ?_⟩ (by rw [e1, xput_2, xput_2]; exact saveC_2 σ U) ?_⟩)
        · obtain ⟨D0, -, -, -, -, -, -, m5⟩ := hW.2
          have l7 : xlen 9 = 3 := by decide
          show Value.int (mGoBuy (mSave (σ.1 74) U) b' p' (21 + b')) = Value.int (xat σ1 9 (nI b'))
          rw [xat_nI (by omega)]
          exact congrArg Value.int (m5 b' hb).1.symm
        · rw [oth 12 (by omega) (by omega) (by omega) (by omega)]
        · rw [oth 14 (by omega) (by omega) (by omega) (by omega)]
        · rw [oth 16 (by omega) (by omega) (by omega) (by omega)]
        · refine (hx.town hW ((W_save hx.1 hU).mv hP.2.2 hB.2.2 ?_ (fun k _ => ?_) (fun j hj => ?_)) (fun i _ _ => oth i (by omega) (by omega) (by omega) (by omega)) (fun j hj => ?_)).r
          · rw [e1, xput_f (by decide), xput_f (by decide)]
          · rw [e1, xput_f (by decide), xput_f (by decide)]
          · rw [mGoBuy, upd_ne _ _ (by omega), upd_ne _ _ (by omega)]
          · rw [mGoBuy, upd_ne _ _ (by omega), upd_ne _ _ (by omega), mSave_lo _ _ (by omega) (by omega)]
      · rw [buysC, if_pos q1, if_pos q2, if_neg (fun z => q3 (hm.mp z))] at hc
        have hr := c_X6_buys 4 (E := E) (σ := noS σ) (P := P) (B := B) (U := U) (b := b') (p := p') (by rw [(cFr_no σ).1 74 (by omega)]; exact hP.2.1) hP.2.2 (by rw [(cFr_no σ).1 74 (by omega)]; exact hB.2.1) hB.2.2 (by rw [(cFr_no σ).1 74 (by omega)]; exact hU.2.1) hU.2.2.1 hb hp
        rw [mBuys, (cFr_no σ).1 74 (by omega), if_neg q3] at hr
        exact b_no h hc hr
    · rw [buysC, if_pos q1, if_neg q2] at hc
      refine b_bad h hc (c_X6_buys_bad 4 (fun z => q2 ?_))
      rw [(cFr_bad σ).1 74 (by omega), hP.2.1] at z
      rw [hP.1]; exact z.2
  · rw [buysC, if_neg q1] at hc
    refine b_bad h hc (c_X6_buys_bad 4 (fun z => q1 ?_))
    rw [(cFr_bad σ).1 74 (by omega), hB.2.1] at z
    rw [hB.1]; exact z.1
theorem b_keeps {E : xE} {σ : xS} {p g : Int32} (h : Inv σ σ) : Both E yX5_keeps cX5_keeps 4 (some .int) yX6_keeps cX6_keeps 3 (some .int) [.int p, .int g] σ := by
  obtain ⟨P, H, B, U, S, N, M, hx⟩ := h.x
  have hP := hx.1.1.1
  have hH := hx.1.1.2.1
  have hU := hx.2.1
  have hc := c_X5_keeps 3 (E := E) (p := p) (h := g) hU.1 hU.2.2.1
  by_cases q1 : hasIn (σ.1 2 7) p
  · by_cases q2 : hasIn (σ.1 2 8) g
    · obtain ⟨p', hp, rfl⟩ := hasIn_nI (by omega) (hP.1 ▸ q1)
      obtain ⟨g', hg, rfl⟩ := hasIn_nI (by omega) (hH.1 ▸ q2)
      have hm := hx.1.hd town_now hp
      by_cases q3 : heldF (σ.1 74) p'
      · have hT := zT_save hx.1 U
        have hW := W_give hT (by omega) town_now hp hg
        have hj := hT.jo (by omega) town_now hp hg
        rw [keepsC, if_pos q1, if_pos q2, if_pos (hm.mpr q3)] at hc
        obtain ⟨σ1, e1⟩ : ∃ σ1, σ1 = xput (xu (saveC σ U) 2 11 ((saveC σ U).1 2 11 + jB (saveC σ U) 2 (nI p') (nI g'))) 6 (nI p') (10 + nI g') := ⟨_, rfl⟩
        rw [← e1] at hc
        have hW : zT σ1 2 (mGoKeep (mSave (σ.1 74) U) p' g') 9999 P H B := by rw [e1]; exact hW
        have cf : cFr σ σ1 := by rw [e1]; exact cFr_xput ((cFr_save σ U).xu (by omega)) (by omega)
        have hr := c_X6_keeps 4 (E := E) (σ := σ1) (P := P) (H := H) (U := U) (p := p') (h := g') (by rw [cf.1 74 (by omega)]; exact hP.2.1) hP.2.2 (by rw [cf.1 74 (by omega)]; exact hH.2.1) hH.2.2 (by rw [cf.1 74 (by omega)]; exact hU.2.1) hU.2.2.1 hp hg
        rw [mKeeps, cf.1 74 (by omega), if_pos q3] at hr
        have oth : ∀ i, i ≠ 6 → i ≠ 2 → i ≠ 10 → i ≠ 11 → σ1.1 i = σ.1 i := fun i a b c d => by rw [e1, xput_f a, xu_f b, saveC_f σ U c d]
        refine mkB h hc hr cf ((rFr.rf _).row (by omega)) (fun hi => ⟨?_, hi.sh (fun i hi => oth i (by omega) (by omega) (by omega) (by omega)) ⟨?_, ?_, ?_⟩ (by rw [e1, xput_2]; exact saveC_2 σ U) ?_⟩)
        · have e3 : joyF (mGoKeep (mSave (σ.1 74) U) p' g') p' g' = joyF (mSave (σ.1 74) U) p' g' := by
            have q : ∀ k, k ≠ 24 → k ≠ 7 + p' → mGoKeep (mSave (σ.1 74) U) p' g' k = mSave (σ.1 74) U k := fun k a b => by rw [mGoKeep, upd_ne _ _ (by omega), upd_ne _ _ (by omega)]
            rw [joyF, joyF, goodF, goodF, q (40 + g') (by omega) (by omega), q (44 + g') (by omega) (by omega), q (26 + p') (by omega) (by omega), q (33 + p') (by omega) (by omega), q (14 + p') (by omega) (by omega)]
          exact congrArg Value.int (e3.trans (hj.2.trans hj.1.symm))
        · rw [oth 12 (by omega) (by omega) (by omega) (by omega)]
        · rw [oth 14 (by omega) (by omega) (by omega) (by omega)]
        · rw [oth 16 (by omega) (by omega) (by omega) (by omega)]
        · refine (hx.town hW ((W_save hx.1 hU).mv hP.2.2 hx.1.1.2.2.1.2.2 ?_ (fun k _ => ?_) (fun j hj => ?_)) (fun i _ _ => oth i (by omega) (by omega) (by omega) (by omega)) (fun j hj => ?_)).r
          · rw [e1, xput_f (by decide), xu_f (by decide)]
          · rw [e1, xput_f (by decide), xu_f (by decide)]
          · rw [mGoKeep, upd_ne _ _ (by omega), upd_ne _ _ (by omega)]
          · rw [mGoKeep, upd_ne _ _ (by omega), upd_ne _ _ (by omega), mSave_lo _ _ (by omega) (by omega)]
      · rw [keepsC, if_pos q1, if_pos q2, if_neg (fun z => q3 (hm.mp z))] at hc
        have hr := c_X6_keeps 4 (E := E) (σ := noS σ) (P := P) (H := H) (U := U) (p := p') (h := g') (by rw [(cFr_no σ).1 74 (by omega)]; exact hP.2.1) hP.2.2 (by rw [(cFr_no σ).1 74 (by omega)]; exact hH.2.1) hH.2.2 (by rw [(cFr_no σ).1 74 (by omega)]; exact hU.2.1) hU.2.2.1 hp hg
        rw [mKeeps, (cFr_no σ).1 74 (by omega), if_neg q3] at hr
        exact b_no h hc hr
    · rw [keepsC, if_pos q1, if_neg q2] at hc
      refine b_bad h hc (c_X6_keeps_bad 4 (fun z => q2 ?_))
      rw [(cFr_bad σ).1 74 (by omega), hH.2.1] at z
      rw [hH.1]; exact z.2
  · rw [keepsC, if_neg q1] at hc
    refine b_bad h hc (c_X6_keeps_bad 4 (fun z => q1 ?_))
    rw [(cFr_bad σ).1 74 (by omega), hP.2.1] at z
    rw [hP.1]; exact z.1
theorem cFr_back (σ : xS) (u : Nat) : cFr σ (backAt σ u) := by
  simp only [backAt]
  repeat (first | exact cFr.rf _ | refine cFr.xu ?_ (by omega) | refine cFr.row ?_ (by omega))
theorem b_undo {E : xE} {σ : xS} (h : Inv σ σ) : Both E yX5_undo cX5_undo 1 (some .int) yX6_undo cX6_undo 2 (some .int) [] σ := by
  obtain ⟨P, H, B, U, S, N, M, hx⟩ := h.x
  have hU := hx.2.1
  have hc := c_X5_undo 5 (E := E) hU.1 hU.2.2.1
  cases U with
  | zero =>
    have hr := c_X6_undo 7 (E := E) (σ := noS σ) (U := 0) (by rw [(cFr_no σ).1 74 (by omega)]; exact hU.2.1) hU.2.2.1
    rw [mUndo, if_pos rfl] at hr
    exact b_no h hc hr
  | succ u =>
    have hr := c_X6_undo 7 (E := E) (σ := backAt σ u) (U := u + 1) (by rw [(cFr_back σ u).1 74 (by omega)]; exact hU.2.1) hU.2.2.1
    rw [mUndo, if_neg (by omega), (cFr_back σ u).1 74 (by omega)] at hr
    obtain ⟨w1, w2⟩ := W_back hx.1.1 hU
    have oth : ∀ i, i ≠ 5 → i ≠ 6 → i ≠ 9 → i ≠ 2 → i ≠ 10 → (backAt σ u).1 i = σ.1 i := fun i a b c d e => by funext k; exact backAt_o σ u a b c (by omega) (by omega)
    refine mkB h hc hr (cFr_back σ u) ((rFr.rf _).row (by omega)) (fun hi => ⟨?_, hi.sh (fun i hi => oth i (by omega) (by omega) (by omega) (by omega) (by omega)) ⟨?_, ?_, ?_⟩ rfl ?_⟩)
    · obtain ⟨D0, -, -, m1, -⟩ := w1.2
      exact congrArg Value.int m1.symm
    · exact congrFun (oth 12 (by omega) (by omega) (by omega) (by omega) (by omega)) 0
    · exact congrFun (oth 14 (by omega) (by omega) (by omega) (by omega) (by omega)) 0
    · exact congrFun (oth 16 (by omega) (by omega) (by omega) (by omega) (by omega)) 0
    · exact (hx.town w1 w2 (fun i _ _ => oth i (by omega) (by omega) (by omega) (by omega) (by omega)) (fun j hj => mBack_o _ _ (by omega))).r
