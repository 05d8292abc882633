/-! the class's reader at a place -/
def CB (σ : xS) (T : Nat → Int32) (L a : Nat) : Prop := σ.1 53 = T ∧ σ.1 52 2 = nI L ∧ L ≤ 150 ∧ a ≤ L ∧ σ.1 52 3 = -1 ∧ σ.1 52 7 = nI a
def TA (σ : xS) (T : Nat → Int32) (L a : Nat) : Prop := σ.1 52 5 = tK T L a ∧ σ.1 52 6 = nI (tS T L a) ∧ σ.1 52 8 = tV T L a
def FA (σ : xS) (x : Nat) : Prop := x ≤ 150 ∧ σ.1 52 3 = nI x
/-- the rest of the world, and the count of items, stay -/
def KQ (σ τ : xS) : Prop := ((∀ i, i ≠ 52 → i < 54 ∨ 62 ≤ i → τ.1 i = σ.1 i) ∧ τ.1 52 2 = σ.1 52 2 ∧ τ.2 = σ.2) ∧ τ.1 52 4 = σ.1 52 4
theorem KQ.rf (σ : xS) : KQ σ σ := ⟨⟨fun _ _ _ => rfl, rfl, rfl⟩, rfl⟩
theorem KQ.tr {σ τ υ : xS} (h : KQ σ τ) (h2 : KQ τ υ) : KQ σ υ := ⟨⟨fun i a b => (h2.1.1 i a b).trans (h.1.1 i a b), h2.1.2.1.trans h.1.2.1, h2.1.2.2.trans h.1.2.2⟩, h2.2.trans h.2⟩
theorem adv_2 (σ : xS) : (adv σ).2 = σ.2 := by
  unfold adv
  split <;> rfl
theorem failS_2 (σ : xS) : (failS σ).2 = σ.2 := by
  unfold failS
  split <;> rfl
theorem KQ_adv (σ : xS) : KQ σ (adv σ) := ⟨⟨fun i a _ => adv_f σ a, adv_k σ (by decide) (by decide) (by decide) (by decide), adv_2 σ⟩, adv_k σ (by decide) (by decide) (by decide) (by decide)⟩
theorem KQ_fail (σ : xS) : KQ σ (failS σ) := ⟨⟨fun i a _ => failS_f σ a, failS_k σ (by decide), failS_2 σ⟩, failS_k σ (by decide)⟩
theorem KQ_rn (σ : xS) (lo hi : Int32) : KQ σ (rnS σ lo hi) := by
  unfold rnS
  split
  · exact KQ_adv σ
  · exact (KQ_adv σ).tr (KQ_fail _)
theorem KQ_dr {σ τ : xS} (h : ∀ i, i < 54 ∨ 62 ≤ i → τ.1 i = σ.1 i) (h2 : τ.2 = σ.2) : KQ σ τ := ⟨⟨fun i _ b => h i b, by rw [h 52 (by omega)], h2⟩, by rw [h 52 (by omega)]⟩
theorem CB.av {σ : xS} {T : Nat → Int32} {L a : Nat} (h : CB σ T L a) : CB (adv σ) T L (tN T L a) ∧ TA (adv σ) T L a := by
  obtain ⟨h1, h2, h3, h4, h5, h6⟩ := h
  have e : adv σ = setR σ (tK T L a) (nI (tS T L a)) (nI (tN T L a)) (tV T L a) := by
    rw [adv, if_pos h5, h2, h6, nI_clamp (by omega), nI_clamp (by omega), advT, h1]
  have hN := tN_le T h4
  rw [e]
  refine ⟨⟨?_, ?_, h3, hN, ?_, ?_⟩, ?_, ?_, ?_⟩
  · rw [← h1]; funext b; simp [setR]
  · rw [← h2]; simp [setR]
  · rw [← h5]; simp [setR]
  · simp [setR]
  · simp [setR]
  · simp [setR]
  · simp [setR]
theorem CB.o {σ τ : xS} {T : Nat → Int32} {L a : Nat} (h : CB σ T L a) (e1 : τ.1 52 = σ.1 52) (e2 : τ.1 53 = σ.1 53) : CB τ T L a := by
  unfold CB
  rw [e1, e2]
  exact h
theorem FA.ne {σ : xS} {x : Nat} (h : FA σ x) : ¬ σ.1 52 3 = -1 := by rw [h.2]; exact nI_m1 (by have := h.1; omega)
theorem FA_adv {σ : xS} {x : Nat} (h : FA σ x) : adv σ = σ := by rw [adv, if_neg h.ne]
theorem FA_fail {σ : xS} {x : Nat} (h : FA σ x) : failS σ = σ := by rw [failS, if_neg h.ne]
theorem FA_rn {σ : xS} {x : Nat} (h : FA σ x) (lo hi : Int32) : rnS σ lo hi = σ := by
  rw [rnS, FA_adv h, FA_fail h]
  split <;> rfl
theorem FA_stop {σ : xS} {x : Nat} (h : FA σ x) : stopS σ = σ := by
  have e : stop0 σ = σ := by
    rw [stop0, FA_adv h, FA_fail h]
    split <;> rfl
  rw [stopS, e, if_neg h.ne]
theorem fail_FA {σ : xS} {T : Nat → Int32} {L a b : Nat} (h : CB σ T L b) (ht : TA σ T L a) (ha : a ≤ L) : FA (failS σ) (tS T L a) := by
  have h1 := tS_le T ha
  refine ⟨by have := h.2.2.1; omega, ?_⟩
  rw [failS, if_pos h.2.2.2.2.1, xu_s]
  exact ht.2.1
theorem rn_ok {σ : xS} {T : Nat → Int32} {L a : Nat} {lo hi : Int32} (h : CB σ T L a) (q : nbA T L a lo hi) : rnS σ lo hi = adv σ := by
  obtain ⟨-, t1, -, t3⟩ := h.av
  rw [rnS, if_pos (by rw [t1, t3]; exact q)]
theorem rn_no {σ : xS} {T : Nat → Int32} {L a : Nat} {lo hi : Int32} (h : CB σ T L a) (q : ¬ nbA T L a lo hi) : FA (rnS σ lo hi) (tS T L a) := by
  obtain ⟨h1, t1, t2, t3⟩ := h.av
  rw [rnS, if_neg (by rw [t1, t3]; exact q)]
  exact fail_FA h1 ⟨t1, t2, t3⟩ h.2.2.2.1
theorem zT_rd {σ τ : xS} {f : Nat → Int32} {D P H B : Nat} (h : zT σ 54 f D P H B) (hr : ∀ i, i ≠ 52 → τ.1 i = σ.1 i) : zT τ 54 f D P H B :=
  h.o (fun b => by rw [hr 54 (by decide)]) (fun i h1 h2 => hr i (by omega)) (fun _ _ => rfl)
theorem adv_o (σ : xS) : ∀ i, i ≠ 52 → (adv σ).1 i = σ.1 i := fun i h => adv_f σ h
/-- what an item without its end does -/
def BO (σ τ : xS) (T : Nat → Int32) (L : Nat) (o : Bool × Nat × (Nat → Int32)) : Prop := KQ σ τ ∧ ((o.1 = true ∧ CB τ T L o.2.1 ∧ ∃ P H B, zT τ 54 o.2.2 (50 * o.2.1) P H B) ∨ (o.1 = false ∧ FA τ (tS T L o.2.1)))
theorem BO_two {σ : xS} {T : Nat → Int32} {L a1 : Nat} {f : Nat → Int32} {D P H B P' H' B' : Nat} (g : Int32 → Int32 → Nat → Int32) (ad : xS → Int32 → Int32 → xS) (h : CB σ T L a1) (hz : zT σ 54 f D P H B) (hD : D ≤ 50 * a1)
    (hk : ∀ τ k w, KQ τ (ad τ k w) ∧ (ad τ k w).1 52 = τ.1 52 ∧ (ad τ k w).1 53 = τ.1 53) (hW : ∀ τ k w, zT τ 54 f D P H B → Sm 9 w → zT (ad τ k w) 54 (g k w) D P' H' B') :
    BO σ (if (rnS (rnS σ 0 5) 1 9).1 52 3 = -1 then ad (rnS (rnS σ 0 5) 1 9) ((rnS σ 0 5).1 52 8) ((rnS (rnS σ 0 5) 1 9).1 52 8) else rnS (rnS σ 0 5) 1 9) T L (aTwo T L a1 f g) := by
  by_cases q1 : nbA T L a1 0 5
  · obtain ⟨c1, t1⟩ := h.av
    have e1 := rn_ok h q1
    by_cases q2 : nbA T L (tN T L a1) 1 9
    · obtain ⟨c2, t2⟩ := c1.av
      have e2 := rn_ok c1 q2
      rw [e1, e2, if_pos c2.2.2.2.2.1, aTwo, if_pos q1, if_pos q2, t1.2.2, t2.2.2]
      obtain ⟨k1, k2, k3⟩ := hk (adv (adv σ)) (tV T L a1) (tV T L (tN T L a1))
      have u1 := tN_up T L a1
      have u2 := tN_up T L (tN T L a1)
      refine ⟨((KQ_adv σ).tr (KQ_adv _)).tr k1, Or.inl ⟨rfl, c2.o k2 k3, P', H', B', ?_⟩⟩
      exact (hW _ _ _ (zT_rd (zT_rd hz (adv_o σ)) (adv_o _)) (Sm_1 rfl q2.2)).mono (by dsimp only; omega)
    · have e2 := rn_no c1 q2
      rw [e1, if_neg e2.ne, aTwo, if_pos q1, if_neg q2]
      exact ⟨(KQ_adv σ).tr (KQ_rn _ _ _), Or.inr ⟨rfl, e2⟩⟩
  · have e1 := rn_no h q1
    rw [FA_rn e1, if_neg e1.ne, aTwo, if_neg q1]
    exact ⟨KQ_rn _ _ _, Or.inr ⟨rfl, e1⟩⟩
theorem BO_pro {σ : xS} {T : Nat → Int32} {L a1 : Nat} {f : Nat → Int32} {D P H B : Nat} (h : CB σ T L a1) (hz : zT σ 54 f D P H B) (hD : D ≤ 50 * a1) (hP : P < 7) : BO σ (iPro σ) T L (aTwo T L a1 f (fun k w => mLay f P k w)) := by
  have cP : (σ.1 54 7).toNatClampNeg = P := by rw [hz.1.1.1, nI_clamp (by omega)]
  rw [iPro, cP]
  refine BO_two (fun k w => mLay f P k w) (fun τ k w => addPr τ 54 P k w) h hz hD (fun τ k w => ⟨KQ_dr (fun i hi => ?_) rfl, ?_, ?_⟩) (fun τ k w hz hw => W_addP hz hP hw)
  · funext b; rw [addPr]; repeat rw [xu_o (by omega)]
  · funext b; rw [addPr]; repeat rw [xu_o (by omega)]
  · funext b; rw [addPr]; repeat rw [xu_o (by omega)]
theorem BO_hea {σ : xS} {T : Nat → Int32} {L a1 : Nat} {f : Nat → Int32} {D P H B : Nat} (h : CB σ T L a1) (hz : zT σ 54 f D P H B) (hD : D ≤ 50 * a1) (hH : H < 4) : BO σ (iHea σ) T L (aTwo T L a1 f (fun k w => upd (upd (upd f (40 + H) k) (44 + H) w) 1 (nI (H + 1)))) := by
  have cP : (σ.1 54 8).toNatClampNeg = H := by rw [hz.1.2.1.1, nI_clamp (by omega)]
  rw [iHea, cP]
  refine BO_two (fun k w => upd (upd (upd f (40 + H) k) (44 + H) w) 1 (nI (H + 1))) (fun τ k w => addHe τ 54 H k w) h hz hD (fun τ k w => ⟨KQ_dr (fun i hi => ?_) rfl, ?_, ?_⟩) (fun τ k w hz hw => W_addH hz hH hw)
  · funext b; rw [addHe]; repeat rw [xu_o (by omega)]
  · funext b; rw [addHe]; repeat rw [xu_o (by omega)]
  · funext b; rw [addHe]; repeat rw [xu_o (by omega)]
theorem BO_buy {σ : xS} {T : Nat → Int32} {L a1 : Nat} {f : Nat → Int32} {D P H B : Nat} (h : CB σ T L a1) (hz : zT σ 54 f D P H B) (hD : D ≤ 50 * a1) (hB : B < 3) : BO σ (iBuy σ) T L (if nbA T L a1 0 99 then (true, tN T L a1, upd (upd f (21 + B) (tV T L a1)) 2 (nI (B + 1))) else (false, a1, f)) := by
  have cP : (σ.1 54 9).toNatClampNeg = B := by rw [hz.1.2.2.1.1, nI_clamp (by omega)]
  rw [iBuy, cP]
  by_cases q1 : nbA T L a1 0 99
  · obtain ⟨c1, t1⟩ := h.av
    have u1 := tN_up T L a1
    rw [rn_ok h q1, if_pos c1.2.2.2.2.1, if_pos q1, t1.2.2]
    refine ⟨(KQ_adv σ).tr (KQ_dr (fun i hi => ?_) rfl), Or.inl ⟨rfl, c1.o ?_ ?_, P, H, B + 1, ?_⟩⟩
    · funext b; rw [addBu]; repeat rw [xu_o (by omega)]
    · funext b; rw [addBu]; repeat rw [xu_o (by omega)]
    · funext b; rw [addBu]; repeat rw [xu_o (by omega)]
    · exact (W_addB (zT_rd hz (adv_o σ)) hB ((Sm_of (n := 99) rfl q1.2.1 q1.2.2).mono (by omega))).mono (by dsimp only; omega)
  · have e1 := rn_no h q1
    rw [if_neg e1.ne, if_neg q1]
    exact ⟨KQ_rn _ _ _, Or.inr ⟨rfl, e1⟩⟩
theorem tN_num {T : Nat → Int32} {L a : Nat} (h : tK T L a = 2) : tS T L a < tN T L a := by
  unfold tK at h
  split at h
  · exact absurd h (by decide)
  · rename_i h1
    split at h
    · exact absurd h (by decide)
    · rename_i h2
      split at h
      · rename_i h3
        rw [tN, if_neg h1, if_neg h2, if_pos h3, eorF]
        obtain ⟨n, hn⟩ : ∃ n, L - tS T L a = n + 1 := ⟨L - tS T L a - 1, by omega⟩
        rw [hn, eor, if_pos h3]
        exact eor_ge _ n _
      · split at h <;> exact absurd h (by decide)
theorem BO_day {σ : xS} {T : Nat → Int32} {L a1 : Nat} {f : Nat → Int32} {D P H B : Nat} (h : CB σ T L a1) (hz : zT σ 54 f D P H B) (hD : D + 50 ≤ 50 * a1) : BO σ (iDay σ) T L (if nbA T L a1 1 99 then (true, tN T L a1, mDays P (tV T L a1).toNatClampNeg f) else (false, a1, f)) := by
  have hP7 := hz.1.1.2.2
  have cP : (σ.1 54 7).toNatClampNeg = P := by rw [hz.1.1.1, nI_clamp (by omega)]
  rw [iDay, cP]
  by_cases q1 : nbA T L a1 1 99
  · obtain ⟨c1, t1⟩ := h.av
    have u1 := tS_ge T L a1
    have u2 := tN_num q1.1
    obtain ⟨n, hn, en⟩ : Sm 99 (tV T L a1) := Sm_1 rfl q1.2
    obtain ⟨D0, d0, d1, -⟩ := id hz.2
    have d1 : f 25 = nI D0 := d1
    have hL := h.2.2.1
    have ha := h.2.2.2.1
    have hnL := tN_le T ha
    rw [rn_ok h q1, if_pos c1.2.2.2.2.1, if_pos q1, t1.2.2, en, nI_clamp (by omega), mDays_ag hP7 n f D0 d1 (by omega), show min n (9999 - D0) = n by omega]
    refine ⟨(KQ_adv σ).tr (KQ_dr (fun i hi => ?_) rfl), Or.inl ⟨rfl, c1.o ?_ ?_, P, H, B, ?_⟩⟩
    · rw [xu_f (by omega), daysTo_o _ _ _ (by omega)]
    · rw [xu_f (by omega), daysTo_o _ _ _ (by omega)]
    · rw [xu_f (by omega), daysTo_o _ _ _ (by omega)]
    · exact W_days (zT_rd hz (adv_o σ)) (fun D1 h1 h2 => by dsimp only; omega)
  · have e1 := rn_no h q1
    rw [if_neg e1.ne, if_neg q1]
    exact ⟨KQ_rn _ _ _, Or.inr ⟨rfl, e1⟩⟩
theorem FA_canB {σ : xS} {x : Nat} (h : FA σ x) (b p : Int32) : (if canB σ 54 b p then σ else failS σ) = σ := by
  rw [FA_fail h]; split <;> rfl
theorem BO_sel {σ : xS} {T : Nat → Int32} {L a1 : Nat} {f : Nat → Int32} {D P H B : Nat} (h : CB σ T L a1) (hz : zT σ 54 f D P H B) (hD : D ≤ 50 * a1) : BO σ (iSel σ) T L (aSel T L a1 f P B) := by
  have hP := hz.1.1
  have hB := hz.1.2.2.1
  have hL := h.2.2.1
  have ha := h.2.2.2.1
  by_cases q1 : nbA T L a1 0 (nI B - 1)
  · obtain ⟨c1, t1⟩ := h.av
    have e1 : rnS σ 0 (σ.1 54 9 - 1) = adv σ := rn_ok h (by rw [hB.1]; exact q1)
    obtain ⟨b, hb, eb⟩ := hasIn_nI (n := B) (by omega) q1.2
    by_cases q2 : nbA T L (tN T L a1) 0 (nI P - 1)
    · obtain ⟨c2, t2⟩ := c1.av
      have e2 : iSel0 σ = adv (adv σ) := by
        rw [iSel0, e1]
        exact rn_ok c1 (by rw [hP.1]; exact q2)
      obtain ⟨p, hp, ep⟩ := hasIn_nI (n := P) (by omega) q2.2
      have hz2 := zT_rd (zT_rd hz (adv_o σ)) (adv_o _)
      have u1 := tN_up T L a1
      have u2 := tN_up T L (tN T L a1)
      have u3 := tN_le T ha
      have u4 := tN_le T u3
      have hm := hz2.may (by omega) town_draft hb hp
      rw [iSel, iSel1, e2, e1, t1.2.2, t2.2.2, eb, ep]
      by_cases q3 : mayF f b p
      · have ea : aSel T L a1 f P B = (true, tN T L (tN T L a1), mGoBuy f b p) := by
          rw [aSel, if_pos q1, if_pos ⟨q2, by rw [eb, ep, nI_clamp (by omega), nI_clamp (by omega)]; exact q3⟩, eb, ep, nI_clamp (by omega), nI_clamp (by omega)]
        rw [if_pos (hm.mpr q3), if_pos c2.2.2.2.2.1, ea]
        refine ⟨((KQ_adv σ).tr (KQ_adv _)).tr (KQ_dr (fun i hi => ?_) ?_), Or.inl ⟨rfl, c2.o ?_ ?_, P, H, B, ?_⟩⟩
        · rw [xput_f (by omega), xput_f (by omega)]
        · rw [xput_2, xput_2]
        · rw [xput_f (by omega), xput_f (by omega)]
        · rw [xput_f (by omega), xput_f (by omega)]
        · exact (W_sell hz2 (by omega) town_draft hb hp q3).mono (by dsimp only; omega)
      · have hf := fail_FA c2 t2 u3
        have ea : aSel T L a1 f P B = (false, tN T L a1, f) := by
          rw [aSel, if_pos q1, if_neg (fun z => q3 (by have := z.2; rw [eb, ep, nI_clamp (by omega), nI_clamp (by omega)] at this; exact this))]
        rw [if_neg (fun z => q3 (hm.mp z)), if_neg hf.ne, ea]
        exact ⟨((KQ_adv σ).tr (KQ_adv _)).tr (KQ_fail _), Or.inr ⟨rfl, hf⟩⟩
    · have e2 : FA (iSel0 σ) (tS T L (tN T L a1)) := by
        rw [iSel0, e1]
        exact rn_no c1 (by rw [hP.1]; exact q2)
      have k2 : KQ σ (iSel0 σ) := by
        rw [iSel0]
        exact (KQ_rn _ _ _).tr (KQ_rn _ _ _)
      rw [iSel, iSel1, FA_canB e2, if_neg e2.ne, aSel, if_pos q1, if_neg (fun z => q2 z.1)]
      exact ⟨k2, Or.inr ⟨rfl, e2⟩⟩
  · have e1 : FA (rnS σ 0 (σ.1 54 9 - 1)) (tS T L a1) := rn_no h (by rw [hB.1]; exact q1)
    have e2 : iSel0 σ = rnS σ 0 (σ.1 54 9 - 1) := by rw [iSel0, FA_rn e1]
    have e3 : FA (iSel0 σ) (tS T L a1) := by rw [e2]; exact e1
    have k2 : KQ σ (iSel0 σ) := by rw [e2]; exact KQ_rn _ _ _
    rw [iSel, iSel1, FA_canB e3, if_neg e3.ne, aSel, if_neg q1]
    exact ⟨k2, Or.inr ⟨rfl, e3⟩⟩
theorem FA_held {σ : xS} {x : Nat} (h : FA σ x) (p : Int32) : (if held σ 54 p then σ else failS σ) = σ := by
  rw [FA_fail h]; split <;> rfl
theorem BO_kee {σ : xS} {T : Nat → Int32} {L a1 : Nat} {f : Nat → Int32} {D P H B : Nat} (h : CB σ T L a1) (hz : zT σ 54 f D P H B) (hD : D ≤ 50 * a1) : BO σ (iKee σ) T L (aKee T L a1 f P H) := by
  have hP := hz.1.1
  have hH := hz.1.2.1
  have hL := h.2.2.1
  have ha := h.2.2.2.1
  by_cases q1 : nbA T L a1 0 (nI P - 1)
  · obtain ⟨c1, t1⟩ := h.av
    have e1 : rnS σ 0 (σ.1 54 7 - 1) = adv σ := rn_ok h (by rw [hP.1]; exact q1)
    obtain ⟨p, hp, ep⟩ := hasIn_nI (n := P) (by omega) q1.2
    have hz1 := zT_rd hz (adv_o σ)
    have u1 := tN_up T L a1
    have u2 := tN_up T L (tN T L a1)
    have u3 := tN_le T ha
    have u4 := tN_le T u3
    have hm := hz1.hd town_draft hp
    by_cases q2 : heldF f p
    · have e0 : iKee0 σ = adv σ := by rw [iKee0, e1, t1.2.2, ep, if_pos (hm.mpr q2)]
      by_cases q3 : nbA T L (tN T L a1) 0 (nI H - 1)
      · obtain ⟨c2, t2⟩ := c1.av
        obtain ⟨k, hk, ek⟩ := hasIn_nI (n := H) (by omega) q3.2
        have e2 : iKee1 σ = adv (adv σ) := by
          rw [iKee1, e0]
          exact rn_ok c1 (by rw [hH.1]; exact q3)
        have hz2 := zT_rd hz1 (adv_o _)
        have ea : aKee T L a1 f P H = (true, tN T L (tN T L a1), mGoKeep f p k) := by
          rw [aKee, if_pos ⟨q1, by rw [ep, nI_clamp (by omega)]; exact q2⟩, if_pos q3, ep, ek, nI_clamp (by omega), nI_clamp (by omega)]
        rw [iKee, e2, e1, if_pos c2.2.2.2.2.1, t1.2.2, t2.2.2, ep, ek, ea]
        refine ⟨((KQ_adv σ).tr (KQ_adv _)).tr (KQ_dr (fun i hi => ?_) ?_), Or.inl ⟨rfl, c2.o ?_ ?_, P, H, B, ?_⟩⟩
        · rw [xput_f (by omega), xu_f (by omega)]
        · rw [xput_2]; rfl
        · rw [xput_f (by omega), xu_f (by omega)]
        · rw [xput_f (by omega), xu_f (by omega)]
        · exact (W_give hz2 (by omega) town_draft hp hk).mono (by dsimp only; omega)
      · have e2 : FA (iKee1 σ) (tS T L (tN T L a1)) := by
          rw [iKee1, e0]
          exact rn_no c1 (by rw [hH.1]; exact q3)
        have k2 : KQ σ (iKee1 σ) := by
          rw [iKee1, e0]
          exact (KQ_adv _).tr (KQ_rn _ _ _)
        rw [iKee, if_neg e2.ne, aKee, if_pos ⟨q1, by rw [ep, nI_clamp (by omega)]; exact q2⟩, if_neg q3]
        exact ⟨k2, Or.inr ⟨rfl, e2⟩⟩
    · have e0 : iKee0 σ = failS (adv σ) := by rw [iKee0, e1, t1.2.2, ep, if_neg (fun z => q2 (hm.mp z))]
      have hf := fail_FA c1 t1 ha
      have e2 : iKee1 σ = failS (adv σ) := by rw [iKee1, e0, FA_rn hf]
      rw [iKee, e2, if_neg hf.ne, aKee, if_neg (fun z => q2 (by have := z.2; rw [ep, nI_clamp (by omega)] at this; exact this))]
      exact ⟨(KQ_adv _).tr (KQ_fail _), Or.inr ⟨rfl, hf⟩⟩
  · have e1 : FA (rnS σ 0 (σ.1 54 7 - 1)) (tS T L a1) := rn_no h (by rw [hP.1]; exact q1)
    have e0 : iKee0 σ = rnS σ 0 (σ.1 54 7 - 1) := by rw [iKee0, FA_held e1]
    have e2 : iKee1 σ = rnS σ 0 (σ.1 54 7 - 1) := by rw [iKee1, e0, FA_rn e1]
    rw [iKee, e2, if_neg e1.ne, aKee, if_neg (fun z => q1 z.1)]
    exact ⟨KQ_rn _ _ _, Or.inr ⟨rfl, e1⟩⟩
