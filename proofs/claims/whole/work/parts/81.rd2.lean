/-! reading: an item, the loop, the call -/
def KP (σ τ : xS) : Prop := (∀ i, i ≠ 52 → i < 54 ∨ 62 ≤ i → τ.1 i = σ.1 i) ∧ τ.1 52 2 = σ.1 52 2 ∧ τ.2 = σ.2
theorem KP.rf (σ : xS) : KP σ σ := ⟨fun _ _ _ => rfl, rfl, rfl⟩
theorem KP.tr {σ τ υ : xS} (h : KP σ τ) (h2 : KP τ υ) : KP σ υ := ⟨fun i a b => (h2.1 i a b).trans (h.1 i a b), h2.2.1.trans h.2.1, h2.2.2.trans h.2.2⟩
theorem stop_ok {τ : xS} {T : Nat → Int32} {L a : Nat} (h : CB τ T L a) (q : tK T L a = 3) : CB (stopS τ) T L (tN T L a) ∧ (stopS τ).1 52 4 = τ.1 52 4 + 1 ∧ (∀ i, i ≠ 52 → (stopS τ).1 i = τ.1 i) ∧ KP τ (stopS τ) := by
  obtain ⟨c1, t1⟩ := h.av
  have e0 : stop0 τ = adv τ := by rw [stop0, if_pos (by rw [t1.1]; exact q)]
  have e1 : stopS τ = xu (adv τ) 52 4 (τ.1 52 4 + 1) := by
    rw [stopS, e0, if_pos c1.2.2.2.2.1, (KQ_adv τ).2]
  obtain ⟨b1, b2, b3, b4, b5, b6⟩ := c1
  rw [e1]
  refine ⟨⟨?_, ?_, b3, b4, ?_, ?_⟩, xu_s _ _ _ _, fun i hi => ?_, fun i hi _ => ?_, ?_, adv_2 τ⟩
  · rw [xu_f (by decide)]; exact b1
  · rw [xu_o (by omega)]; exact b2
  · rw [xu_o (by omega)]; exact b5
  · rw [xu_o (by omega)]; exact b6
  · rw [xu_f hi]; exact adv_f τ hi
  · rw [xu_f hi]; exact adv_f τ hi
  · rw [xu_o (by omega)]; exact (KQ_adv τ).1.2.1
theorem stop_no {τ : xS} {T : Nat → Int32} {L a : Nat} (h : CB τ T L a) (q : ¬ tK T L a = 3) : FA (stopS τ) (tS T L a) ∧ KP τ (stopS τ) := by
  obtain ⟨c1, t1⟩ := h.av
  have hf := fail_FA c1 t1 h.2.2.2.1
  have e0 : stop0 τ = failS (adv τ) := by rw [stop0, if_neg (by rw [t1.1]; exact q)]
  have e1 : stopS τ = failS (adv τ) := by rw [stopS, e0, if_neg hf.ne]
  rw [e1]
  exact ⟨hf, ((KQ_adv τ).tr (KQ_fail _)).1⟩
theorem word_eq {σ : xS} {T : Nat → Int32} {L a : Nat} (h : CB σ T L (tN T L a)) (ht : TA σ T L a) (ha : a ≤ L) : wordI σ = aWd T L a := by
  have h1 := tS_le T ha
  have h3 := h.2.2.1
  have h4 := h.2.2.2.1
  rw [wordI, aWd, h.1, ht.1, ht.2.1, h.2.2.2.2.2, nI_clamp (by omega), nI_clamp (by omega)]
def itOK (σ τ : xS) (T : Nat → Int32) (L i : Nat) (o : Bool × Nat × (Nat → Int32)) : Prop :=
  KP σ τ ∧ (((o.1 = true ∧ tK T L o.2.1 = 3) ∧ CB τ T L (tN T L o.2.1) ∧ τ.1 52 4 = nI (i + 1) ∧ ∃ P H B, zT τ 54 o.2.2 (50 * tN T L o.2.1) P H B) ∨ (¬ (o.1 = true ∧ tK T L o.2.1 = 3) ∧ FA τ (tS T L o.2.1)))
theorem it_body {σ τ : xS} {T : Nat → Int32} {L i : Nat} {o : Bool × Nat × (Nat → Int32)} (h : BO σ τ T L o) (hi : σ.1 52 4 = nI i) : itOK σ (stopS τ) T L i o := by
  obtain ⟨k, ⟨o1, c, P, H, B, z⟩ | ⟨o1, f⟩⟩ := h
  · by_cases q : tK T L o.2.1 = 3
    · obtain ⟨s1, s2, s3, s4⟩ := stop_ok c q
      refine ⟨KP.tr k.1 s4, Or.inl ⟨⟨o1, q⟩, s1, by rw [s2, k.2, hi, nI_1], P, H, B, ?_⟩⟩
      have := tN_up T L o.2.1
      exact (zT_rd z s3).mono (by omega)
    · obtain ⟨s1, s2⟩ := stop_no c q
      exact ⟨KP.tr k.1 s2, Or.inr ⟨fun z => q z.2, s1⟩⟩
  · rw [FA_stop f]
    exact ⟨k.1, Or.inr ⟨fun z => by rw [o1] at z; exact Bool.noConfusion z.1, f⟩⟩
theorem IT {σ : xS} {T : Nat → Int32} {L a i P H B : Nat} {f : Nat → Int32} (h : CB σ T L (tN T L a)) (ht : TA σ T L a) (ha : a ≤ L) (hi : σ.1 52 4 = nI i) (h1 : 1 ≤ i) (h2 : i ≤ 150) (hz : zT σ 54 f (50 * a) P H B) : itOK σ (itemS σ) T L i (aItem T L a f P H B) := by
  have hw := word_eq h ht ha
  have hne : ¬ σ.1 52 4 = 0 := by rw [hi]; exact nI_ne0 (by omega) (by omega)
  have hup := tN_up T L a
  have hP := hz.1.1
  have hH := hz.1.2.1
  have hB := hz.1.2.2.1
  have nope : itemS σ = failS σ → aItem T L a f P H B = (false, a, f) → itOK σ (itemS σ) T L i (aItem T L a f P H B) := by
    intro e1 e2
    rw [e1, e2]
    exact ⟨(KQ_fail σ).1, Or.inr ⟨fun z => Bool.noConfusion z.1, fail_FA h ht ha⟩⟩
  have i0 : mayI σ (aWd T L a) = 0 → itemS σ = failS σ := fun z => by rw [itemS, hw, if_pos z]
  have i1 : ¬ mayI σ (aWd T L a) = 0 → itemS σ = stopS (bodyS σ (aWd T L a)) := fun z => by rw [itemS, hw, if_neg z]
  rcases aWd_or T L a with ⟨w, -⟩ | ⟨k, hk, hwk, w⟩
  · refine nope (i0 ?_) (aItem_n _ _ _ _ (by rw [w]; decide))
    rw [w, mayI, if_neg hne, if_neg (by decide), if_neg (by decide), if_neg (by decide)]; decide
  · rcases (show k = 0 ∨ k = 1 ∨ k = 2 ∨ k = 3 ∨ k = 4 ∨ k = 5 ∨ k = 6 by omega) with rfl | rfl | rfl | rfl | rfl | rfl | rfl
    · refine nope (i0 ?_) (aItem_n _ _ _ _ (by rw [w]; decide))
      rw [w, mayI, if_neg hne, if_neg (by decide), if_neg (by decide), if_neg (by decide)]; decide
    · have w : aWd T L a = 1 := w
      have em : mayI σ 1 = if 7 ≤ σ.1 54 7 then 0 else 1 := by rw [mayI, if_neg hne, if_pos rfl]
      rw [aItem_1 _ _ _ _ w] at nope ⊢
      rw [w, em, hP.1] at i0 i1
      rw [bodyS_1] at i1
      by_cases q : P = 7
      · exact nope (i0 (by rw [if_pos (show (7 : Int32) ≤ nI P from nI_le (a := 7) (by omega) (by omega))])) (by rw [if_pos q])
      · have hlt : P < 7 := by omega
        rw [if_neg q, i1 (by rw [if_neg (show ¬ (7 : Int32) ≤ nI P from nI_ge (b := 7) hlt (by omega))]; decide)]
        exact it_body (BO_pro h hz (by omega) hlt) hi
    · have w : aWd T L a = 2 := w
      have em : mayI σ 2 = if 4 ≤ σ.1 54 8 then 0 else 1 := by rw [mayI, if_neg hne, if_neg (by decide), if_pos rfl]
      rw [aItem_2 _ _ _ _ w] at nope ⊢
      rw [w, em, hH.1] at i0 i1
      rw [bodyS_2] at i1
      by_cases q : H = 4
      · exact nope (i0 (by rw [if_pos (show (4 : Int32) ≤ nI H from nI_le (a := 4) (by omega) (by omega))])) (by rw [if_pos q])
      · have hlt : H < 4 := by omega
        rw [if_neg q, i1 (by rw [if_neg (show ¬ (4 : Int32) ≤ nI H from nI_ge (b := 4) hlt (by omega))]; decide)]
        exact it_body (BO_hea h hz (by omega) hlt) hi
    · have w : aWd T L a = 3 := w
      have em : mayI σ 3 = if 3 ≤ σ.1 54 9 then 0 else 1 := by rw [mayI, if_neg hne, if_neg (by decide), if_neg (by decide), if_pos rfl]
      rw [aItem_3 _ _ _ _ w] at nope ⊢
      rw [w, em, hB.1] at i0 i1
      rw [bodyS_3] at i1
      by_cases q : B = 3
      · exact nope (i0 (by rw [if_pos (show (3 : Int32) ≤ nI B from nI_le (a := 3) (by omega) (by omega))])) (by rw [if_pos q])
      · have hlt : B < 3 := by omega
        rw [if_neg q, i1 (by rw [if_neg (show ¬ (3 : Int32) ≤ nI B from nI_ge (b := 3) hlt (by omega))]; decide)]
        exact it_body (BO_buy h hz (by omega) hlt) hi
    · have w : aWd T L a = 4 := w
      have em : ¬ mayI σ 4 = 0 := by rw [mayI, if_neg hne, if_neg (by decide), if_neg (by decide), if_neg (by decide)]; decide
      rw [w] at i1
      rw [bodyS_4] at i1
      rw [aItem_4 _ _ _ _ w, i1 em]
      exact it_body (BO_sel h hz (by omega)) hi
    · have w : aWd T L a = 5 := w
      have em : ¬ mayI σ 5 = 0 := by rw [mayI, if_neg hne, if_neg (by decide), if_neg (by decide), if_neg (by decide)]; decide
      rw [w] at i1
      rw [bodyS_5] at i1
      rw [aItem_5 _ _ _ _ w, i1 em]
      exact it_body (BO_kee h hz (by omega)) hi
    · have w : aWd T L a = 6 := w
      have em : ¬ mayI σ 6 = 0 := by rw [mayI, if_neg hne, if_neg (by decide), if_neg (by decide), if_neg (by decide)]; decide
      rw [w] at i1
      rw [bodyS_6] at i1
      rw [aItem_6 _ _ _ _ w, i1 em]
      have h6 : tN T L a - tS T L a = 4 := hwk.2.1
      have h7 := tS_ge T L a
      exact it_body (BO_day h hz (by omega)) hi
theorem aItem_z {T : Nat → Int32} {L a P H B : Nat} {f : Nat → Int32} {k : Nat} (h3 : 3 ≤ k) (h7 : k < 7) : (aItem T L a f P H B).2.2 k = f k := by
  have kP : ∀ x y, mLay f P x y k = f k := fun x y => by rw [mLay, upd_ne _ _ (by omega), upd_ne _ _ (by omega), upd_ne _ _ (by omega), upd_ne _ _ (by omega), upd_ne _ _ (by omega)]
  have kH : ∀ x y, (upd (upd (upd f (40 + H) x) (44 + H) y) 1 (nI (H + 1))) k = f k := fun x y => by rw [upd_ne _ _ (by omega), upd_ne _ _ (by omega), upd_ne _ _ (by omega)]
  have kB : ∀ x, (upd (upd f (21 + B) x) 2 (nI (B + 1))) k = f k := fun x => by rw [upd_ne _ _ (by omega), upd_ne _ _ (by omega)]
  have k2 : ∀ a g, (∀ x y, g x y k = f k) → (aTwo T L a f g).2.2 k = f k := fun a g hg => by
    unfold aTwo
    repeat' split
    all_goals first | rfl | exact hg _ _
  unfold aItem aSel aKee
  repeat' split
  all_goals first | rfl | exact mGoBuy_lo f _ _ h7 | exact mGoKeep_lo f _ _ h7 | exact mDays_lo P h7 _ f | exact kB _ | exact k2 _ _ kP | exact k2 _ _ kH
theorem FA_rdL {σ : xS} {x : Nat} (h : FA σ x) : ∀ n, rdL n σ = σ := by
  intro n
  cases n with
  | zero => rfl
  | succ n => rw [rdL_s, if_neg (fun z => h.ne (by have := z.1; rw [FA_adv h] at this; exact this)), FA_adv h]
/-- what the reference's reading leaves -/
def RK (ρ υ : xS) : Prop := (∀ i, i ≠ 73 → i ≠ 74 → i ≠ 83 → i ≠ 84 → υ.1 i = ρ.1 i) ∧ υ.1 73 11 = ρ.1 73 11 ∧ υ.2 = ρ.2
theorem RK.tr {σ τ υ : xS} (h : RK σ τ) (h2 : RK τ υ) : RK σ υ := ⟨fun i a b c d => (h2.1 i a b c d).trans (h.1 i a b c d), h2.2.1.trans h.2.1, h2.2.2.trans h.2.2⟩
theorem RK_same {ρ υ : xS} (h : mSame ρ υ) (e : υ.1 73 11 = ρ.1 73 11) : RK ρ υ := ⟨fun i a b c d => h.1 i a c d, e, h.2⟩
def rdOut (σ τ ρ : xS) (r : Int32 × xS) (f : Nat → Int32) : Prop :=
  KP σ τ ∧ RK ρ r.2 ∧ ((τ.1 52 3 = -1 ∧ τ.1 52 4 = r.1 ∧ ∃ (g : Nat → Int32) (P H B : Nat), zT τ 54 g 9999 P H B ∧ (∀ k, 3 ≤ k → k < 7 → g k = f k) ∧ r.2.1 74 = cqF (ρ.1 74) g 0 0 106) ∨ (∃ x, FA τ x ∧ r.1 = -10 - nI x ∧ r.2.1 74 = ρ.1 74))
theorem loop_eq (T : Nat → Int32) (L : Nat) : ∀ (n m a i : Nat) (f : Nat → Int32) (σ ρ : xS) (P H B : Nat), CB σ T L a → σ.1 52 4 = nI i → 1 ≤ i → i ≤ a → zT σ 54 f (50 * a) P H B → MA ρ T L a → ρ.1 83 = f → L - a < n → L - a < m → rdOut σ (rdL n σ) ρ (rdM m ρ (nI i)) f := by
  intro n
  induction n with
  | zero => intro m a i f σ ρ P H B _ _ _ _ _ _ _ h; exact absurd h (by omega)
  | succ n ih =>
    intro m a i f σ ρ P H B h hi h1 hia hz hm hf hn hmm
    obtain ⟨m, rfl⟩ : ∃ m', m = m' + 1 := ⟨m - 1, by omega⟩
    have hL := h.2.2.1
    have ha := h.2.2.2.1
    obtain ⟨c1, t1⟩ := h.av
    have hi1 : (adv σ).1 52 4 = nI i := (KQ_adv σ).2.trans hi
    have hne : ¬ (adv σ).1 52 4 = 0 := by rw [hi1]; exact nI_ne0 (by omega) (by omega)
    have hz1 := zT_rd hz (adv_o σ)
    have hP := hz.1.1
    have hH := hz.1.2.1
    have hB := hz.1.2.2.1
    have m14 : ρ.1 73 14 = tK T L a := hm.2.2.2.2.2.2.1
    rw [rdL_s, rdM_s, m14]
    by_cases q0 : tK T L a = 0
    · rw [if_neg (fun z => hne (z.2 (t1.1.trans q0))), if_pos q0, hf]
      refine ⟨(KQ_adv σ).1, ⟨fun j _ b _ _ => xrow_ne _ _ b, by rw [xrow_ne _ _ (by decide)], rfl⟩, Or.inl ⟨c1.2.2.2.2.1, hi1, f, P, H, B, hz1.mono (by omega), fun _ _ _ => rfl, xrow_at _ _ _⟩⟩
    · rw [if_pos ⟨c1.2.2.2.2.1, fun z => absurd (t1.1.symm.trans z) q0⟩, if_neg q0]
      obtain ⟨k1, k2⟩ := IT c1 t1 ha hi1 h1 (by omega) hz1
      have hir := IR_itM hm (by rw [hf]; exact hP.2.1) hP.2.2 (by rw [hf]; exact hH.2.1) hH.2.2 (by rw [hf]; exact hB.2.1) hB.2.2
      rw [hf] at hir
      have hat := aItem_at T f P H B ha
      have haz : ∀ k, 3 ≤ k → k < 7 → (aItem T L a f P H B).2.2 k = f k := fun k a b => aItem_z a b
      generalize aItem T L a f P H B = o at k2 hir hat haz
      obtain ⟨r1, r2, r3, r4⟩ := hir
      have r14 : (itM ρ).2.1 73 14 = tK T L o.2.1 := r2.2.2.2.2.2.2.1
      have r12 : (itM ρ).2.1 73 12 = nI (tS T L o.2.1) := r2.2.2.2.2.1
      have r11 : (itM ρ).2.1 73 11 = ρ.1 73 11 := r2.2.1.trans hm.2.1.symm
      have k0 : KP σ (itemS (adv σ)) := KP.tr (KQ_adv σ).1 k1
      rcases k2 with ⟨⟨o1, o3⟩, s1, s2, P', H', B', s3⟩ | ⟨o1, s1⟩
      · obtain ⟨t3, t4⟩ := tN_stop o3
        have t5 := tS_ge T L o.2.1
        rw [if_neg (by rw [r1, ← b2i_t o1]; decide), if_pos (by rw [r14]; exact o3), nI_1]
        have g83 : (gbS (itM ρ).2).1 83 = o.2.2 := by rw [gbS_o _ (by decide)]; exact r3
        have g74 : (gbS (itM ρ).2).1 74 = ρ.1 74 := by rw [gbS_o _ (by decide)]; exact r4.1 74 (by decide) (by decide) (by decide)
        have hrk : RK ρ (gbS (itM ρ).2) := (RK_same r4 r11).tr (RK_same (mSame.gb _) (by rw [r2.gb.2.1, r2.2.1]))
        obtain ⟨j1, j2, j3⟩ := ih m (tN T L o.2.1) (i + 1) o.2.2 (itemS (adv σ)) (gbS (itM ρ).2) P' H' B' s1 s2 (by omega) (by omega) s3 r2.gb g83 (by omega) (by omega)
        refine ⟨KP.tr k0 j1, hrk.tr j2, ?_⟩
        rcases j3 with ⟨x1, x2, g, P2, H2, B2, x3, x4, x5⟩ | ⟨x, x1, x2, x3⟩
        · exact Or.inl ⟨x1, x2, g, P2, H2, B2, x3, fun k a b => (x4 k a b).trans (haz k a b), by rw [x5, g74]⟩
        · exact Or.inr ⟨x, x1, x2, by rw [x3, g74]⟩
      · rw [FA_rdL s1 n]
        have e : (if (itM ρ).1 = 0 then (-10 - (itM ρ).2.1 73 12, (itM ρ).2) else if (itM ρ).2.1 73 14 = 3 then rdM m (gbS (itM ρ).2) (nI i + 1) else (-10 - (itM ρ).2.1 73 12, (itM ρ).2)) = (-10 - (itM ρ).2.1 73 12, (itM ρ).2) := by
          by_cases z1 : (itM ρ).1 = 0
          · rw [if_pos z1]
          · rw [if_neg z1, if_neg (fun z2 => o1 ⟨b2i_n0.mp (by rw [← r1]; exact z1), r14.symm.trans z2⟩)]
        rw [e]
        refine ⟨k0, RK_same r4 r11, Or.inr ⟨tS T L o.2.1, s1, by rw [r12], r4.1 74 (by decide) (by decide) (by decide)⟩⟩
theorem beginS_o (σ : xS) {a b : Nat} (h : (a ≠ 54 ∨ b < 7 ∨ 11 < b) ∧ (a ≠ 52 ∨ (b ≠ 3 ∧ b ≠ 4 ∧ b ≠ 7))) : (beginS σ).1 a b = σ.1 a b := by
  rw [beginS]
  repeat rw [xu_o (by omega)]
theorem beginS_i (σ : xS) : (beginS σ).1 54 7 = 0 ∧ (beginS σ).1 54 8 = 0 ∧ (beginS σ).1 54 9 = 0 ∧ (beginS σ).1 54 10 = 0 ∧ (beginS σ).1 54 11 = 0 ∧ (beginS σ).1 52 3 = -1 ∧ (beginS σ).1 52 4 = 0 ∧ (beginS σ).1 52 7 = 0 := by
  simp [beginS, xu_1]
theorem begin_z (σ : xS) (g : Nat → Int32) (hr : ∀ k, k < 106 → g k = 0) : zT (beginS σ) 54 g 0 0 0 0 := by
  obtain ⟨e1, e2, e3, e4, e5, -⟩ := beginS_i σ
  exact ⟨⟨⟨e1, hr 0 (by omega), by omega⟩, ⟨e2, hr 1 (by omega), by omega⟩, ⟨e3, hr 2 (by omega), by omega⟩, fun p hp => absurd hp (Nat.not_lt_zero p), fun p hp => absurd hp (Nat.not_lt_zero p)⟩, 0, by omega, hr 25 (by omega), e4.trans (hr 25 (by omega)).symm, e5.trans (hr 24 (by omega)).symm, fun p hp => absurd hp (Nat.not_lt_zero p), fun p hp => absurd hp (Nat.not_lt_zero p), fun p hp => absurd hp (Nat.not_lt_zero p)⟩
theorem KP_begin (σ : xS) : KP σ (beginS σ) := ⟨fun i a b => by funext j; exact beginS_o σ (by omega), beginS_o σ (by omega), rfl⟩
theorem bodyS_0 (σ : xS) : bodyS σ 0 = σ := by
  unfold bodyS
  rw [if_neg (by decide), if_neg (by decide), if_neg (by decide), if_neg (by decide), if_neg (by decide), if_neg (by decide)]
theorem read_out {σ ρ : xS} {L : Nat} (hT : σ.1 53 = ρ.1 82) (hL5 : L ≤ 150) (h1 : σ.1 52 2 = nI L) (h2 : ρ.1 73 11 = nI L) : rdOut (beginS σ) (rdL 151 (beginS σ)) ρ (mRead ρ L) (fun _ => 0) := by
  obtain ⟨e1, e2, e3, e4, e5, e6, e7, e8⟩ := beginS_i σ
  obtain ⟨T, hTT⟩ : ∃ T, T = ρ.1 82 := ⟨_, rfl⟩
  have hcb : CB (beginS σ) T L 0 := ⟨by rw [(KP_begin σ).1 53 (by decide) (by omega), hT, hTT], (KP_begin σ).2.1.trans h1, hL5, Nat.zero_le L, e6, e8⟩
  have hm := MA_look (σ := ρ) hTT.symm h2 hL5 (Nat.zero_le L)
  obtain ⟨c1, t1⟩ := hcb.av
  have i1 : (adv (beginS σ)).1 52 4 = 0 := (KQ_adv _).2.trans e7
  have hw := word_eq c1 t1 (Nat.zero_le L)
  have hsp : spM (lookM ρ L 0) (tS T L 0) 4 (ltM 116 111 119 110 0 0) ↔ aWd T L 0 = nI 0 := spM_iff hm (k := 0) rfl (by decide) (by decide)
  have hmay : mayI (adv (beginS σ)) (aWd T L 0) = if aWd T L 0 = 0 then 1 else 0 := by rw [mayI, if_pos i1]
  have k0 := KQ_adv (beginS σ)
  have sm0 : mSame ρ (lookM ρ L 0) := ⟨fun i a b c => setM_o _ _ _ _ _ a, rfl⟩
  have s11 : (lookM ρ L 0).1 73 11 = ρ.1 73 11 := hm.2.1.trans h2.symm
  rw [show (151 : Nat) = 150 + 1 from rfl, rdL_s, if_pos ⟨c1.2.2.2.2.1, fun _ => i1⟩, itemS, hw, hmay, mRead, ← hTT]
  by_cases q0 : aWd T L 0 = 0
  · rw [if_pos q0, if_neg (by decide), if_pos (hsp.mpr q0), q0, bodyS_0]
    have g14 : (gbS (lookM ρ L 0)).1 73 14 = tK T L (tN T L 0) := hm.gb.2.2.2.2.2.2.1
    have g12 : (gbS (lookM ρ L 0)).1 73 12 = nI (tS T L (tN T L 0)) := hm.gb.2.2.2.2.1
    have rk1 : RK ρ (gbS (lookM ρ L 0)) := (RK_same sm0 s11).tr (RK_same (mSame.gb _) (by rw [hm.gb.2.1, hm.2.1]))
    by_cases q3 : tK T L (tN T L 0) = 3
    · rw [if_pos (by rw [g14]; exact q3)]
      obtain ⟨s1, s2, s3, s4⟩ := stop_ok c1 q3
      obtain ⟨t3, t4⟩ := tN_stop q3
      obtain ⟨f, hf⟩ : ∃ f, f = mZero ((gbS (gbS (lookM ρ L 0))).1 83) 106 := ⟨_, rfl⟩
      rw [← hf]
      have hf0 : ∀ k, k < 106 → f k = 0 := fun k hk => by rw [hf, mZero, if_pos hk]
      have hz : zT (stopS (adv (beginS σ))) 54 f (50 * tN T L (tN T L 0)) 0 0 0 := (zT_rd (zT_rd (begin_z σ f hf0) (adv_o _)) s3).mono (Nat.zero_le _)
      have hm3 : MA (xrow (gbS (gbS (lookM ρ L 0))) 83 f) T L (tN T L (tN T L 0)) := hm.gb.gb.o (xrow_ne _ _ (by decide)) (xrow_ne _ _ (by decide))
      have rk2 : RK ρ (xrow (gbS (gbS (lookM ρ L 0))) 83 f) := (rk1.tr (RK_same (mSame.gb _) (by rw [hm.gb.gb.2.1, hm.gb.2.1]))).tr (RK_same (mSame.row _ _) (by rw [xrow_ne _ _ (by decide)]))
      obtain ⟨j1, j2, j3⟩ := loop_eq T L 150 151 (tN T L (tN T L 0)) 1 f (stopS (adv (beginS σ))) (xrow (gbS (gbS (lookM ρ L 0))) 83 f) 0 0 0 s1 (by rw [s2, i1]; rfl) (by omega) (by omega) hz hm3 (xrow_at _ _ _) (by omega) (by omega)
      have e74 : (xrow (gbS (gbS (lookM ρ L 0))) 83 f).1 74 = ρ.1 74 := by rw [xrow_ne _ _ (by decide), gbS_o _ (by decide), gbS_o _ (by decide)]; exact sm0.1 74 (by decide) (by decide) (by decide)
      refine ⟨KP.tr k0.1 (KP.tr s4 j1), rk2.tr j2, ?_⟩
      rcases j3 with ⟨x1, x2, g, P2, H2, B2, x3, x4, x5⟩ | ⟨x, x1, x2, x3⟩
      · exact Or.inl ⟨x1, x2, g, P2, H2, B2, x3, fun k a b => (x4 k a b).trans (hf0 k (by omega)), by rw [← e74]; exact x5⟩
      · exact Or.inr ⟨x, x1, x2, by rw [← e74]; exact x3⟩
    · rw [if_neg (by rw [g14]; exact q3)]
      obtain ⟨s1, s2⟩ := stop_no c1 q3
      rw [FA_rdL s1]
      exact ⟨KP.tr k0.1 s2, rk1, Or.inr ⟨_, s1, by rw [g12], by rw [gbS_o _ (by decide)]; exact sm0.1 74 (by decide) (by decide) (by decide)⟩⟩
  · rw [if_neg q0, if_pos rfl, if_neg (fun z => q0 (hsp.mp z))]
    have hf := fail_FA c1 t1 (Nat.zero_le L)
    rw [FA_rdL hf]
    exact ⟨KP.tr k0.1 (KQ_fail _).1, RK_same sm0 s11, Or.inr ⟨_, hf, by rw [hm.2.2.2.2.1], sm0.1 74 (by decide) (by decide) (by decide)⟩⟩
theorem cFr_town (σ : xS) {t s : Nat} (ht : t + 8 ≤ 73) : cFr σ (cpTown σ t s) := ⟨fun i hi => cpTown_o (by omega), rfl⟩
theorem KP_cFr {σ τ : xS} (h : KP σ τ) : cFr σ τ := ⟨fun i hi => h.1 i (by omega) (by omega), by rw [h.2.2]⟩
theorem RK_rFr {σ τ : xS} (h : RK σ τ) : rFr σ τ := ⟨fun i hi => h.1 i (by omega) (by omega) (by omega) (by omega), by rw [h.2.2]⟩
theorem cFr_read (σ : xS) (h : KP (beginS σ) (rdL 151 (beginS σ))) : cFr σ (readQ σ).2 := by
  have h2 := KP_cFr (KP.tr (KP_begin σ) h)
  rw [readQ, readE]
  split
  · exact (h2.tr (cFr_empty _)).tr (cFr_town _ (by omega))
  · exact h2
theorem b_read {E : xE} {σ : xS} (h : Inv σ σ) : Both E yX5_read cX5_read 2 (some .int) yX6_read cX6_read 3 (some .int) [] σ := by
  obtain ⟨hT, L, hL, h1, h2⟩ := h.2.2.2.1
  obtain ⟨e1, e2, e3, e4, e5, e6, e7, e8⟩ := beginS_i σ
  have hc := c_X5_read 1 (E := E) (σ := σ) ⟨L, 0, (KP_begin σ).2.1.trans h1, hL, e8, Nat.zero_le L⟩ ⟨0, 0, 0, e1, by omega, e2, by omega, e3, by omega⟩
  have cf := cFr_read σ (read_out hT hL h1 h2).1
  have h82 : (readQ σ).2.1 82 = σ.1 82 := cf.1 82 (by omega)
  have h73 : (readQ σ).2.1 73 11 = nI L := by rw [cf.1 73 (by omega)]; exact h2
  have hr := c_X6_read 1 (E := E) (σ := (readQ σ).2) h73 hL
  obtain ⟨k1, k2, k3⟩ := read_out (σ := σ) (ρ := (readQ σ).2) (by rw [h82]; exact hT) hL h1 h73
  refine mkB h hc hr cf (RK_rFr k2) (fun hi => ?_)
  have kk := KP.tr (KP_begin σ) k1
  have cs : cSame σ (rdL 151 (beginS σ)) := ⟨fun i hi => kk.1 i (by omega) (by omega), kk.1 53 (by omega) (by omega), kk.2.1, by rw [kk.2.2]⟩
  rcases k3 with ⟨x1, x2, g, P, H, B, x3, x4, x5⟩ | ⟨x, x1, x2, x3⟩
  · have eq : readQ σ = ((cpTown (emptyS (rdL 151 (beginS σ))) 2 54).1 52 4, cpTown (emptyS (rdL 151 (beginS σ))) 2 54) := by rw [readQ, readE, if_pos x1]
    obtain ⟨r, hrr⟩ : ∃ r, r = mRead (readQ σ).2 L := ⟨_, rfl⟩
    rw [← hrr] at k2 x2 x5 ⊢
    obtain ⟨ρ, hρ⟩ : ∃ ρ, ρ = (readQ σ).2 := ⟨_, rfl⟩
    rw [← hρ] at hi k2 x5
    rw [eq]
    obtain ⟨τ, hτ⟩ : ∃ τ, τ = rdL 151 (beginS σ) := ⟨_, rfl⟩
    rw [← hτ] at cs x1 x2 x3 ⊢
    have o54 : ∀ i, 54 ≤ i → (emptyS τ).1 i = τ.1 i := fun i hi => by funext b; exact emptyS_o τ (by omega)
    refine ⟨?_, ?_⟩
    · show Value.int r.1 = Value.int ((cpTown (emptyS τ) 2 54).1 52 4)
      rw [cpTown_o (by omega), emptyS_o τ (by omega), x2]
    · have hi2 : Inv τ ρ := hi.o cs (rSame.rf ρ)
      obtain ⟨m1, m2, m3⟩ := hi2.2.2.2.2.2.2
      obtain ⟨y1, y2, y3, y4, y5, y6, y7, y8, y9⟩ := emptyS_i τ
      have row : ∀ k, k < 106 → r.2.1 74 k = g k := fun k hk => by rw [x5, cqF_in (by omega), show k - 0 + 0 = k by omega]
      refine hi2.shop (fun i hi => ?_) rfl (fun i a b => k2.1 i (by omega) (by omega) (by omega) (by omega)) (k2.1 82 (by omega) (by omega) (by omega) (by omega)) k2.2.1 (by rw [k2.2.2]) ⟨?_, ?_, ?_⟩ ?_
      · rw [cpTown_o (by omega)]; funext b; exact emptyS_o τ (by omega)
      · rw [cpTown_o (by omega), emptyS_o τ (by omega)]; exact m1
      · rw [cpTown_o (by omega), emptyS_o τ (by omega)]; exact m2
      · rw [cpTown_o (by omega), emptyS_o τ (by omega)]; exact m3
      · have hz : zT (emptyS τ) 54 g 9999 P H B := x3.o (fun b => by rw [o54 54 (by omega)]) (fun i a b => o54 i (by omega)) (fun _ _ => rfl)
        refine SX.r (P := P) (H := H) (B := B) (U := 0) (S := 0) (N := 0) (M := 0) ⟨(zT_cp hz town_draft (by omega)).o (fun _ => rfl) (fun _ _ _ => rfl) (fun k hk => row k (by omega)), zP_0 ?_ ?_, ⟨?_, ?_, by omega, fun k hk => absurd hk (Nat.not_lt_zero k)⟩, ⟨?_, ?_, by omega, fun k hk => absurd hk (Nat.not_lt_zero k)⟩, ⟨?_, ?_, by omega, fun k hk => absurd hk (Nat.not_lt_zero k)⟩⟩
        · rw [cpTown_o (by omega)]; exact y6
        · rw [row 6 (by omega)]; exact x4 6 (by omega) (by omega)
        · rw [cpTown_o (by omega)]; exact y7
        · rw [row 3 (by omega)]; exact x4 3 (by omega) (by omega)
        · rw [cpTown_o (by omega)]; exact y8
        · rw [row 4 (by omega)]; exact x4 4 (by omega) (by omega)
        · rw [cpTown_o (by omega)]; exact y9
        · rw [row 5 (by omega)]; exact x4 5 (by omega) (by omega)
  · have eq : readQ σ = (-10 - (rdL 151 (beginS σ)).1 52 3, rdL 151 (beginS σ)) := by rw [readQ, readE, if_neg x1.ne]
    obtain ⟨r, hrr⟩ : ∃ r, r = mRead (readQ σ).2 L := ⟨_, rfl⟩
    rw [← hrr] at k2 x2 x3 ⊢
    obtain ⟨ρ, hρ⟩ : ∃ ρ, ρ = (readQ σ).2 := ⟨_, rfl⟩
    rw [← hρ] at hi k2 x3
    rw [eq]
    refine ⟨by rw [x2, x1.2], hi.o cs ⟨fun i a b => ?_, k2.1 82 (by omega) (by omega) (by omega) (by omega), k2.2.1, by rw [k2.2.2]⟩⟩
    by_cases z : i = 74
    · rw [z]; exact x3
    · exact k2.1 i (by omega) z (by omega) (by omega)
