/-! both, call by call: years -/
theorem yGive_W {σ : xS} {f : Nat → Int32} {D P H B : Nat} (p h : Int32) (hz : zT σ 62 f D P H B) (hD : D ≤ 19000) : zT (yGive σ p h) 62 (ygM f P H p h) D P H B := by
  have hP := hz.1.1
  have hH := hz.1.2.1
  by_cases q1 : hasIn (nI P) p
  · obtain ⟨p', hp, rfl⟩ := hasIn_nI (by have := hP.2.2; omega) q1
    have ea : xat σ 66 (nI p') = f (7 + p') := (hz.at town_trial hp).2.2.2
    have ec : (nI p').toNatClampNeg = p' := nI_clamp (by have := hP.2.2; omega)
    by_cases q2 : f (7 + p') = 0
    · have hin : inW σ 62 (nI p') := ⟨by rw [hP.1]; exact q1, ea.trans q2⟩
      by_cases q3 : hasIn (nI H) h
      · obtain ⟨h', hh, rfl⟩ := hasIn_nI (by have := hH.2.2; omega) q3
        rw [yGive, if_pos hin, if_pos (show hasIn (σ.1 62 8) (nI h') by rw [hH.1]; exact q3), ygM, if_pos ⟨q1, by rw [ec]; exact q2, q3⟩, ec, nI_clamp (by have := hH.2.2; omega)]
        exact W_give hz hD town_trial hp hh
      · rw [yGive, if_pos hin, if_neg (show ¬ hasIn (σ.1 62 8) h by rw [hH.1]; exact q3), ygM, if_neg (fun z => q3 z.2.2)]
        exact hz
    · rw [yGive, if_neg (fun z : inW σ 62 (nI p') => q2 (ea.symm.trans z.2)), ygM, if_neg (fun z => q2 (by have := z.2.1; rw [ec] at this; exact this))]
      exact hz
  · rw [yGive, if_neg (fun z : inW σ 62 p => q1 (by have := z.1; rw [hP.1] at this; exact this)), ygM, if_neg (fun z => q1 z.1)]
    exact hz
theorem yStep_W {σ : xS} {f : Nat → Int32} {D P H B : Nat} (x : Int64) (hz : zT σ 62 f D P H B) (hD : D ≤ 19000) : zT (yStep σ P x) 62 (mDay (ygM f P H (ypI x) (yhI x)) P) (D + 1) P H B := by
  rw [yStep, mDay_ag _ hz.1.1.2.2]
  exact W_days (m := 1) (yGive_W _ _ hz hD) (fun D0 _ h2 => by omega)
theorem yr_W {σ : xS} {g : Nat → Int32} {P H B : Nat} (x : Int64) (hz : zT σ 62 g 9999 P H B) : ∀ t, t ≤ 60 → (yrS σ P x t).1 = (myS P H g x t).1 ∧ zT (yrS σ P x t).2 62 (myS P H g x t).2 (9999 + t) P H B := by
  intro t
  induction t with
  | zero => intro _; rw [yrS_0, myS_0]; exact ⟨rfl, hz⟩
  | succ t ih =>
    intro ht
    obtain ⟨i1, i2⟩ := ih (by omega)
    rw [yrS_s, myS_s, i1]
    exact ⟨rfl, yStep_W (D := 9999 + t) _ i2 (by omega)⟩
def yKeep (σ τ : xS) : Prop := (∀ i, i < 62 ∨ 70 ≤ i → τ.1 i = σ.1 i) ∧ τ.2 = σ.2
theorem yKeep_give {σ τ : xS} (h : yKeep σ τ) (p g : Int32) : yKeep σ (yGive τ p g) := by
  unfold yGive
  split
  · split
    · exact ⟨fun i hi => by rw [xput_f (by omega), xu_f (by omega)]; exact h.1 i hi, by rw [xput_2]; exact h.2⟩
    · exact h
  · exact h
theorem yKeep_step {σ τ : xS} (h : yKeep σ τ) (P : Nat) (x : Int64) : yKeep σ (yStep τ P x) := by
  have hg := yKeep_give h (ypI x) (yhI x)
  exact ⟨fun i hi => by rw [yStep, xu_f (by omega), daysTo_o _ _ _ (by omega)]; exact hg.1 i hi, hg.2⟩
theorem yKeep_yr {σ τ : xS} (h : yKeep σ τ) (P : Nat) (x : Int64) (t : Nat) : yKeep σ (yrS τ P x t).2 :=
  yrG_inv yx (fun σ x => yStep σ P x) (fun υ => yKeep σ υ) (fun υ x hu => yKeep_step hu P x) τ x h t
theorem b_years {E : xE} {σ : xS} {s n : Int32} (h : Inv σ σ) : Both E yX5_years cX5_years 8 (some .int) yX6_years cX6_years 8 (some .int) [.int s, .int n] σ := by
  obtain ⟨P, H, B, U, S, N, M, hx⟩ := h.x
  have hT := hx.1
  have hP := hT.1.1
  have hH := hT.1.2.1
  have hc := c_X5_years 3 (E := E) (s := s) (n := n) hP.1 hP.2.2
  by_cases q1 : btw s 0 999999
  · by_cases q2 : btw n 0 60
    · obtain ⟨k, hk, rfl⟩ := btw_k (n := 60) rfl q2
      obtain ⟨σ1, e1⟩ : ∃ σ1, σ1 = (yrS (cpTown σ 62 2) P s.toInt64 k).2 := ⟨_, rfl⟩
      rw [yearsQ, if_pos q1, if_pos q2, nI_clamp (by omega)] at hc
      dsimp only at hc
      rw [← e1] at hc
      have ky : yKeep σ σ1 := by
        rw [e1]
        exact yKeep_yr (σ := σ) (τ := cpTown σ 62 2) ⟨fun i hi => cpTown_o (by omega), rfl⟩ P _ _
      have cf : cFr σ σ1 := ⟨fun i hi => ky.1 i (by omega), by rw [ky.2]⟩
      have e74 : σ1.1 74 = σ.1 74 := cf.1 74 (by omega)
      have hr := c_X6_years 4 (E := E) (σ := σ1) (P := P) (H := H) (N := k) (s := s) (by rw [e74]; exact hP.2.1) hP.2.2 (by rw [e74]; exact hH.2.1) hH.2.2 q1 hk
      rw [mYears] at hr
      dsimp only at hr
      have hz : zT (cpTown σ 62 2) 62 (handM σ1) 9999 P H B := (zT_cp hT town_now (by omega)).o (fun _ => rfl) (fun _ _ _ => rfl) (fun j hj => by rw [handM, cqF_in (by omega), e74, show j - 0 + 0 = j by omega])
      obtain ⟨w1, w2⟩ := yr_W s.toInt64 hz k hk
      rw [← e1] at w2
      refine b_same h hc hr cf ⟨fun i hi => ky.1 i (by omega), ky.1 53 (by omega), by rw [ky.1 52 (by omega)], by rw [ky.2]⟩ ((rFr.rf _).row (by omega)) (rS_row _ _ (by omega)) (congrArg Value.int ?_)
      obtain ⟨D0, -, -, -, m2, -⟩ := w2.2
      exact m2.symm
    · rw [yearsQ, if_pos q1, if_neg q2] at hc
      exact b_bad h hc (c_X6_years_bad 4 (fun z => q2 z.2))
  · rw [yearsQ, if_neg q1] at hc
    exact b_bad h hc (c_X6_years_bad 4 (fun z => q1 z.1))
