/-! years -/
theorem cpF_1 (σ : xS) (s t k a b : Nat) : (cpF σ s t k).1 a b = if a = t ∧ b = k then σ.1 s k else σ.1 a b := rfl
theorem cpRow_1 (σ : xS) (r1 r2 a b : Nat) : (cpRow σ r1 r2).1 a b = if a = r2 then (if b < xlen r1 then σ.1 r1 b else σ.1 a b) else σ.1 a b := by
  by_cases h : a = r2
  · subst h
    simp [cpRow, xrow, va_cpy]
  · simp [cpRow, xrow, h]
theorem xput_f {σ : xS} {r a : Nat} {i v : Int32} (h : a ≠ r) : (xput σ r i v).1 a = σ.1 a := by
  unfold xput
  split
  · rfl
  · split
    · rfl
    · exact xu_ne σ _ _ h
def yx (x : Int64) : Int64 := (x * 1103515245 + 12345) - (x * 1103515245 + 12345) / 2147483648 * 2147483648
def ypI (x : Int64) : Int32 := (x / 65536 - x / 65536 / 7 * 7).toInt32
def yhI (x : Int64) : Int32 := (x / 1048576 - x / 1048576 / 4 * 4).toInt32
def yGive (σ : xS) (p h : Int32) : xS := if inW σ 62 p then (if hasIn (σ.1 62 8) h then xput (xu σ 62 11 (σ.1 62 11 + jB σ 62 p h)) 66 p (10 + h) else σ) else σ
def yStep (σ : xS) (P : Nat) (x : Int64) : xS := xu (daysTo (yGive σ (ypI x) (yhI x)) 62 P 1) 62 10 ((yGive σ (ypI x) (yhI x)).1 62 10 + 1)
def yrG (fx : Int64 → Int64) (fs : xS → Int64 → xS) (σ : xS) (x : Int64) : Nat → Int64 × xS
  | 0 => (x, σ)
  | t + 1 => (fx (yrG fx fs σ x t).1, fs (yrG fx fs σ x t).2 (fx (yrG fx fs σ x t).1))
theorem yrG_0 (fx : Int64 → Int64) (fs : xS → Int64 → xS) (σ : xS) (x : Int64) : yrG fx fs σ x 0 = (x, σ) := rfl
theorem yrG_s (fx : Int64 → Int64) (fs : xS → Int64 → xS) (σ : xS) (x : Int64) (t : Nat) : yrG fx fs σ x (t + 1) = (fx (yrG fx fs σ x t).1, fs (yrG fx fs σ x t).2 (fx (yrG fx fs σ x t).1)) := rfl
theorem yrG_inv (fx : Int64 → Int64) (fs : xS → Int64 → xS) (I : xS → Prop) (hI : ∀ σ x, I σ → I (fs σ x)) (σ : xS) (x : Int64) (h : I σ) : ∀ t, I (yrG fx fs σ x t).2 := by
  intro t
  induction t with
  | zero => exact h
  | succ t ih => rw [yrG_s]; exact hI _ _ ih
def yrS (σ : xS) (P : Nat) (x : Int64) : Nat → Int64 × xS := yrG yx (fun σ x => yStep σ P x) σ x
theorem yrS_0 (σ : xS) (P : Nat) (x : Int64) : yrS σ P x 0 = (x, σ) := yrG_0 _ _ _ _
theorem yrS_s (σ : xS) (P : Nat) (x : Int64) (t : Nat) : yrS σ P x (t + 1) = (yx (yrS σ P x t).1, yStep (yrS σ P x t).2 P (yx (yrS σ P x t).1)) := yrG_s _ _ _ _ _
theorem yGive_7 (σ : xS) (p h : Int32) : (yGive σ p h).1 62 7 = σ.1 62 7 := by
  unfold yGive
  split
  · split
    · rw [xput_f (by decide)]; simp [xu]
    · rfl
  · rfl
theorem yStep_7 (σ : xS) (P : Nat) (x : Int64) : (yStep σ P x).1 62 7 = σ.1 62 7 := by
  rw [yStep, ← yGive_7 σ (ypI x) (yhI x)]
  simp [xu, daysTo]
theorem yrS_7 (σ : xS) (P : Nat) (x : Int64) (t : Nat) : (yrS σ P x t).2.1 62 7 = σ.1 62 7 :=
  yrG_inv yx (fun σ x => yStep σ P x) (fun τ => τ.1 62 7 = σ.1 62 7) (fun τ x h => (yStep_7 τ P x).trans h) σ x rfl t
def yearsQ (σ : xS) (P : Nat) (s n : Int32) : Int32 × xS :=
  if btw s 0 999999 then if btw n 0 60 then ((yrS (cpTown σ 62 2) P s.toInt64 n.toNatClampNeg).2.1 62 11, (yrS (cpTown σ 62 2) P s.toInt64 n.toNatClampNeg).2) else (-2, badS σ) else (-2, badS σ)
theorem c_X5_years (d : Nat) {E : xE} {σ : xS} {P : Nat} {s n : Int32} (hP : σ.1 2 7 = nI P) (hP7 : P ≤ 7) : Ct E (d + 5) yX5_years cX5_years 8 (some .int) [.ref (E.1 0), .int s, .int n] σ (some (.int (yearsQ σ P s n).1)) (yearsQ σ P s n).2 := by
  have e0 : (cpTown σ 62 2).1 62 7 = nI P := by rw [← hP]; simp [cpTown, cpF_1, cpRow_1]
  have loop : ∀ (nn : Nat), n = nI nn → nn ≤ 60 → btw s 0 999999 → btw n 0 60 → ∀ (m t : Nat) (x : Int64) (x6 x7 : Option Value), t + m = nn → x = (yrS (cpTown σ 62 2) P s.toInt64 t).1 → Ev E (rm (d + 5)) RX5 cX5_years 8 (fun v t => v = some (.int (yearsQ σ P s n).1) ∧ t = (yearsQ σ P s n).2) 46 [some (.ref (E.1 0)), some (.int s), some (.int n), some (.long x), none, some (.int (nI t)), x6, x7] [] (yrS (cpTown σ 62 2) P s.toInt64 t).2 := by
    intro nn hn hn60 hs hb m
    induction m with
    | zero =>
      intro t x x6 x7 ht hx
      have hQ : yearsQ σ P s n = ((yrS (cpTown σ 62 2) P s.toInt64 t).2.1 62 11, (yrS (cpTown σ 62 2) P s.toInt64 t).2) := by rw [yearsQ, if_pos hs, if_pos hb, hn, nI_clamp (by omega), show nn = t by omega]
      refine ev_iload_5 dX5_years_46 ?_
      refine ev_iload_2 dX5_years_48 ?_
      refine ev_icmp_ge 140 dX5_years_49 rfl (fun h49 => ?_) (fun h49 => ?_)
      · refine ev_aload_0 dX5_years_140 ?_
        refine ev_get dX5_years_141 fk_X5_32 (by first | assumption | decide) (by decide) rfl ?_
        refine ev_get dX5_years_144 fk_X5_363 (by first | assumption | decide) (by decide) rfl ?_
        exact ev_ireturn dX5_years_147 ⟨by (rw [hQ]), by (rw [hQ])⟩
      · exact absurd (by rw [hn]; exact nI_le (by omega) (by omega)) h49
    | succ m ihm =>
      intro t x x6 x7 ht hx
      have e7 := (yrS_7 (cpTown σ 62 2) P s.toInt64 t).trans e0
      have es : (yrS (cpTown σ 62 2) P s.toInt64 (t + 1)).2 = yStep (yrS (cpTown σ 62 2) P s.toInt64 t).2 P (yx x) := by rw [yrS_s, ← hx]
      have ex : (yrS (cpTown σ 62 2) P s.toInt64 (t + 1)).1 = yx x := by rw [yrS_s, ← hx]
      generalize (yrS (cpTown σ 62 2) P s.toInt64 t).2 = τ at e7 es ⊢
      have eg := (yGive_7 τ (ypI (yx x)) (yhI (yx x))).trans e7
      refine ev_iload_5 dX5_years_46 ?_
      refine ev_iload_2 dX5_years_48 ?_
      refine ev_icmp_ge 140 dX5_years_49 rfl (fun h49 => ?_) (fun h49 => ?_)
      · exact absurd h49 (by rw [hn]; exact nI_ge (by omega) (by omega))
      · refine ev_lload_3 dX5_years_52 ?_
        refine ev_ldc2_w dX5_years_53 cn_X5_346 ?_
        refine ev_lmul dX5_years_56 ?_
        refine ev_ldc2_w dX5_years_57 cn_X5_348 ?_
        refine ev_ladd dX5_years_60 ?_
        refine Ev.pc 61 rfl ?_
        refine ev_ldc2_w dX5_years_61 cn_X5_350 ?_
        refine ev_lrem dX5_years_64 (by decide) ?_
        refine ev_topl (fun x1 ex1 => ?_)
        obtain rfl : x1 = yx x := ex1
        refine ev_lstore_3 dX5_years_65 rfl ?_
        refine ev_lload_3 dX5_years_66 ?_
        refine ev_ldc2_w dX5_years_67 cn_X5_352 ?_
        refine Ev.pc 70 rfl ?_
        refine ev_ldiv dX5_years_70 (by decide) ?_
        refine ev_ldc2_w dX5_years_71 cn_X5_354 ?_
        refine ev_lrem dX5_years_74 (by decide) ?_
        refine ev_l2i dX5_years_75 ?_
        refine ev_topi (fun x1 ex1 => ?_)
        obtain rfl : x1 = ypI (yx x) := ex1
        refine ev_istore_6 dX5_years_76 rfl ?_
        refine Ev.pc 78 rfl ?_
        refine ev_lload_3 dX5_years_78 ?_
        refine ev_ldc2_w dX5_years_79 cn_X5_356 ?_
        refine ev_ldiv dX5_years_82 (by decide) ?_
        refine ev_ldc2_w dX5_years_83 cn_X5_358 ?_
        refine ev_lrem dX5_years_86 (by decide) ?_
        refine Ev.pc 87 rfl ?_
        refine ev_l2i dX5_years_87 ?_
        refine ev_topi (fun x1 ex1 => ?_)
        obtain rfl : x1 = yhI (yx x) := ex1
        refine ev_istore_7 dX5_years_88 rfl ?_
        refine ev_aload_0 dX5_years_90 ?_
        refine ev_get dX5_years_91 fk_X5_32 (by first | assumption | decide) (by decide) rfl ?_
        refine ev_iload_6 dX5_years_94 ?_
        refine Ev.pc 96 rfl ?_
        refine ev_invV (ci := 4) dX5_years_96 ml_X5_360 mt_X4_isInWindow (c_X4_isInWindow d (t := 62) town_trial) (by first | assumption | decide) (by decide) rfl rfl rfl (rm_ok (by omega)) (Nat.le_of_ble_eq_true rfl) ?_
        refine Ev.pc 99 rfl ?_
        refine ev_if_eq 126 dX5_years_99 rfl (fun h99 => ?_) (fun h99 => ?_)
        · have g := b2i_0.mp h99
          have hg : yGive τ (ypI (yx x)) (yhI (yx x)) = τ := by rw [yGive, if_neg g]
          try simp only [Nat.reduceAdd]
          rw [← hg]
          refine ev_aload_0 dX5_years_126 ?_
          refine ev_get dX5_years_127 fk_X5_32 (by first | assumption | decide) (by decide) rfl ?_
          refine ev_iconst_1 dX5_years_130 ?_
          refine ev_invV (ci := 4) dX5_years_131 ml_X5_171 mt_X4_passDays (c_X4_passDays d (t := 62) (P := P) town_trial eg hP7) (by first | assumption | decide) (by decide) rfl rfl rfl (rm_ok (by omega)) (Nat.le_of_ble_eq_true rfl) ?_
          refine Ev.pc 134 rfl ?_
          refine ev_iinc_5 (1) dX5_years_134 rfl rfl ?_
          refine Ev.pc 137 rfl ?_
          refine ev_goto 46 dX5_years_137 rfl ?_
          rw [nI_1]
          have h := ihm (t + 1) (yx x) (some (.int (ypI (yx x)))) (some (.int (yhI (yx x)))) (by omega) ex.symm
          rw [es] at h
          exact h
        · have g := Decidable.not_not.mp (fun h => h99 (b2i_0.mpr h))
          refine ev_aload_0 dX5_years_102 ?_
          refine ev_get dX5_years_103 fk_X5_32 (by first | assumption | decide) (by decide) rfl ?_
          refine ev_iload_7 dX5_years_106 ?_
          refine ev_invV (ci := 4) dX5_years_108 ml_X5_200 mt_X4_hasHearer (c_X4_hasHearer d (t := 62) town_trial.1) (by first | assumption | decide) (by decide) rfl rfl rfl (rm_ok (by omega)) (Nat.le_of_ble_eq_true rfl) ?_
          refine Ev.pc 111 rfl ?_
          refine ev_if_eq 126 dX5_years_111 rfl (fun h111 => ?_) (fun h111 => ?_)
          · have g2 := b2i_0.mp h111
            have hg : yGive τ (ypI (yx x)) (yhI (yx x)) = τ := by rw [yGive, if_pos g, if_neg g2]
            try simp only [Nat.reduceAdd]
            rw [← hg]
            refine ev_aload_0 dX5_years_126 ?_
            refine ev_get dX5_years_127 fk_X5_32 (by first | assumption | decide) (by decide) rfl ?_
            refine ev_iconst_1 dX5_years_130 ?_
            refine ev_invV (ci := 4) dX5_years_131 ml_X5_171 mt_X4_passDays (c_X4_passDays d (t := 62) (P := P) town_trial eg hP7) (by first | assumption | decide) (by decide) rfl rfl rfl (rm_ok (by omega)) (Nat.le_of_ble_eq_true rfl) ?_
            refine Ev.pc 134 rfl ?_
            refine ev_iinc_5 (1) dX5_years_134 rfl rfl ?_
            refine Ev.pc 137 rfl ?_
            refine ev_goto 46 dX5_years_137 rfl ?_
            rw [nI_1]
            have h := ihm (t + 1) (yx x) (some (.int (ypI (yx x)))) (some (.int (yhI (yx x)))) (by omega) ex.symm
            rw [es] at h
            exact h
          · have g2 := Decidable.not_not.mp (fun h => h111 (b2i_0.mpr h))
            have hg : yGive τ (ypI (yx x)) (yhI (yx x)) = xput (xu τ 62 11 (τ.1 62 11 + jB τ 62 (ypI (yx x)) (yhI (yx x)))) 66 (ypI (yx x)) (10 + yhI (yx x)) := by rw [yGive, if_pos g, if_pos g2]
            refine ev_aload_0 dX5_years_114 ?_
            refine ev_get dX5_years_115 fk_X5_32 (by first | assumption | decide) (by decide) rfl ?_
            refine ev_iload_6 dX5_years_118 ?_
            refine ev_iload_7 dX5_years_120 ?_
            refine ev_invV (ci := 4) dX5_years_122 ml_X5_206 mt_X4_give (c_X4_give d (t := 62) town_trial) (by first | assumption | decide) (by decide) rfl rfl rfl (rm_ok (by omega)) (Nat.le_of_ble_eq_true rfl) ?_
            refine Ev.pc 125 rfl ?_
            refine ev_pop dX5_years_125 rfl ?_
            try simp only [Nat.reduceAdd]
            rw [← hg]
            refine ev_aload_0 dX5_years_126 ?_
            refine ev_get dX5_years_127 fk_X5_32 (by first | assumption | decide) (by decide) rfl ?_
            refine ev_iconst_1 dX5_years_130 ?_
            refine ev_invV (ci := 4) dX5_years_131 ml_X5_171 mt_X4_passDays (c_X4_passDays d (t := 62) (P := P) town_trial eg hP7) (by first | assumption | decide) (by decide) rfl rfl rfl (rm_ok (by omega)) (Nat.le_of_ble_eq_true rfl) ?_
            refine Ev.pc 134 rfl ?_
            refine ev_iinc_5 (1) dX5_years_134 rfl rfl ?_
            refine ev_goto 46 dX5_years_137 rfl ?_
            rw [nI_1]
            have h := ihm (t + 1) (yx x) (some (.int (ypI (yx x)))) (some (.int (yhI (yx x)))) (by omega) ex.symm
            rw [es] at h
            exact h
  refine Ct.of (by decide +kernel) (Nat.le_of_ble_eq_true rfl) ⟨_, rfl, rfl⟩ ?_
  show Ev E _ RX5 cX5_years 8 _ 0 [some (.ref (E.1 0)), some (.int s), some (.int n), none, none, none, none, none] [] _
  refine ev_iload_1 dX5_years_0 ?_
  refine ev_iconst_0 dX5_years_1 ?_
  refine ev_ldc_w dX5_years_2 cn_X5_345 ?_
  refine ev_invS dX5_years_5 ml_X5_98 mt_X5_between (c_X5_between d) rfl rfl (rm_ok (by omega)) (Nat.le_of_ble_eq_true rfl) ?_
  refine Ev.pc 8 rfl ?_
  refine ev_if_eq 21 dX5_years_8 rfl (fun h8 => ?_) (fun h8 => ?_)
  · refine ev_aload_0 dX5_years_21 ?_
    refine ev_invV (ci := 5) dX5_years_22 ml_X5_102 mt_X5_bad (c_X5_bad d) (by first | assumption | decide) (by decide) rfl rfl rfl (rm_ok (by omega)) (Nat.le_of_ble_eq_true rfl) ?_
    refine Ev.pc 25 rfl ?_
    exact ev_ireturn dX5_years_25 ⟨by ((try simp only [b2i_0, b2i_1, Decidable.not_not] at *); simp only [yearsQ]; repeat' (first | with_reducible rfl | contradiction | (exfalso; simp_all; done) | split)), by ((try simp only [b2i_0, b2i_1, Decidable.not_not] at *); simp only [yearsQ, badS]; repeat' (first | with_reducible rfl | contradiction | (exfalso; simp_all; done) | split))⟩
  · refine ev_iload_2 dX5_years_11 ?_
    refine ev_iconst_0 dX5_years_12 ?_
    refine ev_bipush (60) dX5_years_13 rfl ?_
    refine ev_invS dX5_years_15 ml_X5_98 mt_X5_between (c_X5_between d) rfl rfl (rm_ok (by omega)) (Nat.le_of_ble_eq_true rfl) ?_
    refine Ev.pc 18 rfl ?_
    refine ev_if_ne 26 dX5_years_18 rfl (fun h18 => ?_) (fun h18 => ?_)
    · refine ev_aload_0 dX5_years_26 ?_
      refine ev_get dX5_years_27 fk_X5_32 (by first | assumption | decide) (by decide) rfl ?_
      refine ev_aload_0 dX5_years_30 ?_
      refine ev_get dX5_years_31 fk_X5_10 (by first | assumption | decide) (by decide) rfl ?_
      refine ev_get dX5_years_34 fk_X5_89 (by first | assumption | decide) (by decide) rfl ?_
      simp only [Nat.reduceAdd]
      refine Ev.pc 37 rfl ?_
      refine ev_invV (ci := 4) dX5_years_37 ml_X5_158 mt_X4_take (c_X4_take d (t := 62) (s := 2) town_trial town_now) (by first | assumption | decide) (by decide) rfl rfl rfl (rm_ok (by omega)) (Nat.le_of_ble_eq_true rfl) ?_
      refine Ev.pc 40 rfl ?_
      refine ev_iload_1 dX5_years_40 ?_
      refine ev_i2l dX5_years_41 ?_
      refine ev_lstore_3 dX5_years_42 rfl ?_
      refine ev_iconst_0 dX5_years_43 ?_
      refine Ev.pc 44 rfl ?_
      refine ev_istore_5 dX5_years_44 rfl ?_
      have hs := Decidable.not_not.mp (fun h => h8 (b2i_0.mpr h))
      have hb := Decidable.not_not.mp (fun h => h18 (b2i_0.mpr h))
      obtain ⟨nn, hn1, hn2⟩ : ∃ nn, nn ≤ 60 ∧ n = nI nn := nI_of2 (M := 60) (by decide) (Int32.not_lt.mpr hb.1) hb.2
      have h := loop nn hn2 hn1 hs hb nn 0 s.toInt64 none none (by omega) (by rw [yrS_0])
      rw [yrS_0] at h
      exact h
    · refine ev_aload_0 dX5_years_21 ?_
      refine ev_invV (ci := 5) dX5_years_22 ml_X5_102 mt_X5_bad (c_X5_bad d) (by first | assumption | decide) (by decide) rfl rfl rfl (rm_ok (by omega)) (Nat.le_of_ble_eq_true rfl) ?_
      refine Ev.pc 25 rfl ?_
      exact ev_ireturn dX5_years_25 ⟨by ((try simp only [b2i_0, b2i_1, Decidable.not_not] at *); simp only [yearsQ]; repeat' (first | with_reducible rfl | contradiction | (exfalso; simp_all; done) | split)), by ((try simp only [b2i_0, b2i_1, Decidable.not_not] at *); simp only [yearsQ, badS]; repeat' (first | with_reducible rfl | contradiction | (exfalso; simp_all; done) | split))⟩
