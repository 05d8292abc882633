/-! the reader: cell 52, its text 53, its draft 54 -/
def eor (p : Nat → Bool) : Nat → Nat → Nat
  | 0, a => a
  | n + 1, a => if p a then eor p n (a + 1) else a
theorem eor_ge (p : Nat → Bool) : ∀ n a, a ≤ eor p n a := by
  intro n
  induction n with
  | zero => intro a; exact Nat.le_refl _
  | succ n ih =>
    intro a
    rw [eor]
    split
    · exact Nat.le_trans (Nat.le_succ a) (ih (a + 1))
    · exact Nat.le_refl _
theorem eor_le (p : Nat → Bool) : ∀ n a, eor p n a ≤ a + n := by
  intro n
  induction n with
  | zero => intro a; exact Nat.le_refl _
  | succ n ih =>
    intro a
    rw [eor]
    split
    · exact Nat.le_trans (ih (a + 1)) (by omega)
    · omega
def eorF (p : Nat → Bool) (L a : Nat) : Nat := eor p (L - a) a
theorem eorF_ge (p : Nat → Bool) (L a : Nat) : a ≤ eorF p L a := eor_ge p _ a
theorem eorF_le (p : Nat → Bool) {L a : Nat} (h : a ≤ L) : eorF p L a ≤ L := Nat.le_trans (eor_le p _ a) (by omega)
def inR (T : Nat → Int32) (lo hi : Int32) (k : Nat) : Bool := decide (lo ≤ T k ∧ T k ≤ hi)
def tS (T : Nat → Int32) (L a : Nat) : Nat := eorF (inR T 32 32) L a
def tN (T : Nat → Int32) (L a : Nat) : Nat := if L ≤ tS T L a then tS T L a else if inR T 97 122 (tS T L a) = true then eorF (inR T 97 122) L (tS T L a) else if inR T 48 57 (tS T L a) = true then eorF (inR T 48 57) L (tS T L a) else tS T L a + 1
def tK (T : Nat → Int32) (L a : Nat) : Int32 := if L ≤ tS T L a then 0 else if inR T 97 122 (tS T L a) = true then 1 else if inR T 48 57 (tS T L a) = true then (if eorF (inR T 48 57) L (tS T L a) - tS T L a ≤ 2 then 2 else 4) else if T (tS T L a) = 59 then 3 else 4
def numF (T : Nat → Int32) (s : Nat) : Nat → Int32
  | 0 => 0
  | n + 1 => 10 * numF T s n + T (s + n) - 48
def tV (T : Nat → Int32) (L a : Nat) : Int32 := if L ≤ tS T L a then 0 else if inR T 97 122 (tS T L a) = true then 0 else if inR T 48 57 (tS T L a) = true then numF T (tS T L a) (min (eorF (inR T 48 57) L (tS T L a) - tS T L a) 2) else 0
theorem tS_ge (T : Nat → Int32) (L a : Nat) : a ≤ tS T L a := eorF_ge _ _ _
theorem tS_le (T : Nat → Int32) {L a : Nat} (h : a ≤ L) : tS T L a ≤ L := eorF_le _ h
theorem tN_ge (T : Nat → Int32) (L a : Nat) : tS T L a ≤ tN T L a := by
  unfold tN
  split
  · exact Nat.le_refl _
  · split
    · exact eorF_ge _ _ _
    · split
      · exact eorF_ge _ _ _
      · exact Nat.le_succ _
theorem tN_le (T : Nat → Int32) {L a : Nat} (h : a ≤ L) : tN T L a ≤ L := by
  have h1 := tS_le T h
  unfold tN
  split
  · exact h1
  · split
    · exact eorF_le _ h1
    · split
      · exact eorF_le _ h1
      · omega
theorem c_X2_endOfRun (d : Nat) {E : xE} {σ : xS} {L a : Nat} {lo hi : Int32} (hL : σ.1 52 2 = nI L) (hL1 : L ≤ 150) (ha : a ≤ L) : Ct E (d + 1) yX2_endOfRun cX2_endOfRun 5 (some .int) [.ref (E.1 52), .int (nI a), .int lo, .int hi] σ (some (.int (nI (eorF (inR (σ.1 53) lo hi) L a)))) σ := by
  have e53 : xlen 53 = 150 := by decide
  have loop : ∀ (n k : Nat), k + n = L → eorF (inR (σ.1 53) lo hi) L a = eor (inR (σ.1 53) lo hi) n k → Ev E (rm (d + 1)) RX2 cX2_endOfRun 5 (fun v t => v = some (.int (nI (eorF (inR (σ.1 53) lo hi) L a))) ∧ t = σ) 3 [some (.ref (E.1 52)), some (.int (nI a)), some (.int lo), some (.int hi), some (.int (nI k))] [] σ := by
    intro n
    induction n with
    | zero =>
      intro k hk he
      refine ev_iload_4 dX2_endOfRun_3 ?_
      refine ev_aload_0 dX2_endOfRun_5 ?_
      refine ev_get dX2_endOfRun_6 fk_X2_22 (by first | assumption | decide) (by decide) rfl ?_
      refine ev_icmp_ge 35 dX2_endOfRun_9 rfl (fun h9 => ?_) (fun h9 => ?_)
      · refine ev_iload_4 dX2_endOfRun_35 ?_
        exact ev_ireturn dX2_endOfRun_37 ⟨by (rw [he]; rfl), by rfl⟩
      · exact absurd (by rw [hL]; exact nI_le (by omega) (by omega)) h9
    | succ n ih =>
      intro k hk he
      have e1 : xat σ 53 (nI k) = σ.1 53 k := xat_nI (by omega)
      rw [eor] at he
      refine ev_iload_4 dX2_endOfRun_3 ?_
      refine ev_aload_0 dX2_endOfRun_5 ?_
      refine ev_get dX2_endOfRun_6 fk_X2_22 (by first | assumption | decide) (by decide) rfl ?_
      refine ev_icmp_ge 35 dX2_endOfRun_9 rfl (fun h9 => ?_) (fun h9 => ?_)
      · exact absurd h9 (by rw [hL]; exact nI_ge (by omega) (by omega))
      · refine ev_aload_0 dX2_endOfRun_12 ?_
        refine ev_get dX2_endOfRun_13 fk_X2_9 (by first | assumption | decide) (by decide) rfl ?_
        simp only [Nat.reduceAdd]
        refine ev_iload_4 dX2_endOfRun_16 ?_
        refine ev_invS dX2_endOfRun_18 ml_X2_131 mt_X5_at (c_X5_at d (by first | assumption | decide)) rfl rfl (rm_ok (by omega)) (Nat.le_of_ble_eq_true rfl) ?_
        rw [e1]
        refine Ev.pc 21 rfl ?_
        refine ev_iload_2 dX2_endOfRun_21 ?_
        refine Ev.pc 22 rfl ?_
        refine ev_iload_3 dX2_endOfRun_22 ?_
        refine ev_invS dX2_endOfRun_23 ml_X2_91 mt_X5_between (c_X5_between d) rfl rfl (rm_ok (by omega)) (Nat.le_of_ble_eq_true rfl) ?_
        refine Ev.pc 26 rfl ?_
        refine ev_if_eq 35 dX2_endOfRun_26 rfl (fun h26 => ?_) (fun h26 => ?_)
        · have g := b2i_0.mp h26
          refine ev_iload_4 dX2_endOfRun_35 ?_
          exact ev_ireturn dX2_endOfRun_37 ⟨by (rw [if_neg (by simpa only [inR, decide_eq_true_eq] using g)] at he; rw [he]), by rfl⟩
        · have g := Decidable.not_not.mp (fun h => h26 (b2i_0.mpr h))
          refine ev_iinc_4 (1) dX2_endOfRun_29 rfl rfl ?_
          refine ev_goto 3 dX2_endOfRun_32 rfl ?_
          rw [nI_1]
          exact ih (k + 1) (by omega) (by rw [if_pos (by simpa only [inR, decide_eq_true_eq] using g)] at he; exact he)
  refine Ct.of (by decide +kernel) (Nat.le_of_ble_eq_true rfl) ⟨_, rfl, rfl⟩ ?_
  show Ev E _ RX2 cX2_endOfRun 5 _ 0 [some (.ref (E.1 52)), some (.int (nI a)), some (.int lo), some (.int hi), none] [] _
  refine ev_iload_1 dX2_endOfRun_0 ?_
  refine ev_istore_4 dX2_endOfRun_1 rfl ?_
  exact loop (L - a) a (by omega) rfl
theorem c_X2_numberAtHand (d : Nat) {E : xE} {σ : xS} {s e : Nat} (hs : σ.1 52 6 = nI s) (he : σ.1 52 7 = nI e) (hse : s ≤ e) (he1 : e ≤ 150) : Ct E (d + 1) yX2_numberAtHand cX2_numberAtHand 3 (some .int) [.ref (E.1 52)] σ (some (.int (numF (σ.1 53) s (min (e - s) 2)))) σ := by
  have e53 : xlen 53 = 150 := by decide
  have loop : ∀ (n k : Nat) (v : Int32), k + n = min (e - s) 2 → v = numF (σ.1 53) s k → Ev E (rm (d + 1)) RX2 cX2_numberAtHand 3 (fun v t => v = some (.int (numF (σ.1 53) s (min (e - s) 2))) ∧ t = σ) 7 [some (.ref (E.1 52)), some (.int v), some (.int (nI (s + k)))] [] σ := by
    intro n
    induction n with
    | zero =>
      intro k v hk hv
      by_cases h2 : e ≤ s + k
      ·
        refine ev_iload_2 dX2_numberAtHand_7 ?_
        refine ev_aload_0 dX2_numberAtHand_8 ?_
        refine ev_get dX2_numberAtHand_9 fk_X2_38 (by first | assumption | decide) (by decide) rfl ?_
        refine ev_icmp_ge 48 dX2_numberAtHand_12 rfl (fun h12 => ?_) (fun h12 => ?_)
        · refine ev_iload_1 dX2_numberAtHand_48 ?_
          exact ev_ireturn dX2_numberAtHand_49 ⟨by (rw [hv, show k = min (e - s) 2 by omega]), by rfl⟩
        · exact absurd (by rw [he]; exact nI_le (by omega) (by omega)) h12
      ·
        have ek : k = 2 := by omega
        subst ek
        refine ev_iload_2 dX2_numberAtHand_7 ?_
        refine ev_aload_0 dX2_numberAtHand_8 ?_
        refine ev_get dX2_numberAtHand_9 fk_X2_38 (by first | assumption | decide) (by decide) rfl ?_
        refine ev_icmp_ge 48 dX2_numberAtHand_12 rfl (fun h12 => ?_) (fun h12 => ?_)
        · exact absurd h12 (by rw [he]; exact nI_ge (by omega) (by omega))
        · refine ev_iload_2 dX2_numberAtHand_15 ?_
          refine ev_aload_0 dX2_numberAtHand_16 ?_
          refine ev_get dX2_numberAtHand_17 fk_X2_35 (by first | assumption | decide) (by decide) rfl ?_
          refine ev_iconst_2 dX2_numberAtHand_20 ?_
          refine ev_iadd dX2_numberAtHand_21 ?_
          refine Ev.pc 22 rfl ?_
          refine ev_icmp_ge 48 dX2_numberAtHand_22 rfl (fun h22 => ?_) (fun h22 => ?_)
          · refine ev_iload_1 dX2_numberAtHand_48 ?_
            exact ev_ireturn dX2_numberAtHand_49 ⟨by (rw [hv, show min (e - s) 2 = 2 by omega]), by rfl⟩
          · exact absurd (by rw [hs]; exact (show nI s + nI 2 ≤ nI (s + 2) by rw [nI_add]; exact nI_le (by omega) (by omega))) h22
    | succ n ih =>
      intro k v hk hv
      have e1 : xat σ 53 (nI (s + k)) = σ.1 53 (s + k) := xat_nI (by omega)
      refine ev_iload_2 dX2_numberAtHand_7 ?_
      refine ev_aload_0 dX2_numberAtHand_8 ?_
      refine ev_get dX2_numberAtHand_9 fk_X2_38 (by first | assumption | decide) (by decide) rfl ?_
      refine ev_icmp_ge 48 dX2_numberAtHand_12 rfl (fun h12 => ?_) (fun h12 => ?_)
      · exact absurd h12 (by rw [he]; exact nI_ge (by omega) (by omega))
      · refine ev_iload_2 dX2_numberAtHand_15 ?_
        refine ev_aload_0 dX2_numberAtHand_16 ?_
        refine ev_get dX2_numberAtHand_17 fk_X2_35 (by first | assumption | decide) (by decide) rfl ?_
        refine ev_iconst_2 dX2_numberAtHand_20 ?_
        refine ev_iadd dX2_numberAtHand_21 ?_
        refine Ev.pc 22 rfl ?_
        refine ev_icmp_ge 48 dX2_numberAtHand_22 rfl (fun h22 => ?_) (fun h22 => ?_)
        · exact absurd h22 (by rw [hs]; exact (show ¬ nI s + nI 2 ≤ nI (s + k) by rw [nI_add]; exact nI_ge (by omega) (by omega)))
        · refine ev_bipush (10) dX2_numberAtHand_25 rfl ?_
          refine ev_iload_1 dX2_numberAtHand_27 ?_
          refine ev_imul dX2_numberAtHand_28 ?_
          refine ev_aload_0 dX2_numberAtHand_29 ?_
          refine ev_get dX2_numberAtHand_30 fk_X2_9 (by first | assumption | decide) (by decide) rfl ?_
          simp only [Nat.reduceAdd]
          refine Ev.pc 33 rfl ?_
          refine ev_iload_2 dX2_numberAtHand_33 ?_
          refine ev_invS dX2_numberAtHand_34 ml_X2_131 mt_X5_at (c_X5_at d (by first | assumption | decide)) rfl rfl (rm_ok (by omega)) (Nat.le_of_ble_eq_true rfl) ?_
          refine Ev.pc 37 rfl ?_
          refine ev_iadd dX2_numberAtHand_37 ?_
          refine ev_bipush (48) dX2_numberAtHand_38 rfl ?_
          refine ev_isub dX2_numberAtHand_40 ?_
          refine Ev.pc 41 rfl ?_
          refine ev_istore_1 dX2_numberAtHand_41 rfl ?_
          refine ev_iinc_2 (1) dX2_numberAtHand_42 rfl rfl ?_
          refine ev_goto 7 dX2_numberAtHand_45 rfl ?_
          rw [nI_1]
          exact ih (k + 1) _ (by omega) (by rw [e1, hv]; rfl)
  refine Ct.of (by decide +kernel) (Nat.le_of_ble_eq_true rfl) ⟨_, rfl, rfl⟩ ?_
  show Ev E _ RX2 cX2_numberAtHand 3 _ 0 [some (.ref (E.1 52)), none, none] [] _
  refine ev_iconst_0 dX2_numberAtHand_0 ?_
  refine ev_istore_1 dX2_numberAtHand_1 rfl ?_
  refine ev_aload_0 dX2_numberAtHand_2 ?_
  refine ev_get dX2_numberAtHand_3 fk_X2_35 (by first | assumption | decide) (by decide) rfl ?_
  refine ev_istore_2 dX2_numberAtHand_6 rfl ?_
  refine Ev.pc 7 rfl ?_
  rw [hs]
  exact loop (min (e - s) 2) 0 0 (by omega) rfl
def setR (σ : xS) (tk st nx vl : Int32) : xS := (fun a b => if a = 52 then (if b = 5 then tk else if b = 6 then st else if b = 7 then nx else if b = 8 then vl else σ.1 a b) else σ.1 a b, σ.2)
theorem setR_eq (σ τ : xS) (tk st nx vl : Int32) (h1 : τ.1 52 5 = tk) (h2 : τ.1 52 6 = st) (h3 : τ.1 52 7 = nx) (h4 : τ.1 52 8 = vl) (h5 : ∀ b, b ≠ 5 → b ≠ 6 → b ≠ 7 → b ≠ 8 → τ.1 52 b = σ.1 52 b) (h6 : ∀ a b, a ≠ 52 → τ.1 a b = σ.1 a b) (h7 : τ.2 = σ.2) : τ = setR σ tk st nx vl := by
  refine xS_ext (fun a b => ?_) h7
  by_cases ha : a = 52
  · subst ha
    by_cases q5 : b = 5
    · subst q5; simp [setR, h1]
    · by_cases q6 : b = 6
      · subst q6; simp [setR, h2]
      · by_cases q7 : b = 7
        · subst q7; simp [setR, h3]
        · by_cases q8 : b = 8
          · subst q8; simp [setR, h4]
          · simp [setR, q5, q6, q7, q8, h5 b q5 q6 q7 q8]
  · simp [setR, ha, h6 a b ha]
def advT (σ : xS) (L a : Nat) : xS := setR σ (tK (σ.1 53) L a) (nI (tS (σ.1 53) L a)) (nI (tN (σ.1 53) L a)) (tV (σ.1 53) L a)
def adv (σ : xS) : xS := if σ.1 52 3 = -1 then advT σ (σ.1 52 2).toNatClampNeg (σ.1 52 7).toNatClampNeg else σ
def RdOK (σ : xS) : Prop := ∃ L a, σ.1 52 2 = nI L ∧ L ≤ 150 ∧ σ.1 52 7 = nI a ∧ a ≤ L
theorem adv_leaf {σ : xS} {L a : Nat} (hL : σ.1 52 2 = nI L) (hL1 : L ≤ 150) (ha : σ.1 52 7 = nI a) (haL : a ≤ L) (h0 : σ.1 52 3 = -1) (τ : xS) (h1 : τ.1 52 5 = tK (σ.1 53) L a) (h2 : τ.1 52 6 = nI (tS (σ.1 53) L a)) (h3 : τ.1 52 7 = nI (tN (σ.1 53) L a)) (h4 : τ.1 52 8 = tV (σ.1 53) L a)
    (h5 : ∀ b, b ≠ 5 → b ≠ 6 → b ≠ 7 → b ≠ 8 → τ.1 52 b = σ.1 52 b) (h6 : ∀ a b, a ≠ 52 → τ.1 a b = σ.1 a b) (h7 : τ.2 = σ.2) : τ = adv σ := by
  rw [setR_eq σ τ _ _ _ _ h1 h2 h3 h4 h5 h6 h7, adv, if_pos h0, hL, ha, nI_clamp (by omega), nI_clamp (by omega)]
  rfl
theorem c_X2_advance (d : Nat) {E : xE} {σ : xS} (hr : RdOK σ) : Ct E (d + 2) yX2_advance cX2_advance 2 none [.ref (E.1 52)] σ none (adv σ) := by
  obtain ⟨L, a, hL, hL1, ha, haL⟩ := hr
  have e53 : xlen 53 = 150 := by decide
  by_cases h0 : σ.1 52 3 = -1
  · have hsL := tS_le (σ.1 53) haL
    have fin := fun τ => adv_leaf hL hL1 ha haL h0 τ
    have key : ∀ (x1 : Option Value), Ev E (rm (d + 2)) RX2 cX2_advance 2 (fun v t => v = none ∧ t = adv σ) 30 [some (.ref (E.1 52)), x1] [] (xu (xu σ 52 6 (nI (tS (σ.1 53) L a))) 52 8 0) := by
      intro x1
      obtain ⟨τ, hτ⟩ : ∃ τ, τ = xu (xu σ 52 6 (nI (tS (σ.1 53) L a))) 52 8 0 := ⟨_, rfl⟩
      rw [← hτ]
      have t2 : τ.1 52 2 = nI L := by rw [hτ]; simp [xu, hL]
      have t6 : τ.1 52 6 = nI (tS (σ.1 53) L a) := by rw [hτ]; simp [xu]
      have t8 : τ.1 52 8 = 0 := by rw [hτ]; simp [xu]
      have t53 : τ.1 53 = σ.1 53 := by rw [hτ]; funext b; simp [xu]
      have tb : ∀ b, b ≠ 6 → b ≠ 8 → τ.1 52 b = σ.1 52 b := fun b q6 q8 => by rw [hτ]; simp [xu, q6, q8]
      have ta : ∀ a b, a ≠ 52 → τ.1 a b = σ.1 a b := fun a b q => by rw [hτ]; simp [xu, q]
      have t' : τ.2 = σ.2 := by rw [hτ]; rfl
      by_cases hend : L ≤ tS (σ.1 53) L a
      · have kK : tK (σ.1 53) L a = 0 := by rw [tK, if_pos hend]
        have kN : tN (σ.1 53) L a = tS (σ.1 53) L a := by rw [tN, if_pos hend]
        have kV : tV (σ.1 53) L a = 0 := by rw [tV, if_pos hend]
        have kin : ¬ τ.1 52 6 < τ.1 52 2 := by rw [t6, t2]; exact nI_nlt hend (by omega)
        refine ev_aload_0 dX2_advance_30 ?_
        refine ev_get dX2_advance_31 fk_X2_9 (by first | assumption | decide) (by decide) rfl ?_
        simp only [Nat.reduceAdd]
        refine ev_aload_0 dX2_advance_34 ?_
        refine ev_get dX2_advance_35 fk_X2_35 (by first | assumption | decide) (by decide) rfl ?_
        refine ev_invS dX2_advance_38 ml_X2_131 mt_X5_at (c_X5_at d (by first | assumption | decide)) rfl rfl (rm_ok (by omega)) (Nat.le_of_ble_eq_true rfl) ?_
        refine Ev.pc 41 rfl ?_
        refine ev_istore_1 dX2_advance_41 rfl ?_
        refine ev_aload_0 dX2_advance_42 ?_
        refine ev_get dX2_advance_43 fk_X2_35 (by first | assumption | decide) (by decide) rfl ?_
        refine ev_aload_0 dX2_advance_46 ?_
        refine ev_get dX2_advance_47 fk_X2_22 (by first | assumption | decide) (by decide) rfl ?_
        refine Ev.pc 50 rfl ?_
        refine ev_icmp_lt 69 dX2_advance_50 rfl (fun h50 => ?_) (fun h50 => ?_)
        · exact absurd h50 kin
        · refine ev_aload_0 dX2_advance_53 ?_
          refine ev_iconst_0 dX2_advance_54 ?_
          refine ev_put dX2_advance_55 fk_X2_32 (by first | assumption | decide) (by decide) rfl ?_
          refine ev_aload_0 dX2_advance_58 ?_
          refine ev_aload_0 dX2_advance_59 ?_
          refine Ev.pc 60 rfl ?_
          refine ev_get dX2_advance_60 fk_X2_35 (by first | assumption | decide) (by decide) rfl ?_
          refine ev_put dX2_advance_63 fk_X2_38 (by first | assumption | decide) (by decide) rfl ?_
          refine ev_goto 189 dX2_advance_66 rfl ?_
          exact ev_return dX2_advance_189 ⟨by rfl, by (refine fin _ ?_ ?_ ?_ ?_ ?_ ?_ ?_ <;> first | (intro b q5 q6 q7 q8; simp [xu, q5, q7]; exact tb b q6 q8) | (intro a b q; simp [xu, q]; exact ta a b q) | exact t' | (simp [xu, t6, t8, kK, kN, kV]; done))⟩
      · have hlt : tS (σ.1 53) L a < L := by omega
        have kin : τ.1 52 6 < τ.1 52 2 := by rw [t6, t2]; exact nI_lt hlt (by omega)
        have kat : xat τ 53 (τ.1 52 6) = σ.1 53 (tS (σ.1 53) L a) := by rw [t6, xat_nI (by omega), t53]
        have keor : ∀ lo hi, eorF (inR (τ.1 53) lo hi) L (tS (σ.1 53) L a) = eorF (inR (σ.1 53) lo hi) L (tS (σ.1 53) L a) := fun lo hi => by rw [t53]
        by_cases haz : inR (σ.1 53) 97 122 (tS (σ.1 53) L a) = true
        · have kK : tK (σ.1 53) L a = 1 := by rw [tK, if_neg hend, if_pos haz]
          have kN : tN (σ.1 53) L a = eorF (inR (σ.1 53) 97 122) L (tS (σ.1 53) L a) := by rw [tN, if_neg hend, if_pos haz]
          have kV : tV (σ.1 53) L a = 0 := by rw [tV, if_neg hend, if_pos haz]
          have g : btw (σ.1 53 (tS (σ.1 53) L a)) 97 122 := by simpa only [inR, decide_eq_true_eq] using haz
          refine ev_aload_0 dX2_advance_30 ?_
          refine ev_get dX2_advance_31 fk_X2_9 (by first | assumption | decide) (by decide) rfl ?_
          simp only [Nat.reduceAdd]
          refine ev_aload_0 dX2_advance_34 ?_
          refine ev_get dX2_advance_35 fk_X2_35 (by first | assumption | decide) (by decide) rfl ?_
          refine ev_invS dX2_advance_38 ml_X2_131 mt_X5_at (c_X5_at d (by first | assumption | decide)) rfl rfl (rm_ok (by omega)) (Nat.le_of_ble_eq_true rfl) ?_
          rw [kat]
          refine Ev.pc 41 rfl ?_
          refine ev_istore_1 dX2_advance_41 rfl ?_
          refine ev_aload_0 dX2_advance_42 ?_
          refine ev_get dX2_advance_43 fk_X2_35 (by first | assumption | decide) (by decide) rfl ?_
          refine ev_aload_0 dX2_advance_46 ?_
          refine ev_get dX2_advance_47 fk_X2_22 (by first | assumption | decide) (by decide) rfl ?_
          refine Ev.pc 50 rfl ?_
          refine ev_icmp_lt 69 dX2_advance_50 rfl (fun h50 => ?_) (fun h50 => ?_)
          · refine ev_iload_1 dX2_advance_69 ?_
            refine ev_bipush (97) dX2_advance_70 rfl ?_
            refine ev_bipush (122) dX2_advance_72 rfl ?_
            refine ev_invS dX2_advance_74 ml_X2_91 mt_X5_between (c_X5_between d) rfl rfl (rm_ok (by omega)) (Nat.le_of_ble_eq_true rfl) ?_
            refine Ev.pc 77 rfl ?_
            refine ev_if_eq 104 dX2_advance_77 rfl (fun h77 => ?_) (fun h77 => ?_)
            · exact absurd g (b2i_0.mp h77)
            · refine ev_aload_0 dX2_advance_80 ?_
              refine ev_iconst_1 dX2_advance_81 ?_
              refine ev_put dX2_advance_82 fk_X2_32 (by first | assumption | decide) (by decide) rfl ?_
              refine ev_aload_0 dX2_advance_85 ?_
              refine ev_aload_0 dX2_advance_86 ?_
              refine Ev.pc 87 rfl ?_
              refine ev_aload_0 dX2_advance_87 ?_
              refine ev_get dX2_advance_88 fk_X2_35 (by first | assumption | decide) (by decide) rfl ?_
              refine ev_bipush (97) dX2_advance_91 rfl ?_
              refine ev_bipush (122) dX2_advance_93 rfl ?_
              rw [show (xu τ 52 5 1).1 52 6 = nI (tS (σ.1 53) L a) by simp [xu, t6]]
              refine ev_invV (ci := 2) dX2_advance_95 ml_X2_127 mt_X2_endOfRun (c_X2_endOfRun d (L := L) (a := tS (σ.1 53) L a) (by simp [xu, t2]) hL1 hsL) (by first | assumption | decide) (by decide) rfl rfl rfl (rm_ok (by omega)) (Nat.le_of_ble_eq_true rfl) ?_
              rw [show (xu τ 52 5 1).1 53 = σ.1 53 by funext b; simp [xu, t53]]
              refine Ev.pc 98 rfl ?_
              refine ev_put dX2_advance_98 fk_X2_38 (by first | assumption | decide) (by decide) rfl ?_
              refine ev_goto 189 dX2_advance_101 rfl ?_
              exact ev_return dX2_advance_189 ⟨by rfl, by (refine fin _ ?_ ?_ ?_ ?_ ?_ ?_ ?_ <;> first | (intro b q5 q6 q7 q8; simp [xu, q5, q7]; exact tb b q6 q8) | (intro a b q; simp [xu, q]; exact ta a b q) | exact t' | (simp [xu, t6, t8, kK, kN, kV]; done))⟩
          · exact absurd kin h50
        · have gn : ¬ btw (σ.1 53 (tS (σ.1 53) L a)) 97 122 := by simpa only [inR, decide_eq_true_eq] using haz
          by_cases hdg : inR (σ.1 53) 48 57 (tS (σ.1 53) L a) = true
          · have kN : tN (σ.1 53) L a = eorF (inR (σ.1 53) 48 57) L (tS (σ.1 53) L a) := by rw [tN, if_neg hend, if_neg haz, if_pos hdg]
            have kV : tV (σ.1 53) L a = numF (σ.1 53) (tS (σ.1 53) L a) (min (eorF (inR (σ.1 53) 48 57) L (tS (σ.1 53) L a) - tS (σ.1 53) L a) 2) := by rw [tV, if_neg hend, if_neg haz, if_pos hdg]
            have kK : tK (σ.1 53) L a = (if eorF (inR (σ.1 53) 48 57) L (tS (σ.1 53) L a) - tS (σ.1 53) L a ≤ 2 then 2 else 4) := by rw [tK, if_neg hend, if_neg haz, if_pos hdg]
            have g : btw (σ.1 53 (tS (σ.1 53) L a)) 48 57 := by simpa only [inR, decide_eq_true_eq] using hdg
            have hge := eorF_ge (inR (σ.1 53) 48 57) L (tS (σ.1 53) L a)
            have hle := eorF_le (inR (σ.1 53) 48 57) hsL
            obtain ⟨e, he⟩ : ∃ e, eorF (inR (σ.1 53) 48 57) L (tS (σ.1 53) L a) = e := ⟨_, rfl⟩
            rw [he] at kN kV kK hge hle
            have keor := (keor 48 57).trans he
            have kdf : nI e - nI (tS (σ.1 53) L a) = nI (e - tS (σ.1 53) L a) := pk_sub hge
            have kgt : (2 < nI (e - tS (σ.1 53) L a)) ↔ ¬ (e - tS (σ.1 53) L a ≤ 2) := by
              rw [show (2 : Int32) = nI 2 from rfl, nI_ltI (by omega) (by omega)]; omega
            refine ev_aload_0 dX2_advance_30 ?_
            refine ev_get dX2_advance_31 fk_X2_9 (by first | assumption | decide) (by decide) rfl ?_
            simp only [Nat.reduceAdd]
            refine ev_aload_0 dX2_advance_34 ?_
            refine ev_get dX2_advance_35 fk_X2_35 (by first | assumption | decide) (by decide) rfl ?_
            refine ev_invS dX2_advance_38 ml_X2_131 mt_X5_at (c_X5_at d (by first | assumption | decide)) rfl rfl (rm_ok (by omega)) (Nat.le_of_ble_eq_true rfl) ?_
            rw [kat]
            refine Ev.pc 41 rfl ?_
            refine ev_istore_1 dX2_advance_41 rfl ?_
            refine ev_aload_0 dX2_advance_42 ?_
            refine ev_get dX2_advance_43 fk_X2_35 (by first | assumption | decide) (by decide) rfl ?_
            refine ev_aload_0 dX2_advance_46 ?_
            refine ev_get dX2_advance_47 fk_X2_22 (by first | assumption | decide) (by decide) rfl ?_
            refine Ev.pc 50 rfl ?_
            refine ev_icmp_lt 69 dX2_advance_50 rfl (fun h50 => ?_) (fun h50 => ?_)
            · refine ev_iload_1 dX2_advance_69 ?_
              refine ev_bipush (97) dX2_advance_70 rfl ?_
              refine ev_bipush (122) dX2_advance_72 rfl ?_
              refine ev_invS dX2_advance_74 ml_X2_91 mt_X5_between (c_X5_between d) rfl rfl (rm_ok (by omega)) (Nat.le_of_ble_eq_true rfl) ?_
              refine Ev.pc 77 rfl ?_
              refine ev_if_eq 104 dX2_advance_77 rfl (fun h77 => ?_) (fun h77 => ?_)
              · refine ev_iload_1 dX2_advance_104 ?_
                refine ev_bipush (48) dX2_advance_105 rfl ?_
                refine ev_bipush (57) dX2_advance_107 rfl ?_
                refine ev_invS dX2_advance_109 ml_X2_91 mt_X5_between (c_X5_between d) rfl rfl (rm_ok (by omega)) (Nat.le_of_ble_eq_true rfl) ?_
                refine Ev.pc 112 rfl ?_
                refine ev_if_eq 164 dX2_advance_112 rfl (fun h112 => ?_) (fun h112 => ?_)
                · exact absurd g (b2i_0.mp h112)
                · refine ev_aload_0 dX2_advance_115 ?_
                  refine ev_aload_0 dX2_advance_116 ?_
                  refine ev_aload_0 dX2_advance_117 ?_
                  refine ev_get dX2_advance_118 fk_X2_35 (by first | assumption | decide) (by decide) rfl ?_
                  refine ev_bipush (48) dX2_advance_121 rfl ?_
                  refine Ev.pc 123 rfl ?_
                  refine ev_bipush (57) dX2_advance_123 rfl ?_
                  rw [t6]
                  refine ev_invV (ci := 2) dX2_advance_125 ml_X2_127 mt_X2_endOfRun (c_X2_endOfRun d (L := L) (a := tS (σ.1 53) L a) t2 hL1 hsL) (by first | assumption | decide) (by decide) rfl rfl rfl (rm_ok (by omega)) (Nat.le_of_ble_eq_true rfl) ?_
                  rw [keor]
                  refine Ev.pc 128 rfl ?_
                  refine ev_put dX2_advance_128 fk_X2_38 (by first | assumption | decide) (by decide) rfl ?_
                  refine ev_aload_0 dX2_advance_131 ?_
                  refine ev_aload_0 dX2_advance_132 ?_
                  refine Ev.pc 133 rfl ?_
                  refine ev_get dX2_advance_133 fk_X2_38 (by first | assumption | decide) (by decide) rfl ?_
                  refine ev_aload_0 dX2_advance_136 ?_
                  refine ev_get dX2_advance_137 fk_X2_35 (by first | assumption | decide) (by decide) rfl ?_
                  refine ev_isub dX2_advance_140 ?_
                  rw [show (xu τ 52 7 (nI e)).1 52 7 = nI e by simp [xu], show (xu τ 52 7 (nI e)).1 52 6 = nI (tS (σ.1 53) L a) by simp [xu, t6], kdf]
                  refine ev_iconst_2 dX2_advance_141 ?_
                  refine Ev.pc 142 rfl ?_
                  refine ev_icmp_gt 149 dX2_advance_142 rfl (fun h142 => ?_) (fun h142 => ?_)
                  · refine ev_iconst_4 dX2_advance_149 ?_
                    refine ev_put dX2_advance_150 fk_X2_32 (by first | assumption | decide) (by decide) rfl ?_
                    refine ev_aload_0 dX2_advance_153 ?_
                    refine ev_aload_0 dX2_advance_154 ?_
                    refine ev_invV (ci := 2) dX2_advance_155 ml_X2_135 mt_X2_numberAtHand (c_X2_numberAtHand d (s := tS (σ.1 53) L a) (e := e) (by simp [xu, t6]) (by simp [xu]) hge (by omega)) (by first | assumption | decide) (by decide) rfl rfl rfl (rm_ok (by omega)) (Nat.le_of_ble_eq_true rfl) ?_
                    refine Ev.pc 158 rfl ?_
                    refine ev_put dX2_advance_158 fk_X2_41 (by first | assumption | decide) (by decide) rfl ?_
                    refine ev_goto 189 dX2_advance_161 rfl ?_
                    exact ev_return dX2_advance_189 ⟨by rfl, by (rw [kgt] at h142; refine fin _ ?_ ?_ ?_ ?_ ?_ ?_ ?_ <;> first | (intro b q5 q6 q7 q8; simp [xu, q5, q7, q8]; exact tb b q6 q8) | (intro a b q; simp [xu, q]; exact ta a b q) | exact t' | (simp [xu, t6, t8, t53, kK, kN, kV, h142]; done) | (rw [kK]; simp [xu, h142]; omega))⟩
                  · refine ev_iconst_2 dX2_advance_145 ?_
                    refine ev_goto 150 dX2_advance_146 rfl ?_
                    refine ev_put dX2_advance_150 fk_X2_32 (by first | assumption | decide) (by decide) rfl ?_
                    refine ev_aload_0 dX2_advance_153 ?_
                    refine ev_aload_0 dX2_advance_154 ?_
                    refine ev_invV (ci := 2) dX2_advance_155 ml_X2_135 mt_X2_numberAtHand (c_X2_numberAtHand d (s := tS (σ.1 53) L a) (e := e) (by simp [xu, t6]) (by simp [xu]) hge (by omega)) (by first | assumption | decide) (by decide) rfl rfl rfl (rm_ok (by omega)) (Nat.le_of_ble_eq_true rfl) ?_
                    refine Ev.pc 158 rfl ?_
                    refine ev_put dX2_advance_158 fk_X2_41 (by first | assumption | decide) (by decide) rfl ?_
                    refine ev_goto 189 dX2_advance_161 rfl ?_
                    exact ev_return dX2_advance_189 ⟨by rfl, by (rw [kgt] at h142; refine fin _ ?_ ?_ ?_ ?_ ?_ ?_ ?_ <;> first | (intro b q5 q6 q7 q8; simp [xu, q5, q7, q8]; exact tb b q6 q8) | (intro a b q; simp [xu, q]; exact ta a b q) | exact t' | (simp [xu, t6, t8, t53, kK, kN, kV, h142]; done) | (rw [kK]; simp [xu, h142]; omega))⟩
              · exact absurd (Decidable.not_not.mp (fun hc => h77 (b2i_0.mpr hc))) gn
            · exact absurd kin h50
          · have gd : ¬ btw (σ.1 53 (tS (σ.1 53) L a)) 48 57 := by simpa only [inR, decide_eq_true_eq] using hdg
            have kN : tN (σ.1 53) L a = tS (σ.1 53) L a + 1 := by rw [tN, if_neg hend, if_neg haz, if_neg hdg]
            have kV : tV (σ.1 53) L a = 0 := by rw [tV, if_neg hend, if_neg haz, if_neg hdg]
            have kK : tK (σ.1 53) L a = (if σ.1 53 (tS (σ.1 53) L a) = 59 then 3 else 4) := by rw [tK, if_neg hend, if_neg haz, if_neg hdg]
            refine ev_aload_0 dX2_advance_30 ?_
            refine ev_get dX2_advance_31 fk_X2_9 (by first | assumption | decide) (by decide) rfl ?_
            simp only [Nat.reduceAdd]
            refine ev_aload_0 dX2_advance_34 ?_
            refine ev_get dX2_advance_35 fk_X2_35 (by first | assumption | decide) (by decide) rfl ?_
            refine ev_invS dX2_advance_38 ml_X2_131 mt_X5_at (c_X5_at d (by first | assumption | decide)) rfl rfl (rm_ok (by omega)) (Nat.le_of_ble_eq_true rfl) ?_
            rw [kat]
            refine Ev.pc 41 rfl ?_
            refine ev_istore_1 dX2_advance_41 rfl ?_
            refine ev_aload_0 dX2_advance_42 ?_
            refine ev_get dX2_advance_43 fk_X2_35 (by first | assumption | decide) (by decide) rfl ?_
            refine ev_aload_0 dX2_advance_46 ?_
            refine ev_get dX2_advance_47 fk_X2_22 (by first | assumption | decide) (by decide) rfl ?_
            refine Ev.pc 50 rfl ?_
            refine ev_icmp_lt 69 dX2_advance_50 rfl (fun h50 => ?_) (fun h50 => ?_)
            · refine ev_iload_1 dX2_advance_69 ?_
              refine ev_bipush (97) dX2_advance_70 rfl ?_
              refine ev_bipush (122) dX2_advance_72 rfl ?_
              refine ev_invS dX2_advance_74 ml_X2_91 mt_X5_between (c_X5_between d) rfl rfl (rm_ok (by omega)) (Nat.le_of_ble_eq_true rfl) ?_
              refine Ev.pc 77 rfl ?_
              refine ev_if_eq 104 dX2_advance_77 rfl (fun h77 => ?_) (fun h77 => ?_)
              · refine ev_iload_1 dX2_advance_104 ?_
                refine ev_bipush (48) dX2_advance_105 rfl ?_
                refine ev_bipush (57) dX2_advance_107 rfl ?_
                refine ev_invS dX2_advance_109 ml_X2_91 mt_X5_between (c_X5_between d) rfl rfl (rm_ok (by omega)) (Nat.le_of_ble_eq_true rfl) ?_
                refine Ev.pc 112 rfl ?_
                refine ev_if_eq 164 dX2_advance_112 rfl (fun h112 => ?_) (fun h112 => ?_)
                · refine ev_aload_0 dX2_advance_164 ?_
                  refine ev_iload_1 dX2_advance_165 ?_
                  refine ev_bipush (59) dX2_advance_166 rfl ?_
                  refine ev_icmp_ne 175 dX2_advance_168 rfl (fun h168 => ?_) (fun h168 => ?_)
                  · refine ev_iconst_4 dX2_advance_175 ?_
                    refine ev_put dX2_advance_176 fk_X2_32 (by first | assumption | decide) (by decide) rfl ?_
                    refine ev_aload_0 dX2_advance_179 ?_
                    refine ev_aload_0 dX2_advance_180 ?_
                    refine ev_get dX2_advance_181 fk_X2_35 (by first | assumption | decide) (by decide) rfl ?_
                    refine Ev.pc 184 rfl ?_
                    refine ev_iconst_1 dX2_advance_184 ?_
                    refine ev_iadd dX2_advance_185 ?_
                    refine ev_put dX2_advance_186 fk_X2_38 (by first | assumption | decide) (by decide) rfl ?_
                    exact ev_return dX2_advance_189 ⟨by rfl, by (refine fin _ ?_ ?_ ?_ ?_ ?_ ?_ ?_ <;> first | (intro b q5 q6 q7 q8; simp [xu, q5, q7, q8]; exact tb b q6 q8) | (intro a b q; simp [xu, q]; exact ta a b q) | exact t' | (simp [xu, t6, t8, kK, kN, kV, h168, nI_1]; done))⟩
                  · refine ev_iconst_3 dX2_advance_171 ?_
                    refine ev_goto 176 dX2_advance_172 rfl ?_
                    refine ev_put dX2_advance_176 fk_X2_32 (by first | assumption | decide) (by decide) rfl ?_
                    refine ev_aload_0 dX2_advance_179 ?_
                    refine ev_aload_0 dX2_advance_180 ?_
                    refine ev_get dX2_advance_181 fk_X2_35 (by first | assumption | decide) (by decide) rfl ?_
                    refine Ev.pc 184 rfl ?_
                    refine ev_iconst_1 dX2_advance_184 ?_
                    refine ev_iadd dX2_advance_185 ?_
                    refine ev_put dX2_advance_186 fk_X2_38 (by first | assumption | decide) (by decide) rfl ?_
                    exact ev_return dX2_advance_189 ⟨by rfl, by (refine fin _ ?_ ?_ ?_ ?_ ?_ ?_ ?_ <;> first | (intro b q5 q6 q7 q8; simp [xu, q5, q7, q8]; exact tb b q6 q8) | (intro a b q; simp [xu, q]; exact ta a b q) | exact t' | (simp [xu, t6, t8, kK, kN, kV, h168, nI_1]; done))⟩
                · exact absurd (Decidable.not_not.mp (fun hc => h112 (b2i_0.mpr hc))) gd
              · exact absurd (Decidable.not_not.mp (fun hc => h77 (b2i_0.mpr hc))) gn
            · exact absurd kin h50
    refine Ct.of (by decide +kernel) (Nat.le_of_ble_eq_true rfl) rfl ?_
    show Ev E _ RX2 cX2_advance 2 _ 0 [some (.ref (E.1 52)), none] [] _
    refine ev_aload_0 dX2_advance_0 ?_
    refine ev_get dX2_advance_1 fk_X2_26 (by first | assumption | decide) (by decide) rfl ?_
    refine ev_iconst_m1 dX2_advance_4 ?_
    refine ev_icmp_eq 9 dX2_advance_5 rfl (fun h5 => ?_) (fun h5 => ?_)
    · refine ev_aload_0 dX2_advance_9 ?_
      refine ev_aload_0 dX2_advance_10 ?_
      refine ev_aload_0 dX2_advance_11 ?_
      refine ev_get dX2_advance_12 fk_X2_38 (by first | assumption | decide) (by decide) rfl ?_
      refine ev_bipush (32) dX2_advance_15 rfl ?_
      refine Ev.pc 17 rfl ?_
      refine ev_bipush (32) dX2_advance_17 rfl ?_
      rw [ha]
      refine ev_invV (ci := 2) dX2_advance_19 ml_X2_127 mt_X2_endOfRun (c_X2_endOfRun d (L := L) (a := a) hL hL1 haL) (by first | assumption | decide) (by decide) rfl rfl rfl (rm_ok (by omega)) (Nat.le_of_ble_eq_true rfl) ?_
      refine Ev.pc 22 rfl ?_
      refine ev_put dX2_advance_22 fk_X2_35 (by first | assumption | decide) (by decide) rfl ?_
      refine ev_aload_0 dX2_advance_25 ?_
      refine ev_iconst_0 dX2_advance_26 ?_
      refine Ev.pc 27 rfl ?_
      refine ev_put dX2_advance_27 fk_X2_41 (by first | assumption | decide) (by decide) rfl ?_
      exact key _
    · exact absurd h0 h5
  ·
    refine Ct.of (by decide +kernel) (Nat.le_of_ble_eq_true rfl) rfl ?_
    show Ev E _ RX2 cX2_advance 2 _ 0 [some (.ref (E.1 52)), none] [] _
    refine ev_aload_0 dX2_advance_0 ?_
    refine ev_get dX2_advance_1 fk_X2_26 (by first | assumption | decide) (by decide) rfl ?_
    refine ev_iconst_m1 dX2_advance_4 ?_
    refine ev_icmp_eq 9 dX2_advance_5 rfl (fun h5 => ?_) (fun h5 => ?_)
    · exact absurd h5 h0
    · exact ev_return dX2_advance_8 ⟨by rfl, by (rw [adv, if_neg h0])⟩
