/-! the reader: items, read -/
def addPr (σ : xS) (t P : Nat) (k w : Int32) : xS := xu (xu (xu (xu (xu σ (t + 1) P k) (t + 2) P w) (t + 3) P 0) (t + 4) P 0) t 7 (nI (P + 1))
def addHe (σ : xS) (t P : Nat) (k w : Int32) : xS := xu (xu (xu σ (t + 5) P k) (t + 6) P w) t 8 (nI (P + 1))
def addBu (σ : xS) (t P : Nat) (k : Int32) : xS := xu (xu σ (t + 7) P k) t 9 (nI (P + 1))
def iPro (σ : xS) : xS := if (rnS (rnS σ 0 5) 1 9).1 52 3 = -1 then addPr (rnS (rnS σ 0 5) 1 9) 54 (σ.1 54 7).toNatClampNeg ((rnS σ 0 5).1 52 8) ((rnS (rnS σ 0 5) 1 9).1 52 8) else rnS (rnS σ 0 5) 1 9
def iHea (σ : xS) : xS := if (rnS (rnS σ 0 5) 1 9).1 52 3 = -1 then addHe (rnS (rnS σ 0 5) 1 9) 54 (σ.1 54 8).toNatClampNeg ((rnS σ 0 5).1 52 8) ((rnS (rnS σ 0 5) 1 9).1 52 8) else rnS (rnS σ 0 5) 1 9
def iBuy (σ : xS) : xS := if (rnS σ 0 99).1 52 3 = -1 then addBu (rnS σ 0 99) 54 (σ.1 54 9).toNatClampNeg ((rnS σ 0 99).1 52 8) else rnS σ 0 99
def iSel0 (σ : xS) : xS := rnS (rnS σ 0 (σ.1 54 9 - 1)) 0 (σ.1 54 7 - 1)
def iSel1 (σ : xS) : xS := if canB (iSel0 σ) 54 ((rnS σ 0 (σ.1 54 9 - 1)).1 52 8) ((iSel0 σ).1 52 8) then iSel0 σ else failS (iSel0 σ)
def iSel (σ : xS) : xS := if (iSel1 σ).1 52 3 = -1 then xput (xput (iSel1 σ) 61 ((rnS σ 0 (σ.1 54 9 - 1)).1 52 8) (xat (iSel1 σ) 61 ((rnS σ 0 (σ.1 54 9 - 1)).1 52 8) - prB (iSel1 σ) 54 ((iSel0 σ).1 52 8))) 58 ((iSel0 σ).1 52 8) (1 + (rnS σ 0 (σ.1 54 9 - 1)).1 52 8) else iSel1 σ
def iKee0 (σ : xS) : xS := if held (rnS σ 0 (σ.1 54 7 - 1)) 54 ((rnS σ 0 (σ.1 54 7 - 1)).1 52 8) then rnS σ 0 (σ.1 54 7 - 1) else failS (rnS σ 0 (σ.1 54 7 - 1))
def iKee1 (σ : xS) : xS := rnS (iKee0 σ) 0 (σ.1 54 8 - 1)
def iKee (σ : xS) : xS := if (iKee1 σ).1 52 3 = -1 then xput (xu (iKee1 σ) 54 11 ((iKee1 σ).1 54 11 + jB (iKee1 σ) 54 ((rnS σ 0 (σ.1 54 7 - 1)).1 52 8) ((iKee1 σ).1 52 8))) 58 ((rnS σ 0 (σ.1 54 7 - 1)).1 52 8) (10 + (iKee1 σ).1 52 8) else iKee1 σ
def iDay (σ : xS) : xS := if (rnS σ 1 99).1 52 3 = -1 then xu (daysTo (rnS σ 1 99) 54 (σ.1 54 7).toNatClampNeg ((rnS σ 1 99).1 52 8)) 54 10 ((rnS σ 1 99).1 54 10 + (rnS σ 1 99).1 52 8) else rnS σ 1 99
theorem c_X2_readPromise (d : Nat) {E : xE} {σ : xS} {P : Nat} (hr : RdOK σ) (hP : σ.1 54 7 = nI P) (hP7 : P < 7) : Ct E (d + 4) yX2_readPromise cX2_readPromise 3 none [.ref (E.1 52)] σ none (iPro σ) := by
  have cP : (σ.1 54 7).toNatClampNeg = P := by rw [hP, nI_clamp (by omega)]
  have h2 : (rnS (rnS σ 0 5) 1 9).1 54 7 = nI P := by rw [rnS_f _ _ _ (by decide), rnS_f _ _ _ (by decide)]; exact hP
  refine Ct.of (by decide +kernel) (Nat.le_of_ble_eq_true rfl) rfl ?_
  show Ev E _ RX2 cX2_readPromise 3 _ 0 [some (.ref (E.1 52)), none, none] [] _
  refine ev_aload_0 dX2_readPromise_0 ?_
  refine ev_iconst_0 dX2_readPromise_1 ?_
  refine ev_iconst_5 dX2_readPromise_2 ?_
  refine ev_invV (ci := 2) dX2_readPromise_3 ml_X2_95 mt_X2_readNumber (c_X2_readNumber d hr) (by first | assumption | decide) (by decide) rfl rfl rfl (rm_ok (by omega)) (Nat.le_of_ble_eq_true rfl) ?_
  refine Ev.pc 6 rfl ?_
  refine ev_istore_1 dX2_readPromise_6 rfl ?_
  refine Ev.pc 7 rfl ?_
  refine ev_aload_0 dX2_readPromise_7 ?_
  refine ev_iconst_1 dX2_readPromise_8 ?_
  refine ev_bipush (9) dX2_readPromise_9 rfl ?_
  refine ev_invV (ci := 2) dX2_readPromise_11 ml_X2_95 mt_X2_readNumber (c_X2_readNumber d (rdOK_rn _ _ hr)) (by first | assumption | decide) (by decide) rfl rfl rfl (rm_ok (by omega)) (Nat.le_of_ble_eq_true rfl) ?_
  refine Ev.pc 14 rfl ?_
  refine ev_istore_2 dX2_readPromise_14 rfl ?_
  refine Ev.pc 15 rfl ?_
  refine ev_aload_0 dX2_readPromise_15 ?_
  refine ev_get dX2_readPromise_16 fk_X2_26 (by first | assumption | decide) (by decide) rfl ?_
  refine ev_iconst_m1 dX2_readPromise_19 ?_
  refine ev_icmp_ne 33 dX2_readPromise_20 rfl (fun h20 => ?_) (fun h20 => ?_)
  · exact ev_return dX2_readPromise_33 ⟨by rfl, by (rw [iPro, cP]; split <;> first | contradiction | rfl)⟩
  · refine ev_aload_0 dX2_readPromise_23 ?_
    refine ev_get dX2_readPromise_24 fk_X2_18 (by first | assumption | decide) (by decide) rfl ?_
    simp only [Nat.reduceAdd]
    refine ev_iload_1 dX2_readPromise_27 ?_
    refine ev_iload_2 dX2_readPromise_28 ?_
    refine ev_invV (ci := 4) dX2_readPromise_29 ml_X2_99 mt_X4_addPromise (c_X4_addPromise d (t := 54) (P := P) town_draft h2 hP7) (by first | assumption | decide) (by decide) rfl rfl rfl (rm_ok (by omega)) (Nat.le_of_ble_eq_true rfl) ?_
    refine Ev.pc 32 rfl ?_
    refine ev_pop dX2_readPromise_32 rfl ?_
    exact ev_return dX2_readPromise_33 ⟨by rfl, by (rw [iPro, cP]; split <;> first | contradiction | rfl)⟩
theorem c_X2_readHearer (d : Nat) {E : xE} {σ : xS} {P : Nat} (hr : RdOK σ) (hP : σ.1 54 8 = nI P) (hP7 : P < 4) : Ct E (d + 4) yX2_readHearer cX2_readHearer 3 none [.ref (E.1 52)] σ none (iHea σ) := by
  have cP : (σ.1 54 8).toNatClampNeg = P := by rw [hP, nI_clamp (by omega)]
  have h2 : (rnS (rnS σ 0 5) 1 9).1 54 8 = nI P := by rw [rnS_f _ _ _ (by decide), rnS_f _ _ _ (by decide)]; exact hP
  refine Ct.of (by decide +kernel) (Nat.le_of_ble_eq_true rfl) rfl ?_
  show Ev E _ RX2 cX2_readHearer 3 _ 0 [some (.ref (E.1 52)), none, none] [] _
  refine ev_aload_0 dX2_readHearer_0 ?_
  refine ev_iconst_0 dX2_readHearer_1 ?_
  refine ev_iconst_5 dX2_readHearer_2 ?_
  refine ev_invV (ci := 2) dX2_readHearer_3 ml_X2_95 mt_X2_readNumber (c_X2_readNumber d hr) (by first | assumption | decide) (by decide) rfl rfl rfl (rm_ok (by omega)) (Nat.le_of_ble_eq_true rfl) ?_
  refine Ev.pc 6 rfl ?_
  refine ev_istore_1 dX2_readHearer_6 rfl ?_
  refine Ev.pc 7 rfl ?_
  refine ev_aload_0 dX2_readHearer_7 ?_
  refine ev_iconst_1 dX2_readHearer_8 ?_
  refine ev_bipush (9) dX2_readHearer_9 rfl ?_
  refine ev_invV (ci := 2) dX2_readHearer_11 ml_X2_95 mt_X2_readNumber (c_X2_readNumber d (rdOK_rn _ _ hr)) (by first | assumption | decide) (by decide) rfl rfl rfl (rm_ok (by omega)) (Nat.le_of_ble_eq_true rfl) ?_
  refine Ev.pc 14 rfl ?_
  refine ev_istore_2 dX2_readHearer_14 rfl ?_
  refine Ev.pc 15 rfl ?_
  refine ev_aload_0 dX2_readHearer_15 ?_
  refine ev_get dX2_readHearer_16 fk_X2_26 (by first | assumption | decide) (by decide) rfl ?_
  refine ev_iconst_m1 dX2_readHearer_19 ?_
  refine ev_icmp_ne 33 dX2_readHearer_20 rfl (fun h20 => ?_) (fun h20 => ?_)
  · exact ev_return dX2_readHearer_33 ⟨by rfl, by (rw [iHea, cP]; split <;> first | contradiction | rfl)⟩
  · refine ev_aload_0 dX2_readHearer_23 ?_
    refine ev_get dX2_readHearer_24 fk_X2_18 (by first | assumption | decide) (by decide) rfl ?_
    simp only [Nat.reduceAdd]
    refine ev_iload_1 dX2_readHearer_27 ?_
    refine ev_iload_2 dX2_readHearer_28 ?_
    refine ev_invV (ci := 4) dX2_readHearer_29 ml_X2_102 mt_X4_addHearer (c_X4_addHearer d (t := 54) (P := P) town_draft h2 hP7) (by first | assumption | decide) (by decide) rfl rfl rfl (rm_ok (by omega)) (Nat.le_of_ble_eq_true rfl) ?_
    refine Ev.pc 32 rfl ?_
    refine ev_pop dX2_readHearer_32 rfl ?_
    exact ev_return dX2_readHearer_33 ⟨by rfl, by (rw [iHea, cP]; split <;> first | contradiction | rfl)⟩
theorem c_X2_readBuyer (d : Nat) {E : xE} {σ : xS} {P : Nat} (hr : RdOK σ) (hP : σ.1 54 9 = nI P) (hP7 : P < 3) : Ct E (d + 4) yX2_readBuyer cX2_readBuyer 2 none [.ref (E.1 52)] σ none (iBuy σ) := by
  have cP : (σ.1 54 9).toNatClampNeg = P := by rw [hP, nI_clamp (by omega)]
  have h2 : (rnS σ 0 99).1 54 9 = nI P := by rw [rnS_f _ _ _ (by decide)]; exact hP
  refine Ct.of (by decide +kernel) (Nat.le_of_ble_eq_true rfl) rfl ?_
  show Ev E _ RX2 cX2_readBuyer 2 _ 0 [some (.ref (E.1 52)), none] [] _
  refine ev_aload_0 dX2_readBuyer_0 ?_
  refine ev_iconst_0 dX2_readBuyer_1 ?_
  refine ev_bipush (99) dX2_readBuyer_2 rfl ?_
  refine ev_invV (ci := 2) dX2_readBuyer_4 ml_X2_95 mt_X2_readNumber (c_X2_readNumber d hr) (by first | assumption | decide) (by decide) rfl rfl rfl (rm_ok (by omega)) (Nat.le_of_ble_eq_true rfl) ?_
  refine Ev.pc 7 rfl ?_
  refine ev_istore_1 dX2_readBuyer_7 rfl ?_
  refine Ev.pc 8 rfl ?_
  refine ev_aload_0 dX2_readBuyer_8 ?_
  refine ev_get dX2_readBuyer_9 fk_X2_26 (by first | assumption | decide) (by decide) rfl ?_
  refine ev_iconst_m1 dX2_readBuyer_12 ?_
  refine ev_icmp_ne 25 dX2_readBuyer_13 rfl (fun h13 => ?_) (fun h13 => ?_)
  · exact ev_return dX2_readBuyer_25 ⟨by rfl, by (rw [iBuy, cP]; split <;> first | contradiction | rfl)⟩
  · refine ev_aload_0 dX2_readBuyer_16 ?_
    refine ev_get dX2_readBuyer_17 fk_X2_18 (by first | assumption | decide) (by decide) rfl ?_
    simp only [Nat.reduceAdd]
    refine ev_iload_1 dX2_readBuyer_20 ?_
    refine ev_invV (ci := 4) dX2_readBuyer_21 ml_X2_105 mt_X4_addBuyer (c_X4_addBuyer d (t := 54) (P := P) town_draft h2 hP7) (by first | assumption | decide) (by decide) rfl rfl rfl (rm_ok (by omega)) (Nat.le_of_ble_eq_true rfl) ?_
    refine Ev.pc 24 rfl ?_
    refine ev_pop dX2_readBuyer_24 rfl ?_
    refine Ev.pc 25 rfl ?_
    exact ev_return dX2_readBuyer_25 ⟨by rfl, by (rw [iBuy, cP]; split <;> first | contradiction | rfl)⟩
theorem c_X2_readBuy (d : Nat) {E : xE} {σ : xS} (hr : RdOK σ) : Ct E (d + 5) yX2_readBuy cX2_readBuy 3 none [.ref (E.1 52)] σ none (iSel σ) := by
  obtain ⟨s1, hs1⟩ : ∃ τ, τ = rnS σ 0 (σ.1 54 9 - 1) := ⟨_, rfl⟩
  have e7 : s1.1 54 7 = σ.1 54 7 := by rw [hs1, rnS_f _ _ _ (by decide)]
  have hr1 : RdOK s1 := by rw [hs1]; exact rdOK_rn _ _ hr
  obtain ⟨s2, hs2⟩ : ∃ τ, τ = rnS s1 0 (σ.1 54 7 - 1) := ⟨_, rfl⟩
  have e0 : iSel0 σ = s2 := by rw [iSel0, hs2, hs1]
  obtain ⟨s3, hs3⟩ : ∃ τ, τ = failS s2 := ⟨_, rfl⟩
  refine Ct.of (by decide +kernel) (Nat.le_of_ble_eq_true rfl) rfl ?_
  show Ev E _ RX2 cX2_readBuy 3 _ 0 [some (.ref (E.1 52)), none, none] [] _
  refine ev_aload_0 dX2_readBuy_0 ?_
  refine ev_iconst_0 dX2_readBuy_1 ?_
  refine ev_aload_0 dX2_readBuy_2 ?_
  refine ev_get dX2_readBuy_3 fk_X2_18 (by first | assumption | decide) (by decide) rfl ?_
  simp only [Nat.reduceAdd]
  refine ev_get dX2_readBuy_6 fk_X2_88 (by first | assumption | decide) (by decide) rfl ?_
  refine Ev.pc 9 rfl ?_
  refine ev_iconst_1 dX2_readBuy_9 ?_
  refine ev_isub dX2_readBuy_10 ?_
  refine ev_invV (ci := 2) dX2_readBuy_11 ml_X2_95 mt_X2_readNumber (c_X2_readNumber d hr) (by first | assumption | decide) (by decide) rfl rfl rfl (rm_ok (by omega)) (Nat.le_of_ble_eq_true rfl) ?_
  rw [← hs1]
  refine Ev.pc 14 rfl ?_
  refine ev_istore_1 dX2_readBuy_14 rfl ?_
  refine ev_aload_0 dX2_readBuy_15 ?_
  refine Ev.pc 16 rfl ?_
  refine ev_iconst_0 dX2_readBuy_16 ?_
  refine ev_aload_0 dX2_readBuy_17 ?_
  refine ev_get dX2_readBuy_18 fk_X2_18 (by first | assumption | decide) (by decide) rfl ?_
  simp only [Nat.reduceAdd]
  refine ev_get dX2_readBuy_21 fk_X2_82 (by first | assumption | decide) (by decide) rfl ?_
  refine ev_iconst_1 dX2_readBuy_24 ?_
  refine Ev.pc 25 rfl ?_
  refine ev_isub dX2_readBuy_25 ?_
  rw [e7]
  refine ev_invV (ci := 2) dX2_readBuy_26 ml_X2_95 mt_X2_readNumber (c_X2_readNumber d hr1) (by first | assumption | decide) (by decide) rfl rfl rfl (rm_ok (by omega)) (Nat.le_of_ble_eq_true rfl) ?_
  rw [← hs2]
  refine Ev.pc 29 rfl ?_
  refine ev_istore_2 dX2_readBuy_29 rfl ?_
  refine ev_aload_0 dX2_readBuy_30 ?_
  refine ev_get dX2_readBuy_31 fk_X2_18 (by first | assumption | decide) (by decide) rfl ?_
  simp only [Nat.reduceAdd]
  refine Ev.pc 34 rfl ?_
  refine ev_iload_1 dX2_readBuy_34 ?_
  refine ev_iload_2 dX2_readBuy_35 ?_
  refine ev_invV (ci := 4) dX2_readBuy_36 ml_X2_109 mt_X4_canSell (c_X4_canSell d (t := 54) town_draft) (by first | assumption | decide) (by decide) rfl rfl rfl (rm_ok (by omega)) (Nat.le_of_ble_eq_true rfl) ?_
  refine Ev.pc 39 rfl ?_
  refine ev_if_ne 46 dX2_readBuy_39 rfl (fun h39 => ?_) (fun h39 => ?_)
  · have g := Decidable.not_not.mp (fun h => h39 (b2i_0.mpr h))
    have e1 : iSel1 σ = s2 := by rw [iSel1, e0, ← hs1]; exact if_pos g
    refine ev_aload_0 dX2_readBuy_46 ?_
    refine ev_get dX2_readBuy_47 fk_X2_26 (by first | assumption | decide) (by decide) rfl ?_
    refine ev_iconst_m1 dX2_readBuy_50 ?_
    refine ev_icmp_ne 63 dX2_readBuy_51 rfl (fun h51 => ?_) (fun h51 => ?_)
    · exact ev_return dX2_readBuy_63 ⟨by rfl, by (rw [iSel, e1, e0, ← hs1]; split <;> first | contradiction | rfl)⟩
    · refine ev_aload_0 dX2_readBuy_54 ?_
      refine ev_get dX2_readBuy_55 fk_X2_18 (by first | assumption | decide) (by decide) rfl ?_
      simp only [Nat.reduceAdd]
      refine ev_iload_1 dX2_readBuy_58 ?_
      refine ev_iload_2 dX2_readBuy_59 ?_
      refine ev_invV (ci := 4) dX2_readBuy_60 ml_X2_113 mt_X4_sell (c_X4_sell d (t := 54) town_draft) (by first | assumption | decide) (by decide) rfl rfl rfl (rm_ok (by omega)) (Nat.le_of_ble_eq_true rfl) ?_
      refine Ev.pc 63 rfl ?_
      exact ev_return dX2_readBuy_63 ⟨by rfl, by (rw [iSel, e1, e0, ← hs1]; split <;> first | contradiction | rfl)⟩
  · have g := b2i_0.mp h39
    have e1 : iSel1 σ = s3 := by rw [iSel1, e0, ← hs1, hs3]; exact if_neg g
    refine ev_aload_0 dX2_readBuy_42 ?_
    refine ev_invV (ci := 2) dX2_readBuy_43 ml_X2_58 mt_X2_fail (c_X2_fail d) (by first | assumption | decide) (by decide) rfl rfl rfl (rm_ok (by omega)) (Nat.le_of_ble_eq_true rfl) ?_
    rw [← hs3]
    refine Ev.pc 46 rfl ?_
    refine ev_aload_0 dX2_readBuy_46 ?_
    refine ev_get dX2_readBuy_47 fk_X2_26 (by first | assumption | decide) (by decide) rfl ?_
    refine ev_iconst_m1 dX2_readBuy_50 ?_
    refine Ev.pc 51 rfl ?_
    refine ev_icmp_ne 63 dX2_readBuy_51 rfl (fun h51 => ?_) (fun h51 => ?_)
    · exact ev_return dX2_readBuy_63 ⟨by rfl, by (rw [iSel, e1, e0, ← hs1]; split <;> first | contradiction | rfl)⟩
    · refine ev_aload_0 dX2_readBuy_54 ?_
      refine ev_get dX2_readBuy_55 fk_X2_18 (by first | assumption | decide) (by decide) rfl ?_
      simp only [Nat.reduceAdd]
      refine ev_iload_1 dX2_readBuy_58 ?_
      refine ev_iload_2 dX2_readBuy_59 ?_
      refine ev_invV (ci := 4) dX2_readBuy_60 ml_X2_113 mt_X4_sell (c_X4_sell d (t := 54) town_draft) (by first | assumption | decide) (by decide) rfl rfl rfl (rm_ok (by omega)) (Nat.le_of_ble_eq_true rfl) ?_
      refine Ev.pc 63 rfl ?_
      exact ev_return dX2_readBuy_63 ⟨by rfl, by (rw [iSel, e1, e0, ← hs1]; split <;> first | contradiction | rfl)⟩
theorem c_X2_readKeep (d : Nat) {E : xE} {σ : xS} (hr : RdOK σ) : Ct E (d + 5) yX2_readKeep cX2_readKeep 3 none [.ref (E.1 52)] σ none (iKee σ) := by
  obtain ⟨s1, hs1⟩ : ∃ τ, τ = rnS σ 0 (σ.1 54 7 - 1) := ⟨_, rfl⟩
  have hr1 : RdOK s1 := by rw [hs1]; exact rdOK_rn _ _ hr
  have e8 : s1.1 54 8 = σ.1 54 8 := by rw [hs1, rnS_f _ _ _ (by decide)]
  obtain ⟨s2, hs2⟩ : ∃ τ, τ = failS s1 := ⟨_, rfl⟩
  have hr2 : RdOK s2 := by rw [hs2]; exact rdOK_fail hr1
  have e82 : s2.1 54 8 = σ.1 54 8 := by rw [hs2, failS_f _ (by decide)]; exact e8
  obtain ⟨s3, hs3⟩ : ∃ τ, τ = rnS s1 0 (σ.1 54 8 - 1) := ⟨_, rfl⟩
  obtain ⟨s4, hs4⟩ : ∃ τ, τ = rnS s2 0 (σ.1 54 8 - 1) := ⟨_, rfl⟩
  refine Ct.of (by decide +kernel) (Nat.le_of_ble_eq_true rfl) rfl ?_
  show Ev E _ RX2 cX2_readKeep 3 _ 0 [some (.ref (E.1 52)), none, none] [] _
  refine ev_aload_0 dX2_readKeep_0 ?_
  refine ev_iconst_0 dX2_readKeep_1 ?_
  refine ev_aload_0 dX2_readKeep_2 ?_
  refine ev_get dX2_readKeep_3 fk_X2_18 (by first | assumption | decide) (by decide) rfl ?_
  simp only [Nat.reduceAdd]
  refine ev_get dX2_readKeep_6 fk_X2_82 (by first | assumption | decide) (by decide) rfl ?_
  refine Ev.pc 9 rfl ?_
  refine ev_iconst_1 dX2_readKeep_9 ?_
  refine ev_isub dX2_readKeep_10 ?_
  refine ev_invV (ci := 2) dX2_readKeep_11 ml_X2_95 mt_X2_readNumber (c_X2_readNumber d hr) (by first | assumption | decide) (by decide) rfl rfl rfl (rm_ok (by omega)) (Nat.le_of_ble_eq_true rfl) ?_
  rw [← hs1]
  refine Ev.pc 14 rfl ?_
  refine ev_istore_1 dX2_readKeep_14 rfl ?_
  refine ev_aload_0 dX2_readKeep_15 ?_
  refine Ev.pc 16 rfl ?_
  refine ev_get dX2_readKeep_16 fk_X2_18 (by first | assumption | decide) (by decide) rfl ?_
  simp only [Nat.reduceAdd]
  refine ev_iload_1 dX2_readKeep_19 ?_
  refine ev_invV (ci := 4) dX2_readKeep_20 ml_X2_117 mt_X4_isHeld (c_X4_isHeld d (t := 54) town_draft) (by first | assumption | decide) (by decide) rfl rfl rfl (rm_ok (by omega)) (Nat.le_of_ble_eq_true rfl) ?_
  refine Ev.pc 23 rfl ?_
  refine ev_if_ne 30 dX2_readKeep_23 rfl (fun h23 => ?_) (fun h23 => ?_)
  · have g := Decidable.not_not.mp (fun h => h23 (b2i_0.mpr h))
    have e1 : iKee0 σ = s1 := by rw [iKee0, ← hs1]; exact if_pos g
    have e2 : iKee1 σ = s3 := by rw [iKee1, e1, hs3]
    refine ev_aload_0 dX2_readKeep_30 ?_
    refine ev_iconst_0 dX2_readKeep_31 ?_
    refine ev_aload_0 dX2_readKeep_32 ?_
    refine ev_get dX2_readKeep_33 fk_X2_18 (by first | assumption | decide) (by decide) rfl ?_
    simp only [Nat.reduceAdd]
    refine ev_get dX2_readKeep_36 fk_X2_85 (by first | assumption | decide) (by decide) rfl ?_
    refine Ev.pc 39 rfl ?_
    refine ev_iconst_1 dX2_readKeep_39 ?_
    refine ev_isub dX2_readKeep_40 ?_
    first | rw [e8] | rw [e82]
    refine ev_invV (ci := 2) dX2_readKeep_41 ml_X2_95 mt_X2_readNumber (c_X2_readNumber d (by first | exact hr1 | exact hr2)) (by first | assumption | decide) (by decide) rfl rfl rfl (rm_ok (by omega)) (Nat.le_of_ble_eq_true rfl) ?_
    first | rw [← hs3] | rw [← hs4]
    refine Ev.pc 44 rfl ?_
    refine ev_istore_2 dX2_readKeep_44 rfl ?_
    refine ev_aload_0 dX2_readKeep_45 ?_
    refine Ev.pc 46 rfl ?_
    refine ev_get dX2_readKeep_46 fk_X2_26 (by first | assumption | decide) (by decide) rfl ?_
    refine ev_iconst_m1 dX2_readKeep_49 ?_
    refine ev_icmp_ne 63 dX2_readKeep_50 rfl (fun h50 => ?_) (fun h50 => ?_)
    · exact ev_return dX2_readKeep_63 ⟨by rfl, by (simp only [iKee, e2, ← hs1, h50, if_true, if_false, reduceIte, Nat.reduceAdd])⟩
    · refine ev_aload_0 dX2_readKeep_53 ?_
      refine ev_get dX2_readKeep_54 fk_X2_18 (by first | assumption | decide) (by decide) rfl ?_
      simp only [Nat.reduceAdd]
      refine ev_iload_1 dX2_readKeep_57 ?_
      refine ev_iload_2 dX2_readKeep_58 ?_
      refine ev_invV (ci := 4) dX2_readKeep_59 ml_X2_120 mt_X4_give (c_X4_give d (t := 54) town_draft) (by first | assumption | decide) (by decide) rfl rfl rfl (rm_ok (by omega)) (Nat.le_of_ble_eq_true rfl) ?_
      refine Ev.pc 62 rfl ?_
      refine ev_pop dX2_readKeep_62 rfl ?_
      exact ev_return dX2_readKeep_63 ⟨by rfl, by (simp only [iKee, e2, ← hs1, h50, if_true, if_false, reduceIte, Nat.reduceAdd])⟩
  · have g := b2i_0.mp h23
    have e1 : iKee0 σ = s2 := by rw [iKee0, ← hs1, hs2]; exact if_neg g
    have e2 : iKee1 σ = s4 := by rw [iKee1, e1, hs4]
    refine ev_aload_0 dX2_readKeep_26 ?_
    refine ev_invV (ci := 2) dX2_readKeep_27 ml_X2_58 mt_X2_fail (c_X2_fail d) (by first | assumption | decide) (by decide) rfl rfl rfl (rm_ok (by omega)) (Nat.le_of_ble_eq_true rfl) ?_
    rw [← hs2]
    refine Ev.pc 30 rfl ?_
    refine ev_aload_0 dX2_readKeep_30 ?_
    refine ev_iconst_0 dX2_readKeep_31 ?_
    refine ev_aload_0 dX2_readKeep_32 ?_
    refine Ev.pc 33 rfl ?_
    refine ev_get dX2_readKeep_33 fk_X2_18 (by first | assumption | decide) (by decide) rfl ?_
    simp only [Nat.reduceAdd]
    refine ev_get dX2_readKeep_36 fk_X2_85 (by first | assumption | decide) (by decide) rfl ?_
    refine ev_iconst_1 dX2_readKeep_39 ?_
    refine ev_isub dX2_readKeep_40 ?_
    first | rw [e8] | rw [e82]
    refine ev_invV (ci := 2) dX2_readKeep_41 ml_X2_95 mt_X2_readNumber (c_X2_readNumber d (by first | exact hr1 | exact hr2)) (by first | assumption | decide) (by decide) rfl rfl rfl (rm_ok (by omega)) (Nat.le_of_ble_eq_true rfl) ?_
    first | rw [← hs3] | rw [← hs4]
    refine Ev.pc 44 rfl ?_
    refine ev_istore_2 dX2_readKeep_44 rfl ?_
    refine ev_aload_0 dX2_readKeep_45 ?_
    refine ev_get dX2_readKeep_46 fk_X2_26 (by first | assumption | decide) (by decide) rfl ?_
    refine ev_iconst_m1 dX2_readKeep_49 ?_
    refine ev_icmp_ne 63 dX2_readKeep_50 rfl (fun h50 => ?_) (fun h50 => ?_)
    · exact ev_return dX2_readKeep_63 ⟨by rfl, by (simp only [iKee, e2, ← hs1, h50, if_true, if_false, reduceIte, Nat.reduceAdd])⟩
    · refine ev_aload_0 dX2_readKeep_53 ?_
      refine ev_get dX2_readKeep_54 fk_X2_18 (by first | assumption | decide) (by decide) rfl ?_
      simp only [Nat.reduceAdd]
      refine ev_iload_1 dX2_readKeep_57 ?_
      refine ev_iload_2 dX2_readKeep_58 ?_
      refine ev_invV (ci := 4) dX2_readKeep_59 ml_X2_120 mt_X4_give (c_X4_give d (t := 54) town_draft) (by first | assumption | decide) (by decide) rfl rfl rfl (rm_ok (by omega)) (Nat.le_of_ble_eq_true rfl) ?_
      refine Ev.pc 62 rfl ?_
      refine ev_pop dX2_readKeep_62 rfl ?_
      exact ev_return dX2_readKeep_63 ⟨by rfl, by (simp only [iKee, e2, ← hs1, h50, if_true, if_false, reduceIte, Nat.reduceAdd])⟩
theorem c_X2_readDays (d : Nat) {E : xE} {σ : xS} {P : Nat} (hr : RdOK σ) (hP : σ.1 54 7 = nI P) (hP7 : P ≤ 7) : Ct E (d + 4) yX2_readDays cX2_readDays 2 none [.ref (E.1 52)] σ none (iDay σ) := by
  have cP : (σ.1 54 7).toNatClampNeg = P := by rw [hP, nI_clamp (by omega)]
  have h2 : (rnS σ 1 99).1 54 7 = nI P := by rw [rnS_f _ _ _ (by decide)]; exact hP
  refine Ct.of (by decide +kernel) (Nat.le_of_ble_eq_true rfl) rfl ?_
  show Ev E _ RX2 cX2_readDays 2 _ 0 [some (.ref (E.1 52)), none] [] _
  refine ev_aload_0 dX2_readDays_0 ?_
  refine ev_iconst_1 dX2_readDays_1 ?_
  refine ev_bipush (99) dX2_readDays_2 rfl ?_
  refine ev_invV (ci := 2) dX2_readDays_4 ml_X2_95 mt_X2_readNumber (c_X2_readNumber d hr) (by first | assumption | decide) (by decide) rfl rfl rfl (rm_ok (by omega)) (Nat.le_of_ble_eq_true rfl) ?_
  refine Ev.pc 7 rfl ?_
  refine ev_istore_1 dX2_readDays_7 rfl ?_
  refine Ev.pc 8 rfl ?_
  refine ev_aload_0 dX2_readDays_8 ?_
  refine ev_get dX2_readDays_9 fk_X2_26 (by first | assumption | decide) (by decide) rfl ?_
  refine ev_iconst_m1 dX2_readDays_12 ?_
  refine ev_icmp_ne 24 dX2_readDays_13 rfl (fun h13 => ?_) (fun h13 => ?_)
  · exact ev_return dX2_readDays_24 ⟨by rfl, by (rw [iDay, cP]; split <;> first | contradiction | rfl)⟩
  · refine ev_aload_0 dX2_readDays_16 ?_
    refine ev_get dX2_readDays_17 fk_X2_18 (by first | assumption | decide) (by decide) rfl ?_
    simp only [Nat.reduceAdd]
    refine ev_iload_1 dX2_readDays_20 ?_
    refine ev_invV (ci := 4) dX2_readDays_21 ml_X2_123 mt_X4_passDays (c_X4_passDays d (t := 54) (P := P) town_draft h2 hP7) (by first | assumption | decide) (by decide) rfl rfl rfl (rm_ok (by omega)) (Nat.le_of_ble_eq_true rfl) ?_
    refine Ev.pc 24 rfl ?_
    exact ev_return dX2_readDays_24 ⟨by rfl, by (rw [iDay, cP]; split <;> first | contradiction | rfl)⟩
