/-! the reader: items, and the call read -/
def bodyS (σ : xS) (w : Int32) : xS := if w = 1 then iPro σ else if w = 2 then iHea σ else if w = 3 then iBuy σ else if w = 4 then iSel σ else if w = 5 then iKee σ else if w = 6 then iDay σ else σ
theorem bodyS_1 (σ : xS) : bodyS σ 1 = iPro σ := by
  unfold bodyS
  rw [if_pos rfl]
theorem bodyS_2 (σ : xS) : bodyS σ 2 = iHea σ := by
  unfold bodyS
  rw [if_neg (by decide), if_pos rfl]
theorem bodyS_3 (σ : xS) : bodyS σ 3 = iBuy σ := by
  unfold bodyS
  rw [if_neg (by decide), if_neg (by decide), if_pos rfl]
theorem bodyS_4 (σ : xS) : bodyS σ 4 = iSel σ := by
  unfold bodyS
  rw [if_neg (by decide), if_neg (by decide), if_neg (by decide), if_pos rfl]
theorem bodyS_5 (σ : xS) : bodyS σ 5 = iKee σ := by
  unfold bodyS
  rw [if_neg (by decide), if_neg (by decide), if_neg (by decide), if_neg (by decide), if_pos rfl]
theorem bodyS_6 (σ : xS) : bodyS σ 6 = iDay σ := by
  unfold bodyS
  rw [if_neg (by decide), if_neg (by decide), if_neg (by decide), if_neg (by decide), if_neg (by decide), if_pos rfl]
def itemS (σ : xS) : xS := if mayI σ (wordI σ) = 0 then failS σ else stopS (bodyS σ (wordI σ))
def DrOK (σ : xS) : Prop := ∃ P H B, σ.1 54 7 = nI P ∧ P ≤ 7 ∧ σ.1 54 8 = nI H ∧ H ≤ 4 ∧ σ.1 54 9 = nI B ∧ B ≤ 3
theorem DrOK.o {σ τ : xS} (h : DrOK σ) (h7 : τ.1 54 7 = σ.1 54 7) (h8 : τ.1 54 8 = σ.1 54 8) (h9 : τ.1 54 9 = σ.1 54 9) : DrOK τ := by
  obtain ⟨P, H, B, q⟩ := h
  exact ⟨P, H, B, by rw [h7, h8, h9]; exact q⟩
theorem DrOK.f {σ τ : xS} (h : DrOK σ) (h54 : τ.1 54 = σ.1 54) : DrOK τ := h.o (by rw [h54]) (by rw [h54]) (by rw [h54])
theorem may1 {σ : xS} (h : ¬ mayI σ 1 = 0) : ¬ 7 ≤ σ.1 54 7 := by
  intro h2; apply h; simp [mayI, h2]
theorem may2 {σ : xS} (h : ¬ mayI σ 2 = 0) : ¬ 4 ≤ σ.1 54 8 := by
  intro h2; apply h; simp [mayI, h2]
theorem may3 {σ : xS} (h : ¬ mayI σ 3 = 0) : ¬ 3 ≤ σ.1 54 9 := by
  intro h2; apply h; simp [mayI, h2]
theorem lt_of_nle {P N : Nat} (hN : N < 2 ^ 31) (hP : P < 2 ^ 31) (h : ¬ nI N ≤ nI P) : P < N := by
  rcases Nat.lt_or_ge P N with q | q
  · exact q
  · exact absurd (nI_le q hP) h
theorem rdOK_pro {σ : xS} (h : RdOK σ) : RdOK (iPro σ) := by
  have h2 := rdOK_rn 1 9 (rdOK_rn 0 5 h)
  unfold iPro
  split
  · exact rdOK_o h2 (by simp [addPr, xu]) (by simp [addPr, xu])
  · exact h2
theorem rdOK_hea {σ : xS} (h : RdOK σ) : RdOK (iHea σ) := by
  have h2 := rdOK_rn 1 9 (rdOK_rn 0 5 h)
  unfold iHea
  split
  · exact rdOK_o h2 (by simp [addHe, xu]) (by simp [addHe, xu])
  · exact h2
theorem rdOK_buy {σ : xS} (h : RdOK σ) : RdOK (iBuy σ) := by
  have h2 := rdOK_rn 0 99 h
  unfold iBuy
  split
  · exact rdOK_o h2 (by simp [addBu, xu]) (by simp [addBu, xu])
  · exact h2
theorem rdOK_sel1 {σ : xS} (h : RdOK σ) : RdOK (iSel1 σ) := by
  have h2 := rdOK_rn 0 (σ.1 54 7 - 1) (rdOK_rn 0 (σ.1 54 9 - 1) h)
  unfold iSel1
  split
  · exact h2
  · exact rdOK_fail h2
theorem rdOK_sel {σ : xS} (h : RdOK σ) : RdOK (iSel σ) := by
  have h2 := rdOK_sel1 h
  unfold iSel
  split
  · exact rdOK_o h2 (by rw [xput_f (by decide), xput_f (by decide)]) (by rw [xput_f (by decide), xput_f (by decide)])
  · exact h2
theorem rdOK_kee1 {σ : xS} (h : RdOK σ) : RdOK (iKee1 σ) := by
  have h2 := rdOK_rn 0 (σ.1 54 7 - 1) h
  unfold iKee1 iKee0
  split
  · exact rdOK_rn _ _ h2
  · exact rdOK_rn _ _ (rdOK_fail h2)
theorem rdOK_kee {σ : xS} (h : RdOK σ) : RdOK (iKee σ) := by
  have h2 := rdOK_kee1 h
  unfold iKee
  split
  · exact rdOK_o h2 (by rw [xput_f (by decide), xu_ne _ _ _ (by decide)]) (by rw [xput_f (by decide), xu_ne _ _ _ (by decide)])
  · exact h2
theorem rdOK_day {σ : xS} (h : RdOK σ) : RdOK (iDay σ) := by
  have h2 := rdOK_rn 1 99 h
  unfold iDay
  split
  · exact rdOK_o h2 (by simp [xu, daysTo]) (by simp [xu, daysTo])
  · exact h2
theorem rdOK_body {σ : xS} (w : Int32) (h : RdOK σ) : RdOK (bodyS σ w) := by
  unfold bodyS
  split
  · exact rdOK_pro h
  · split
    · exact rdOK_hea h
    · split
      · exact rdOK_buy h
      · split
        · exact rdOK_sel h
        · split
          · exact rdOK_kee h
          · split
            · exact rdOK_day h
            · exact h
theorem rdOK_stop {σ : xS} (h : RdOK σ) : RdOK (stopS σ) := by
  have h0 : RdOK (stop0 σ) := by
    unfold stop0
    split
    · exact rdOK_adv h
    · exact rdOK_fail (rdOK_adv h)
  unfold stopS
  split
  · exact rdOK_o h0 (by simp [xu]) (by simp [xu])
  · exact h0
theorem stopS_f (σ : xS) {a : Nat} (h : a ≠ 52) : (stopS σ).1 a = σ.1 a := by
  have h0 : (stop0 σ).1 a = σ.1 a := by
    unfold stop0
    split
    · exact adv_f σ h
    · rw [failS_f _ h, adv_f σ h]
  unfold stopS
  split
  · rw [xu_ne _ _ _ h, h0]
  · exact h0
theorem c_X2_readItem (d : Nat) {E : xE} {σ : xS} (hr : RdOK σ) (hs : RdSt σ) (hd : DrOK σ) : Ct E (d + 6) yX2_readItem cX2_readItem 2 none [.ref (E.1 52)] σ none (itemS σ) := by
  obtain ⟨P, H, B, hP, hP7, hH, hH4, hB, hB3⟩ := hd
  obtain ⟨w, hw⟩ : ∃ w, w = wordI σ := ⟨_, rfl⟩
  refine Ct.of (by decide +kernel) (Nat.le_of_ble_eq_true rfl) rfl ?_
  show Ev E _ RX2 cX2_readItem 2 _ 0 [some (.ref (E.1 52)), none] [] _
  refine ev_aload_0 dX2_readItem_0 ?_
  refine ev_invV (ci := 2) dX2_readItem_1 ml_X2_50 mt_X2_wordAtHand (c_X2_wordAtHand d hs) (by first | assumption | decide) (by decide) rfl rfl rfl (rm_ok (by omega)) (Nat.le_of_ble_eq_true rfl) ?_
  rw [← hw]
  refine Ev.pc 4 rfl ?_
  refine ev_istore_1 dX2_readItem_4 rfl ?_
  refine ev_aload_0 dX2_readItem_5 ?_
  refine ev_iload_1 dX2_readItem_6 ?_
  refine Ev.pc 7 rfl ?_
  refine ev_invV (ci := 2) dX2_readItem_7 ml_X2_54 mt_X2_mayStand (c_X2_mayStand d) (by first | assumption | decide) (by decide) rfl rfl rfl (rm_ok (by omega)) (Nat.le_of_ble_eq_true rfl) ?_
  refine Ev.pc 10 rfl ?_
  refine ev_if_ne 18 dX2_readItem_10 rfl (fun h10 => ?_) (fun h10 => ?_)
  · refine ev_iload_1 dX2_readItem_18 ?_
    refine sw_X2_readItem_19 (fun h19 => ?_) (fun h19 => ?_) (fun h19 => ?_) (fun h19 => ?_) (fun h19 => ?_) (fun h19 => ?_) (fun h19_1 h19_2 h19_3 h19_4 h19_5 h19_6 => ?_)
    · have g1 := may1 (σ := σ) (by rw [← h19]; exact h10)
      have g2 : P < 7 := lt_of_nle (N := 7) (by omega) (by omega) (by rw [← hP]; exact g1)
      have eb : bodyS σ w = iPro σ := by rw [h19]; exact bodyS_1 σ
      refine ev_aload_0 dX2_readItem_56 ?_
      refine ev_invV (ci := 2) dX2_readItem_57 ml_X2_61 mt_X2_readPromise (c_X2_readPromise d hr hP g2) (by first | assumption | decide) (by decide) rfl rfl rfl (rm_ok (by omega)) (Nat.le_of_ble_eq_true rfl) ?_
      refine Ev.pc 60 rfl ?_
      refine ev_goto 98 dX2_readItem_60 rfl ?_
      try rw [← eb]
      refine ev_aload_0 dX2_readItem_98 ?_
      refine ev_invV (ci := 2) dX2_readItem_99 ml_X2_79 mt_X2_readStop (c_X2_readStop d (by first | exact rdOK_body w hr | exact hr)) (by first | assumption | decide) (by decide) rfl rfl rfl (rm_ok (by omega)) (Nat.le_of_ble_eq_true rfl) ?_
      refine Ev.pc 102 rfl ?_
      exact ev_return dX2_readItem_102 ⟨by rfl, by (first | (rw [itemS, ← hw, eb2]; exact (if_neg h10).symm) | (rw [itemS, ← hw]; exact (if_neg h10).symm))⟩
    · have g1 := may2 (σ := σ) (by rw [← h19]; exact h10)
      have g2 : H < 4 := lt_of_nle (N := 4) (by omega) (by omega) (by rw [← hH]; exact g1)
      have eb : bodyS σ w = iHea σ := by rw [h19]; exact bodyS_2 σ
      refine ev_aload_0 dX2_readItem_63 ?_
      refine ev_invV (ci := 2) dX2_readItem_64 ml_X2_64 mt_X2_readHearer (c_X2_readHearer d hr hH g2) (by first | assumption | decide) (by decide) rfl rfl rfl (rm_ok (by omega)) (Nat.le_of_ble_eq_true rfl) ?_
      refine Ev.pc 67 rfl ?_
      refine ev_goto 98 dX2_readItem_67 rfl ?_
      try rw [← eb]
      refine ev_aload_0 dX2_readItem_98 ?_
      refine ev_invV (ci := 2) dX2_readItem_99 ml_X2_79 mt_X2_readStop (c_X2_readStop d (by first | exact rdOK_body w hr | exact hr)) (by first | assumption | decide) (by decide) rfl rfl rfl (rm_ok (by omega)) (Nat.le_of_ble_eq_true rfl) ?_
      refine Ev.pc 102 rfl ?_
      exact ev_return dX2_readItem_102 ⟨by rfl, by (first | (rw [itemS, ← hw, eb2]; exact (if_neg h10).symm) | (rw [itemS, ← hw]; exact (if_neg h10).symm))⟩
    · have g1 := may3 (σ := σ) (by rw [← h19]; exact h10)
      have g2 : B < 3 := lt_of_nle (N := 3) (by omega) (by omega) (by rw [← hB]; exact g1)
      have eb : bodyS σ w = iBuy σ := by rw [h19]; exact bodyS_3 σ
      refine ev_aload_0 dX2_readItem_70 ?_
      refine ev_invV (ci := 2) dX2_readItem_71 ml_X2_67 mt_X2_readBuyer (c_X2_readBuyer d hr hB g2) (by first | assumption | decide) (by decide) rfl rfl rfl (rm_ok (by omega)) (Nat.le_of_ble_eq_true rfl) ?_
      refine Ev.pc 74 rfl ?_
      refine ev_goto 98 dX2_readItem_74 rfl ?_
      try rw [← eb]
      refine ev_aload_0 dX2_readItem_98 ?_
      refine ev_invV (ci := 2) dX2_readItem_99 ml_X2_79 mt_X2_readStop (c_X2_readStop d (by first | exact rdOK_body w hr | exact hr)) (by first | assumption | decide) (by decide) rfl rfl rfl (rm_ok (by omega)) (Nat.le_of_ble_eq_true rfl) ?_
      refine Ev.pc 102 rfl ?_
      exact ev_return dX2_readItem_102 ⟨by rfl, by (first | (rw [itemS, ← hw, eb2]; exact (if_neg h10).symm) | (rw [itemS, ← hw]; exact (if_neg h10).symm))⟩
    · have eb : bodyS σ w = iSel σ := by rw [h19]; exact bodyS_4 σ
      refine ev_aload_0 dX2_readItem_77 ?_
      refine ev_invV (ci := 2) dX2_readItem_78 ml_X2_70 mt_X2_readBuy (c_X2_readBuy d hr) (by first | assumption | decide) (by decide) rfl rfl rfl (rm_ok (by omega)) (Nat.le_of_ble_eq_true rfl) ?_
      refine Ev.pc 81 rfl ?_
      refine ev_goto 98 dX2_readItem_81 rfl ?_
      try rw [← eb]
      refine ev_aload_0 dX2_readItem_98 ?_
      refine ev_invV (ci := 2) dX2_readItem_99 ml_X2_79 mt_X2_readStop (c_X2_readStop d (by first | exact rdOK_body w hr | exact hr)) (by first | assumption | decide) (by decide) rfl rfl rfl (rm_ok (by omega)) (Nat.le_of_ble_eq_true rfl) ?_
      refine Ev.pc 102 rfl ?_
      exact ev_return dX2_readItem_102 ⟨by rfl, by (first | (rw [itemS, ← hw, eb2]; exact (if_neg h10).symm) | (rw [itemS, ← hw]; exact (if_neg h10).symm))⟩
    · have eb : bodyS σ w = iKee σ := by rw [h19]; exact bodyS_5 σ
      refine ev_aload_0 dX2_readItem_84 ?_
      refine ev_invV (ci := 2) dX2_readItem_85 ml_X2_73 mt_X2_readKeep (c_X2_readKeep d hr) (by first | assumption | decide) (by decide) rfl rfl rfl (rm_ok (by omega)) (Nat.le_of_ble_eq_true rfl) ?_
      refine Ev.pc 88 rfl ?_
      refine ev_goto 98 dX2_readItem_88 rfl ?_
      try rw [← eb]
      refine ev_aload_0 dX2_readItem_98 ?_
      refine ev_invV (ci := 2) dX2_readItem_99 ml_X2_79 mt_X2_readStop (c_X2_readStop d (by first | exact rdOK_body w hr | exact hr)) (by first | assumption | decide) (by decide) rfl rfl rfl (rm_ok (by omega)) (Nat.le_of_ble_eq_true rfl) ?_
      refine Ev.pc 102 rfl ?_
      exact ev_return dX2_readItem_102 ⟨by rfl, by (first | (rw [itemS, ← hw, eb2]; exact (if_neg h10).symm) | (rw [itemS, ← hw]; exact (if_neg h10).symm))⟩
    · have eb : bodyS σ w = iDay σ := by rw [h19]; exact bodyS_6 σ
      refine ev_aload_0 dX2_readItem_91 ?_
      refine ev_invV (ci := 2) dX2_readItem_92 ml_X2_76 mt_X2_readDays (c_X2_readDays d hr hP hP7) (by first | assumption | decide) (by decide) rfl rfl rfl (rm_ok (by omega)) (Nat.le_of_ble_eq_true rfl) ?_
      refine Ev.pc 95 rfl ?_
      refine ev_goto 98 dX2_readItem_95 rfl ?_
      try rw [← eb]
      refine ev_aload_0 dX2_readItem_98 ?_
      refine ev_invV (ci := 2) dX2_readItem_99 ml_X2_79 mt_X2_readStop (c_X2_readStop d (by first | exact rdOK_body w hr | exact hr)) (by first | assumption | decide) (by decide) rfl rfl rfl (rm_ok (by omega)) (Nat.le_of_ble_eq_true rfl) ?_
      refine Ev.pc 102 rfl ?_
      exact ev_return dX2_readItem_102 ⟨by rfl, by (first | (rw [itemS, ← hw, eb2]; exact (if_neg h10).symm) | (rw [itemS, ← hw]; exact (if_neg h10).symm))⟩
    · have eb2 : bodyS σ w = σ := by rw [bodyS, if_neg h19_1, if_neg h19_2, if_neg h19_3, if_neg h19_4, if_neg h19_5, if_neg h19_6]
      try rw [← eb]
      refine ev_aload_0 dX2_readItem_98 ?_
      refine ev_invV (ci := 2) dX2_readItem_99 ml_X2_79 mt_X2_readStop (c_X2_readStop d (by first | exact rdOK_body w hr | exact hr)) (by first | assumption | decide) (by decide) rfl rfl rfl (rm_ok (by omega)) (Nat.le_of_ble_eq_true rfl) ?_
      refine Ev.pc 102 rfl ?_
      exact ev_return dX2_readItem_102 ⟨by rfl, by (first | (rw [itemS, ← hw, eb2]; exact (if_neg h10).symm) | (rw [itemS, ← hw]; exact (if_neg h10).symm))⟩
  · refine ev_aload_0 dX2_readItem_13 ?_
    refine ev_invV (ci := 2) dX2_readItem_14 ml_X2_58 mt_X2_fail (c_X2_fail d) (by first | assumption | decide) (by decide) rfl rfl rfl (rm_ok (by omega)) (Nat.le_of_ble_eq_true rfl) ?_
    refine Ev.pc 17 rfl ?_
    exact ev_return dX2_readItem_17 ⟨by rfl, by (rw [itemS, ← hw]; exact (if_pos h10).symm)⟩

theorem drOK_pro {σ : xS} (h : DrOK σ) (h7 : ¬ 7 ≤ σ.1 54 7) : DrOK (iPro σ) := by
  have e : (rnS (rnS σ 0 5) 1 9).1 54 = σ.1 54 := by rw [rnS_f _ _ _ (by decide), rnS_f _ _ _ (by decide)]
  obtain ⟨P, H, B, hP, hP7, hH, hH4, hB, hB3⟩ := h
  have g2 : P < 7 := lt_of_nle (N := 7) (by omega) (by omega) (by rw [← hP]; exact h7)
  unfold iPro
  split
  · refine ⟨P + 1, H, B, ?_, by omega, ?_, hH4, ?_, hB3⟩
    · rw [hP, nI_clamp (by omega)]; simp [addPr, xu]
    · simp [addPr, xu, e, hH]
    · simp [addPr, xu, e, hB]
  · exact ⟨P, H, B, by rw [e]; exact hP, hP7, by rw [e]; exact hH, hH4, by rw [e]; exact hB, hB3⟩
theorem drOK_hea {σ : xS} (h : DrOK σ) (h7 : ¬ 4 ≤ σ.1 54 8) : DrOK (iHea σ) := by
  have e : (rnS (rnS σ 0 5) 1 9).1 54 = σ.1 54 := by rw [rnS_f _ _ _ (by decide), rnS_f _ _ _ (by decide)]
  obtain ⟨P, H, B, hP, hP7, hH, hH4, hB, hB3⟩ := h
  have g2 : H < 4 := lt_of_nle (N := 4) (by omega) (by omega) (by rw [← hH]; exact h7)
  unfold iHea
  split
  · refine ⟨P, H + 1, B, ?_, hP7, ?_, by omega, ?_, hB3⟩
    · simp [addHe, xu, e, hP]
    · rw [hH, nI_clamp (by omega)]; simp [addHe, xu]
    · simp [addHe, xu, e, hB]
  · exact ⟨P, H, B, by rw [e]; exact hP, hP7, by rw [e]; exact hH, hH4, by rw [e]; exact hB, hB3⟩
theorem drOK_buy {σ : xS} (h : DrOK σ) (h7 : ¬ 3 ≤ σ.1 54 9) : DrOK (iBuy σ) := by
  have e : (rnS σ 0 99).1 54 = σ.1 54 := by rw [rnS_f _ _ _ (by decide)]
  obtain ⟨P, H, B, hP, hP7, hH, hH4, hB, hB3⟩ := h
  have g2 : B < 3 := lt_of_nle (N := 3) (by omega) (by omega) (by rw [← hB]; exact h7)
  unfold iBuy
  split
  · refine ⟨P, H, B + 1, ?_, hP7, ?_, hH4, ?_, by omega⟩
    · simp [addBu, xu, e, hP]
    · simp [addBu, xu, e, hH]
    · rw [hB, nI_clamp (by omega)]; simp [addBu, xu]
  · exact ⟨P, H, B, by rw [e]; exact hP, hP7, by rw [e]; exact hH, hH4, by rw [e]; exact hB, hB3⟩
theorem iSel1_f (σ : xS) {a : Nat} (h : a ≠ 52) : (iSel1 σ).1 a = σ.1 a := by
  have e : (iSel0 σ).1 a = σ.1 a := by rw [iSel0, rnS_f _ _ _ h, rnS_f _ _ _ h]
  unfold iSel1
  split
  · exact e
  · rw [failS_f _ h]; exact e
theorem drOK_sel {σ : xS} (h : DrOK σ) : DrOK (iSel σ) := by
  refine h.f ?_
  unfold iSel
  split
  · rw [xput_f (by decide), xput_f (by decide)]; exact iSel1_f σ (by decide)
  · exact iSel1_f σ (by decide)
theorem iKee1_f (σ : xS) {a : Nat} (h : a ≠ 52) : (iKee1 σ).1 a = σ.1 a := by
  have e : (iKee0 σ).1 a = σ.1 a := by
    unfold iKee0
    split
    · exact rnS_f _ _ _ h
    · rw [failS_f _ h]; exact rnS_f _ _ _ h
  rw [iKee1, rnS_f _ _ _ h]; exact e
theorem drOK_kee {σ : xS} (h : DrOK σ) : DrOK (iKee σ) := by
  unfold iKee
  split
  · refine h.o ?_ ?_ ?_
    · rw [xput_f (by decide)]; simp [xu, iKee1_f]
    · rw [xput_f (by decide)]; simp [xu, iKee1_f]
    · rw [xput_f (by decide)]; simp [xu, iKee1_f]
  · exact h.f (iKee1_f σ (by decide))
theorem drOK_day {σ : xS} (h : DrOK σ) : DrOK (iDay σ) := by
  have e : (rnS σ 1 99).1 54 = σ.1 54 := rnS_f _ _ _ (by decide)
  unfold iDay
  split
  · refine h.o ?_ ?_ ?_
    · simp [xu, daysTo, e]
    · simp [xu, daysTo, e]
    · simp [xu, daysTo, e]
  · exact h.f e
theorem drOK_item {σ : xS} (h : DrOK σ) : DrOK (itemS σ) := by
  unfold itemS
  split
  · exact h.f (failS_f _ (by decide))
  · rename_i hm
    have e : DrOK (bodyS σ (wordI σ)) := by
      unfold bodyS
      split
      · rename_i hw; exact drOK_pro h (may1 (by rw [← hw]; exact hm))
      · split
        · rename_i hw; exact drOK_hea h (may2 (by rw [← hw]; exact hm))
        · split
          · rename_i hw; exact drOK_buy h (may3 (by rw [← hw]; exact hm))
          · split
            · exact drOK_sel h
            · split
              · exact drOK_kee h
              · split
                · exact drOK_day h
                · exact h
    exact e.f (stopS_f _ (by decide))
theorem rdOK_item {σ : xS} (h : RdOK σ) : RdOK (itemS σ) := by
  unfold itemS
  split
  · exact rdOK_fail h
  · exact rdOK_stop (rdOK_body _ h)
theorem rdSt_adv {σ : xS} (h : RdOK σ) (h0 : (adv σ).1 52 3 = -1) : RdSt (adv σ) := by
  rw [adv_k σ (by decide) (by decide) (by decide) (by decide)] at h0
  obtain ⟨L, a, h1, h2, h3, h4⟩ := h
  refine ⟨tS (σ.1 53) L a, tN (σ.1 53) L a, ?_, ?_, tN_ge _ _ _, ?_⟩
  · rw [adv, if_pos h0, h1, h3, nI_clamp (by omega), nI_clamp (by omega)]; simp [advT, setR]
  · rw [adv, if_pos h0, h1, h3, nI_clamp (by omega), nI_clamp (by omega)]; simp [advT, setR]
  · have := tN_le (σ.1 53) h4; omega
abbrev reach (σ : xS) : Prop := (adv σ).1 52 3 = -1 ∧ ((adv σ).1 52 5 = 0 → (adv σ).1 52 4 = 0)
def rdL : Nat → xS → xS
  | 0, σ => σ
  | n + 1, σ => if reach σ then rdL n (itemS (adv σ)) else adv σ
theorem rdL_s (n : Nat) (σ : xS) : rdL (n + 1) σ = if reach σ then rdL n (itemS (adv σ)) else adv σ := rfl
def readE (τ : xS) : Int32 × xS := if τ.1 52 3 = -1 then ((cpTown (emptyS τ) 2 54).1 52 4, cpTown (emptyS τ) 2 54) else (-10 - τ.1 52 3, τ)
def readQ (σ : xS) : Int32 × xS := readE (rdL 151 (beginS σ))
theorem c_X5_read (d : Nat) {E : xE} {σ : xS} (hb : RdOK (beginS σ)) (hd : DrOK (beginS σ)) : Ct E (d + 7) yX5_read cX5_read 2 (some .int) [.ref (E.1 0)] σ (some (.int (readQ σ).1)) (readQ σ).2 := by
  have loop : ∀ (n i : Nat) (τ : xS), i + n = 151 → RdOK τ → DrOK τ → readQ σ = readE (rdL n τ) → Ev E (rm (d + 7)) RX5 cX5_read 2 (fun v t => v = some (.int (readQ σ).1) ∧ t = (readQ σ).2) 9 [some (.ref (E.1 0)), some (.int (nI i))] [] τ := by
    have tail : ∀ (τ : xS) (x : Int32), readQ σ = readE τ → Ev E (rm (d + 7)) RX5 cX5_read 2 (fun v t => v = some (.int (readQ σ).1) ∧ t = (readQ σ).2) 39 [some (.ref (E.1 0)), some (.int x)] [] τ := by
      intro τ x he
      refine ev_aload_0 dX5_read_39 ?_
      refine ev_get dX5_read_40 fk_X5_25 (by first | assumption | decide) (by decide) rfl ?_
      refine ev_get dX5_read_43 fk_X5_152 (by first | assumption | decide) (by decide) rfl ?_
      refine ev_iconst_m1 dX5_read_46 ?_
      refine ev_icmp_eq 61 dX5_read_47 rfl (fun h47 => ?_) (fun h47 => ?_)
      · refine ev_aload_0 dX5_read_61 ?_
        refine ev_get dX5_read_62 fk_X5_10 (by first | assumption | decide) (by decide) rfl ?_
        refine ev_invV (ci := 3) dX5_read_65 ml_X5_95 mt_X3_empty (c_X3_empty d) (by first | assumption | decide) (by decide) rfl rfl rfl (rm_ok (by omega)) (Nat.le_of_ble_eq_true rfl) ?_
        refine Ev.pc 68 rfl ?_
        refine ev_aload_0 dX5_read_68 ?_
        refine ev_get dX5_read_69 fk_X5_10 (by first | assumption | decide) (by decide) rfl ?_
        refine Ev.pc 72 rfl ?_
        refine ev_get dX5_read_72 fk_X5_89 (by first | assumption | decide) (by decide) rfl ?_
        simp only [Nat.reduceAdd]
        refine ev_aload_0 dX5_read_75 ?_
        refine ev_get dX5_read_76 fk_X5_25 (by first | assumption | decide) (by decide) rfl ?_
        refine ev_get dX5_read_79 fk_X5_155 (by first | assumption | decide) (by decide) rfl ?_
        simp only [Nat.reduceAdd]
        refine ev_invV (ci := 4) dX5_read_82 ml_X5_158 mt_X4_take (c_X4_take d (t := 2) (s := 54) town_now town_draft) (by first | assumption | decide) (by decide) rfl rfl rfl (rm_ok (by omega)) (Nat.le_of_ble_eq_true rfl) ?_
        refine Ev.pc 85 rfl ?_
        refine ev_aload_0 dX5_read_85 ?_
        refine ev_get dX5_read_86 fk_X5_25 (by first | assumption | decide) (by decide) rfl ?_
        refine ev_get dX5_read_89 fk_X5_162 (by first | assumption | decide) (by decide) rfl ?_
        exact ev_ireturn dX5_read_92 ⟨by (rw [he, readE]; split <;> first | contradiction | rfl), by (rw [he, readE]; split <;> first | contradiction | rfl)⟩
      · refine ev_bipush (-10) dX5_read_50 rfl ?_
        refine ev_aload_0 dX5_read_52 ?_
        refine ev_get dX5_read_53 fk_X5_25 (by first | assumption | decide) (by decide) rfl ?_
        refine ev_get dX5_read_56 fk_X5_152 (by first | assumption | decide) (by decide) rfl ?_
        refine ev_isub dX5_read_59 ?_
        refine Ev.pc 60 rfl ?_
        exact ev_ireturn dX5_read_60 ⟨by (rw [he, readE]; split <;> first | contradiction | rfl), by (rw [he, readE]; split <;> first | contradiction | rfl)⟩
    intro n
    induction n with
    | zero =>
      intro i τ hi h1 h2 he
      refine ev_iload_1 dX5_read_9 ?_
      refine ev_sipush (150) dX5_read_10 rfl ?_
      refine ev_icmp_gt 39 dX5_read_13 rfl (fun h13 => ?_) (fun h13 => ?_)
      · exact tail _ _ he
      · exact absurd (show nI 150 < nI i from nI_lt (by omega) (by omega)) h13
    | succ n ih =>
      intro i τ hi h1 h2 he
      rw [rdL_s] at he
      refine ev_iload_1 dX5_read_9 ?_
      refine ev_sipush (150) dX5_read_10 rfl ?_
      refine ev_icmp_gt 39 dX5_read_13 rfl (fun h13 => ?_) (fun h13 => ?_)
      · exact absurd h13 (show ¬ nI 150 < nI i from nI_nlt (by omega) (by omega))
      · refine ev_aload_0 dX5_read_16 ?_
        refine ev_get dX5_read_17 fk_X5_25 (by first | assumption | decide) (by decide) rfl ?_
        refine ev_invV (ci := 2) dX5_read_20 ml_X5_145 mt_X2_reachesItem (c_X2_reachesItem d h1) (by first | assumption | decide) (by decide) rfl rfl rfl (rm_ok (by omega)) (Nat.le_of_ble_eq_true rfl) ?_
        refine Ev.pc 23 rfl ?_
        refine ev_if_eq 39 dX5_read_23 rfl (fun h23 => ?_) (fun h23 => ?_)
        · have g := b2i_0.mp h23
          rw [if_neg g] at he
          exact tail _ _ he
        · have g := Decidable.not_not.mp (fun h => h23 (b2i_0.mpr h))
          rw [if_pos g] at he
          refine ev_aload_0 dX5_read_26 ?_
          refine ev_get dX5_read_27 fk_X5_25 (by first | assumption | decide) (by decide) rfl ?_
          refine ev_invV (ci := 2) dX5_read_30 ml_X5_149 mt_X2_readItem (c_X2_readItem d (rdOK_adv h1) (rdSt_adv h1 g.1) (h2.f (adv_f _ (by decide)))) (by first | assumption | decide) (by decide) rfl rfl rfl (rm_ok (by omega)) (Nat.le_of_ble_eq_true rfl) ?_
          refine Ev.pc 33 rfl ?_
          refine ev_iinc_1 (1) dX5_read_33 rfl rfl ?_
          refine ev_goto 9 dX5_read_36 rfl ?_
          rw [nI_1]
          exact ih (i + 1) _ (by omega) (rdOK_item (rdOK_adv h1)) (drOK_item (h2.f (adv_f _ (by decide)))) he
  refine Ct.of (by decide +kernel) (Nat.le_of_ble_eq_true rfl) ⟨_, rfl, rfl⟩ ?_
  show Ev E _ RX5 cX5_read 2 _ 0 [some (.ref (E.1 0)), none] [] _
  refine ev_aload_0 dX5_read_0 ?_
  refine ev_get dX5_read_1 fk_X5_25 (by first | assumption | decide) (by decide) rfl ?_
  refine ev_invV (ci := 2) dX5_read_4 ml_X5_142 mt_X2_begin (c_X2_begin d) (by first | assumption | decide) (by decide) rfl rfl rfl (rm_ok (by omega)) (Nat.le_of_ble_eq_true rfl) ?_
  refine Ev.pc 7 rfl ?_
  refine ev_iconst_0 dX5_read_7 ?_
  refine ev_istore_1 dX5_read_8 rfl ?_
  refine Ev.pc 9 rfl ?_
  exact loop 151 0 _ (by omega) hb hd rfl
