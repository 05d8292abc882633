/-! the reader: numbers, words, items -/
def failS (σ : xS) : xS := if σ.1 52 3 = -1 then xu σ 52 3 (σ.1 52 6) else σ
def rnS (σ : xS) (lo hi : Int32) : xS := if (adv σ).1 52 5 = 2 ∧ btw ((adv σ).1 52 8) lo hi then adv σ else failS (adv σ)
def stop0 (σ : xS) : xS := if (adv σ).1 52 5 = 3 then adv σ else failS (adv σ)
def stopS (σ : xS) : xS := if (stop0 σ).1 52 3 = -1 then xu (stop0 σ) 52 4 ((stop0 σ).1 52 4 + 1) else stop0 σ
theorem adv_f (σ : xS) {a : Nat} (h : a ≠ 52) : (adv σ).1 a = σ.1 a := by
  unfold adv
  split
  · funext b; simp [advT, setR, h]
  · rfl
theorem adv_k (σ : xS) {b : Nat} (h5 : b ≠ 5) (h6 : b ≠ 6) (h7 : b ≠ 7) (h8 : b ≠ 8) : (adv σ).1 52 b = σ.1 52 b := by
  unfold adv
  split
  · simp [advT, setR, h5, h6, h7, h8]
  · rfl
theorem failS_f (σ : xS) {a : Nat} (h : a ≠ 52) : (failS σ).1 a = σ.1 a := by
  unfold failS
  split
  · exact xu_ne σ _ _ h
  · rfl
theorem failS_k (σ : xS) {b : Nat} (h : b ≠ 3) : (failS σ).1 52 b = σ.1 52 b := by
  unfold failS
  split
  · simp [xu, h]
  · rfl
theorem rnS_f (σ : xS) (lo hi : Int32) {a : Nat} (h : a ≠ 52) : (rnS σ lo hi).1 a = σ.1 a := by
  unfold rnS
  split
  · exact adv_f σ h
  · rw [failS_f _ h, adv_f σ h]
theorem rdOK_adv {σ : xS} (h : RdOK σ) : RdOK (adv σ) := by
  obtain ⟨L, a, h1, h2, h3, h4⟩ := h
  by_cases h0 : σ.1 52 3 = -1
  · refine ⟨L, tN (σ.1 53) L a, ?_, h2, ?_, tN_le _ h4⟩
    · rw [adv_k σ (by decide) (by decide) (by decide) (by decide)]; exact h1
    · rw [adv, if_pos h0, h1, h3, nI_clamp (by omega), nI_clamp (by omega)]
      simp [advT, setR]
  · rw [adv, if_neg h0]; exact ⟨L, a, h1, h2, h3, h4⟩
theorem rdOK_fail {σ : xS} (h : RdOK σ) : RdOK (failS σ) := by
  obtain ⟨L, a, h1, h2, h3, h4⟩ := h
  exact ⟨L, a, by rw [failS_k σ (by decide)]; exact h1, h2, by rw [failS_k σ (by decide)]; exact h3, h4⟩
theorem rdOK_rn {σ : xS} (lo hi : Int32) (h : RdOK σ) : RdOK (rnS σ lo hi) := by
  unfold rnS
  split
  · exact rdOK_adv h
  · exact rdOK_fail (rdOK_adv h)
theorem rdOK_o {σ τ : xS} (h : RdOK σ) (h2 : τ.1 52 2 = σ.1 52 2) (h7 : τ.1 52 7 = σ.1 52 7) : RdOK τ := by
  obtain ⟨L, a, h1, h3, h4, h5⟩ := h
  exact ⟨L, a, h2.trans h1, h3, h7.trans h4, h5⟩
theorem rn_v (σ : xS) (lo hi : Int32) : (rnS σ lo hi).1 52 8 = (adv σ).1 52 8 := by
  unfold rnS
  split
  · rfl
  · exact failS_k _ (by decide)
theorem c_X2_fail (d : Nat) {E : xE} {σ : xS} : Ct E d yX2_fail cX2_fail 1 none [.ref (E.1 52)] σ none (failS σ) := by
  refine Ct.of (by decide +kernel) (Nat.le_of_ble_eq_true rfl) rfl ?_
  show Ev E _ RX2 cX2_fail 1 _ 0 [some (.ref (E.1 52))] [] _
  refine ev_aload_0 dX2_fail_0 ?_
  refine ev_get dX2_fail_1 fk_X2_26 (by first | assumption | decide) (by decide) rfl ?_
  refine ev_iconst_m1 dX2_fail_4 ?_
  refine ev_icmp_ne 16 dX2_fail_5 rfl (fun h5 => ?_) (fun h5 => ?_)
  · exact ev_return dX2_fail_16 ⟨by rfl, by ((try simp only [b2i_0, b2i_1, Decidable.not_not] at *); simp only [failS]; repeat' (first | with_reducible rfl | contradiction | (exfalso; simp_all; done) | split))⟩
  · refine ev_aload_0 dX2_fail_8 ?_
    refine ev_aload_0 dX2_fail_9 ?_
    refine ev_get dX2_fail_10 fk_X2_35 (by first | assumption | decide) (by decide) rfl ?_
    refine ev_put dX2_fail_13 fk_X2_26 (by first | assumption | decide) (by decide) rfl ?_
    exact ev_return dX2_fail_16 ⟨by rfl, by ((try simp only [b2i_0, b2i_1, Decidable.not_not] at *); simp only [failS]; repeat' (first | with_reducible rfl | contradiction | (exfalso; simp_all; done) | split))⟩
theorem c_X2_readNumber (d : Nat) {E : xE} {σ : xS} {lo hi : Int32} (hr : RdOK σ) : Ct E (d + 3) yX2_readNumber cX2_readNumber 3 (some .int) [.ref (E.1 52), .int lo, .int hi] σ (some (.int ((rnS σ lo hi).1 52 8))) (rnS σ lo hi) := by
  refine Ct.of (by decide +kernel) (Nat.le_of_ble_eq_true rfl) ⟨_, rfl, rfl⟩ ?_
  show Ev E _ RX2 cX2_readNumber 3 _ 0 [some (.ref (E.1 52)), some (.int lo), some (.int hi)] [] _
  refine ev_aload_0 dX2_readNumber_0 ?_
  refine ev_invV (ci := 2) dX2_readNumber_1 ml_X2_47 mt_X2_advance (c_X2_advance d hr) (by first | assumption | decide) (by decide) rfl rfl rfl (rm_ok (by omega)) (Nat.le_of_ble_eq_true rfl) ?_
  refine Ev.pc 4 rfl ?_
  refine ev_aload_0 dX2_readNumber_4 ?_
  refine ev_get dX2_readNumber_5 fk_X2_32 (by first | assumption | decide) (by decide) rfl ?_
  refine ev_iconst_2 dX2_readNumber_8 ?_
  refine Ev.pc 9 rfl ?_
  refine ev_icmp_ne 24 dX2_readNumber_9 rfl (fun h9 => ?_) (fun h9 => ?_)
  · refine ev_aload_0 dX2_readNumber_24 ?_
    refine ev_invV (ci := 2) dX2_readNumber_25 ml_X2_58 mt_X2_fail (c_X2_fail d) (by first | assumption | decide) (by decide) rfl rfl rfl (rm_ok (by omega)) (Nat.le_of_ble_eq_true rfl) ?_
    refine Ev.pc 28 rfl ?_
    refine ev_aload_0 dX2_readNumber_28 ?_
    refine ev_get dX2_readNumber_29 fk_X2_41 (by first | assumption | decide) (by decide) rfl ?_
    exact ev_ireturn dX2_readNumber_32 ⟨by ((try simp only [b2i_0, b2i_1, Decidable.not_not] at *); first | (rw [rn_v]; done) | (rw [rn_v]; exact congrArg (fun z => some (Value.int z)) (failS_k _ (by decide)))), by ((try simp only [b2i_0, b2i_1, Decidable.not_not] at *); rw [rnS]; first | exact (if_pos ⟨h9, h21⟩).symm | exact (if_neg (fun h => h9 h.1)).symm | exact (if_neg (fun h => h21 h.2)).symm)⟩
  · refine ev_aload_0 dX2_readNumber_12 ?_
    refine ev_get dX2_readNumber_13 fk_X2_41 (by first | assumption | decide) (by decide) rfl ?_
    refine ev_iload_1 dX2_readNumber_16 ?_
    refine ev_iload_2 dX2_readNumber_17 ?_
    refine ev_invS dX2_readNumber_18 ml_X2_91 mt_X5_between (c_X5_between d) rfl rfl (rm_ok (by omega)) (Nat.le_of_ble_eq_true rfl) ?_
    refine Ev.pc 21 rfl ?_
    refine ev_if_ne 28 dX2_readNumber_21 rfl (fun h21 => ?_) (fun h21 => ?_)
    · refine ev_aload_0 dX2_readNumber_28 ?_
      refine ev_get dX2_readNumber_29 fk_X2_41 (by first | assumption | decide) (by decide) rfl ?_
      exact ev_ireturn dX2_readNumber_32 ⟨by ((try simp only [b2i_0, b2i_1, Decidable.not_not] at *); first | (rw [rn_v]; done) | (rw [rn_v]; exact congrArg (fun z => some (Value.int z)) (failS_k _ (by decide)))), by ((try simp only [b2i_0, b2i_1, Decidable.not_not] at *); rw [rnS]; first | exact (if_pos ⟨h9, h21⟩).symm | exact (if_neg (fun h => h9 h.1)).symm | exact (if_neg (fun h => h21 h.2)).symm)⟩
    · refine ev_aload_0 dX2_readNumber_24 ?_
      refine ev_invV (ci := 2) dX2_readNumber_25 ml_X2_58 mt_X2_fail (c_X2_fail d) (by first | assumption | decide) (by decide) rfl rfl rfl (rm_ok (by omega)) (Nat.le_of_ble_eq_true rfl) ?_
      refine Ev.pc 28 rfl ?_
      refine ev_aload_0 dX2_readNumber_28 ?_
      refine ev_get dX2_readNumber_29 fk_X2_41 (by first | assumption | decide) (by decide) rfl ?_
      exact ev_ireturn dX2_readNumber_32 ⟨by ((try simp only [b2i_0, b2i_1, Decidable.not_not] at *); first | (rw [rn_v]; done) | (rw [rn_v]; exact congrArg (fun z => some (Value.int z)) (failS_k _ (by decide)))), by ((try simp only [b2i_0, b2i_1, Decidable.not_not] at *); rw [rnS]; first | exact (if_pos ⟨h9, h21⟩).symm | exact (if_neg (fun h => h9 h.1)).symm | exact (if_neg (fun h => h21 h.2)).symm)⟩
theorem c_X2_readStop (d : Nat) {E : xE} {σ : xS} (hr : RdOK σ) : Ct E (d + 3) yX2_readStop cX2_readStop 1 none [.ref (E.1 52)] σ none (stopS σ) := by
  refine Ct.of (by decide +kernel) (Nat.le_of_ble_eq_true rfl) rfl ?_
  show Ev E _ RX2 cX2_readStop 1 _ 0 [some (.ref (E.1 52))] [] _
  refine ev_aload_0 dX2_readStop_0 ?_
  refine ev_invV (ci := 2) dX2_readStop_1 ml_X2_47 mt_X2_advance (c_X2_advance d hr) (by first | assumption | decide) (by decide) rfl rfl rfl (rm_ok (by omega)) (Nat.le_of_ble_eq_true rfl) ?_
  refine Ev.pc 4 rfl ?_
  refine ev_aload_0 dX2_readStop_4 ?_
  refine ev_get dX2_readStop_5 fk_X2_32 (by first | assumption | decide) (by decide) rfl ?_
  refine ev_iconst_3 dX2_readStop_8 ?_
  refine Ev.pc 9 rfl ?_
  refine ev_icmp_eq 16 dX2_readStop_9 rfl (fun h9 => ?_) (fun h9 => ?_)
  · refine ev_aload_0 dX2_readStop_16 ?_
    refine ev_get dX2_readStop_17 fk_X2_26 (by first | assumption | decide) (by decide) rfl ?_
    refine ev_iconst_m1 dX2_readStop_20 ?_
    refine ev_icmp_ne 34 dX2_readStop_21 rfl (fun h21 => ?_) (fun h21 => ?_)
    · exact ev_return dX2_readStop_34 ⟨by rfl, by (rw [stopS, stop0]; repeat' (first | with_reducible rfl | contradiction | split))⟩
    · refine ev_aload_0 dX2_readStop_24 ?_
      refine ev_dup dX2_readStop_25 rfl ?_
      refine ev_get dX2_readStop_26 fk_X2_29 (by first | assumption | decide) (by decide) rfl ?_
      refine ev_iconst_1 dX2_readStop_29 ?_
      refine ev_iadd dX2_readStop_30 ?_
      refine Ev.pc 31 rfl ?_
      refine ev_put dX2_readStop_31 fk_X2_29 (by first | assumption | decide) (by decide) rfl ?_
      exact ev_return dX2_readStop_34 ⟨by rfl, by (rw [stopS, stop0]; repeat' (first | with_reducible rfl | contradiction | split))⟩
  · refine ev_aload_0 dX2_readStop_12 ?_
    refine ev_invV (ci := 2) dX2_readStop_13 ml_X2_58 mt_X2_fail (c_X2_fail d) (by first | assumption | decide) (by decide) rfl rfl rfl (rm_ok (by omega)) (Nat.le_of_ble_eq_true rfl) ?_
    refine Ev.pc 16 rfl ?_
    refine ev_aload_0 dX2_readStop_16 ?_
    refine ev_get dX2_readStop_17 fk_X2_26 (by first | assumption | decide) (by decide) rfl ?_
    refine ev_iconst_m1 dX2_readStop_20 ?_
    refine Ev.pc 21 rfl ?_
    refine ev_icmp_ne 34 dX2_readStop_21 rfl (fun h21 => ?_) (fun h21 => ?_)
    · exact ev_return dX2_readStop_34 ⟨by rfl, by (rw [stopS, stop0]; repeat' (first | with_reducible rfl | contradiction | split))⟩
    · refine ev_aload_0 dX2_readStop_24 ?_
      refine ev_dup dX2_readStop_25 rfl ?_
      refine ev_get dX2_readStop_26 fk_X2_29 (by first | assumption | decide) (by decide) rfl ?_
      refine ev_iconst_1 dX2_readStop_29 ?_
      refine ev_iadd dX2_readStop_30 ?_
      refine Ev.pc 31 rfl ?_
      refine ev_put dX2_readStop_31 fk_X2_29 (by first | assumption | decide) (by decide) rfl ?_
      exact ev_return dX2_readStop_34 ⟨by rfl, by (rw [stopS, stop0]; repeat' (first | with_reducible rfl | contradiction | split))⟩
theorem c_X2_reachesItem (d : Nat) {E : xE} {σ : xS} (hr : RdOK σ) : Ct E (d + 3) yX2_reachesItem cX2_reachesItem 1 (some .boolean) [.ref (E.1 52)] σ (some (.int (b2i ((adv σ).1 52 3 = -1 ∧ ((adv σ).1 52 5 = 0 → (adv σ).1 52 4 = 0))))) (adv σ) := by
  refine Ct.of (by decide +kernel) (Nat.le_of_ble_eq_true rfl) ⟨_, rfl, nb_b2i _⟩ ?_
  show Ev E _ RX2 cX2_reachesItem 1 _ 0 [some (.ref (E.1 52))] [] _
  refine ev_aload_0 dX2_reachesItem_0 ?_
  refine ev_invV (ci := 2) dX2_reachesItem_1 ml_X2_47 mt_X2_advance (c_X2_advance d hr) (by first | assumption | decide) (by decide) rfl rfl rfl (rm_ok (by omega)) (Nat.le_of_ble_eq_true rfl) ?_
  refine Ev.pc 4 rfl ?_
  refine ev_aload_0 dX2_reachesItem_4 ?_
  refine ev_get dX2_reachesItem_5 fk_X2_26 (by first | assumption | decide) (by decide) rfl ?_
  refine ev_iconst_m1 dX2_reachesItem_8 ?_
  refine Ev.pc 9 rfl ?_
  refine ev_icmp_ne 30 dX2_reachesItem_9 rfl (fun h9 => ?_) (fun h9 => ?_)
  · refine ev_iconst_0 dX2_reachesItem_30 ?_
    exact ev_ireturn dX2_reachesItem_31 ⟨by (first | exact congrArg (fun z => some (Value.int z)) (b2i_t ⟨h9, fun h => absurd h h16⟩) | exact congrArg (fun z => some (Value.int z)) (b2i_t ⟨h9, fun _ => h23⟩) | exact congrArg (fun z => some (Value.int z)) (b2i_f (fun h => h9 h.1)) | exact congrArg (fun z => some (Value.int z)) (b2i_f (fun h => h23 (h.2 h16)))), by rfl⟩
  · refine ev_aload_0 dX2_reachesItem_12 ?_
    refine ev_get dX2_reachesItem_13 fk_X2_32 (by first | assumption | decide) (by decide) rfl ?_
    refine ev_if_ne 26 dX2_reachesItem_16 rfl (fun h16 => ?_) (fun h16 => ?_)
    · refine ev_iconst_1 dX2_reachesItem_26 ?_
      refine ev_goto 31 dX2_reachesItem_27 rfl ?_
      exact ev_ireturn dX2_reachesItem_31 ⟨by (first | exact congrArg (fun z => some (Value.int z)) (b2i_t ⟨h9, fun h => absurd h h16⟩) | exact congrArg (fun z => some (Value.int z)) (b2i_t ⟨h9, fun _ => h23⟩) | exact congrArg (fun z => some (Value.int z)) (b2i_f (fun h => h9 h.1)) | exact congrArg (fun z => some (Value.int z)) (b2i_f (fun h => h23 (h.2 h16)))), by rfl⟩
    · refine ev_aload_0 dX2_reachesItem_19 ?_
      refine ev_get dX2_reachesItem_20 fk_X2_29 (by first | assumption | decide) (by decide) rfl ?_
      refine ev_if_ne 30 dX2_reachesItem_23 rfl (fun h23 => ?_) (fun h23 => ?_)
      · refine ev_iconst_0 dX2_reachesItem_30 ?_
        exact ev_ireturn dX2_reachesItem_31 ⟨by (first | exact congrArg (fun z => some (Value.int z)) (b2i_t ⟨h9, fun h => absurd h h16⟩) | exact congrArg (fun z => some (Value.int z)) (b2i_t ⟨h9, fun _ => h23⟩) | exact congrArg (fun z => some (Value.int z)) (b2i_f (fun h => h9 h.1)) | exact congrArg (fun z => some (Value.int z)) (b2i_f (fun h => h23 (h.2 h16)))), by rfl⟩
      · refine ev_iconst_1 dX2_reachesItem_26 ?_
        refine ev_goto 31 dX2_reachesItem_27 rfl ?_
        exact ev_ireturn dX2_reachesItem_31 ⟨by (first | exact congrArg (fun z => some (Value.int z)) (b2i_t ⟨h9, fun h => absurd h h16⟩) | exact congrArg (fun z => some (Value.int z)) (b2i_t ⟨h9, fun _ => h23⟩) | exact congrArg (fun z => some (Value.int z)) (b2i_f (fun h => h9 h.1)) | exact congrArg (fun z => some (Value.int z)) (b2i_f (fun h => h23 (h.2 h16)))), by rfl⟩
def beginS (σ : xS) : xS := xu (xu (xu (xu (xu (xu (xu (xu σ 54 7 0) 54 8 0) 54 9 0) 54 10 0) 54 11 0) 52 3 (-1)) 52 4 0) 52 7 0
theorem c_X2_begin (d : Nat) {E : xE} {σ : xS} : Ct E (d + 1) yX2_begin cX2_begin 1 none [.ref (E.1 52)] σ none (beginS σ) := by
  refine Ct.of (by decide +kernel) (Nat.le_of_ble_eq_true rfl) rfl ?_
  show Ev E _ RX2 cX2_begin 1 _ 0 [some (.ref (E.1 52))] [] _
  refine ev_aload_0 dX2_begin_0 ?_
  refine ev_get dX2_begin_1 fk_X2_18 (by first | assumption | decide) (by decide) rfl ?_
  simp only [Nat.reduceAdd]
  refine ev_invV (ci := 4) dX2_begin_4 ml_X2_44 mt_X4_empty (c_X4_empty d (t := 54) town_draft.1) (by first | assumption | decide) (by decide) rfl rfl rfl (rm_ok (by omega)) (Nat.le_of_ble_eq_true rfl) ?_
  refine Ev.pc 7 rfl ?_
  refine ev_aload_0 dX2_begin_7 ?_
  refine ev_iconst_m1 dX2_begin_8 ?_
  refine Ev.pc 9 rfl ?_
  refine ev_put dX2_begin_9 fk_X2_26 (by first | assumption | decide) (by decide) rfl ?_
  refine ev_aload_0 dX2_begin_12 ?_
  refine ev_iconst_0 dX2_begin_13 ?_
  refine ev_put dX2_begin_14 fk_X2_29 (by first | assumption | decide) (by decide) rfl ?_
  refine ev_aload_0 dX2_begin_17 ?_
  refine Ev.pc 18 rfl ?_
  refine ev_iconst_0 dX2_begin_18 ?_
  refine ev_put dX2_begin_19 fk_X2_38 (by first | assumption | decide) (by decide) rfl ?_
  exact ev_return dX2_begin_22 ⟨by rfl, by rfl⟩
theorem c_X2_spelling (d : Nat) {E : xE} {σ : xS} {k : Nat} (hk : k < 7) : Ct E d yX2_spelling cX2_spelling 1 (some (.object "java/lang/String")) [.int (nI k)] σ (some (.ref (E.1 (1000 + k)))) σ := by
  refine Ct.of (by decide +kernel) (Nat.le_of_ble_eq_true rfl) ⟨_, rfl, Or.inl ⟨_, rfl⟩⟩ ?_
  show Ev E _ RX2 cX2_spelling 1 _ 0 [some (.int (nI k))] [] _
  have hk2 : k = 0 ∨ k = 1 ∨ k = 2 ∨ k = 3 ∨ k = 4 ∨ k = 5 ∨ k = 6 := by omega
  refine ev_iload_0 dX2_spelling_0 ?_
  rcases hk2 with rfl | rfl | rfl | rfl | rfl | rfl | rfl
  · refine sw_X2_spelling_1 (fun _ => ?_) (fun h => absurd h (by decide)) (fun h => absurd h (by decide)) (fun h => absurd h (by decide)) (fun h => absurd h (by decide)) (fun h => absurd h (by decide)) (fun h _ _ _ _ _ => absurd rfl h)
    refine ev_ldcS (k := 0) (by decide) rfl rfl dX2_spelling_40 ?_
    exact ev_areturn dX2_spelling_42 ⟨rfl, rfl⟩
  · refine sw_X2_spelling_1 (fun h => absurd h (by decide)) (fun _ => ?_) (fun h => absurd h (by decide)) (fun h => absurd h (by decide)) (fun h => absurd h (by decide)) (fun h => absurd h (by decide)) (fun _ h _ _ _ _ => absurd rfl h)
    refine ev_ldcS (k := 1) (by decide) rfl rfl dX2_spelling_43 ?_
    exact ev_areturn dX2_spelling_45 ⟨rfl, rfl⟩
  · refine sw_X2_spelling_1 (fun h => absurd h (by decide)) (fun h => absurd h (by decide)) (fun _ => ?_) (fun h => absurd h (by decide)) (fun h => absurd h (by decide)) (fun h => absurd h (by decide)) (fun _ _ h _ _ _ => absurd rfl h)
    refine ev_ldcS (k := 2) (by decide) rfl rfl dX2_spelling_46 ?_
    exact ev_areturn dX2_spelling_48 ⟨rfl, rfl⟩
  · refine sw_X2_spelling_1 (fun h => absurd h (by decide)) (fun h => absurd h (by decide)) (fun h => absurd h (by decide)) (fun _ => ?_) (fun h => absurd h (by decide)) (fun h => absurd h (by decide)) (fun _ _ _ h _ _ => absurd rfl h)
    refine ev_ldcS (k := 3) (by decide) rfl rfl dX2_spelling_49 ?_
    exact ev_areturn dX2_spelling_51 ⟨rfl, rfl⟩
  · refine sw_X2_spelling_1 (fun h => absurd h (by decide)) (fun h => absurd h (by decide)) (fun h => absurd h (by decide)) (fun h => absurd h (by decide)) (fun _ => ?_) (fun h => absurd h (by decide)) (fun _ _ _ _ h _ => absurd rfl h)
    refine ev_ldcS (k := 4) (by decide) rfl rfl dX2_spelling_52 ?_
    exact ev_areturn dX2_spelling_54 ⟨rfl, rfl⟩
  · refine sw_X2_spelling_1 (fun h => absurd h (by decide)) (fun h => absurd h (by decide)) (fun h => absurd h (by decide)) (fun h => absurd h (by decide)) (fun h => absurd h (by decide)) (fun _ => ?_) (fun _ _ _ _ _ h => absurd rfl h)
    refine ev_ldcS (k := 5) (by decide) rfl rfl dX2_spelling_55 ?_
    exact ev_areturn dX2_spelling_57 ⟨rfl, rfl⟩
  · refine sw_X2_spelling_1 (fun h => absurd h (by decide)) (fun h => absurd h (by decide)) (fun h => absurd h (by decide)) (fun h => absurd h (by decide)) (fun h => absurd h (by decide)) (fun h => absurd h (by decide)) (fun _ _ _ _ _ _ => ?_)
    refine ev_ldcS (k := 6) (by decide) rfl rfl dX2_spelling_58 ?_
    exact ev_areturn dX2_spelling_60 ⟨rfl, rfl⟩
def matchW (T : Nat → Int32) (s e k : Nat) : Bool := decide (xsLen.getD k 0 = e - s) && allB (fun i => decide (xch k i = T (s + i))) (xsLen.getD k 0)
theorem xsLen_le : ∀ k, k < 7 → xsLen.getD k 0 ≤ 7 := by decide
theorem c_X2_isAtHand (d : Nat) {E : xE} {σ : xS} {s e k : Nat} (hk : k < 7) (hs : σ.1 52 6 = nI s) (he : σ.1 52 7 = nI e) (hse : s ≤ e) (he1 : e ≤ 150) : Ct E (d + 4) yX2_isAtHand cX2_isAtHand 3 (some .boolean) [.ref (E.1 52), .ref (E.1 (1000 + k))] σ (some (.int (b2i (matchW (σ.1 53) s e k = true)))) σ := by
  have e53 : xlen 53 = 150 := by decide
  have hk7 := xsLen_le k hk
  have loop : xsLen.getD k 0 = e - s → ∀ (n i : Nat), i + n = xsLen.getD k 0 → allB (fun i => decide (xch k i = σ.1 53 (s + i))) i = true → Ev E (rm (d + 4)) RX2 cX2_isAtHand 3 (fun v t => v = some (.int (b2i (matchW (σ.1 53) s e k = true))) ∧ t = σ) 24 [some (.ref (E.1 52)), some (.ref (E.1 (1000 + k))), some (.int (nI i))] [] σ := by
    intro hlen n
    induction n with
    | zero =>
      intro i hi ha
      refine ev_iload_2 dX2_isAtHand_24 ?_
      refine ev_aload_1 dX2_isAtHand_25 ?_
      refine ev_invStr hk dX2_isAtHand_26 ml_X2_160 mt_J0_length_8abf5 (c_J0_length d hk) rfl rfl rfl (rm_ok (by omega)) (Nat.le_of_ble_eq_true rfl) ?_
      refine ev_icmp_ge 61 dX2_isAtHand_29 rfl (fun _ => ?_) (fun h => absurd (nI_le (by omega) (by omega)) h)
      refine ev_iconst_1 dX2_isAtHand_61 ?_
      exact ev_ireturn dX2_isAtHand_62 ⟨congrArg (fun z => some (Value.int z)) (b2i_t (by rw [matchW, ← show i = xsLen.getD k 0 by omega, ha]; simp; omega)), rfl⟩
    | succ n ih =>
      intro i hi ha
      have e1 : xat σ 53 (nI s + nI i) = σ.1 53 (s + i) := xat_eq (nI_add _ _) (by omega)
      refine ev_iload_2 dX2_isAtHand_24 ?_
      refine ev_aload_1 dX2_isAtHand_25 ?_
      refine ev_invStr hk dX2_isAtHand_26 ml_X2_160 mt_J0_length_8abf5 (c_J0_length d hk) rfl rfl rfl (rm_ok (by omega)) (Nat.le_of_ble_eq_true rfl) ?_
      refine ev_icmp_ge 61 dX2_isAtHand_29 rfl (fun h => absurd h (nI_ge (by omega) (by omega))) (fun _ => ?_)
      refine ev_aload_1 dX2_isAtHand_32 ?_
      refine ev_iload_2 dX2_isAtHand_33 ?_
      refine ev_invStr hk dX2_isAtHand_34 ml_X2_164 mt_J0_charAt_5068e (c_J0_charAt d hk (show i < xsLen.getD k 0 by omega)) rfl rfl rfl (rm_ok (by omega)) (Nat.le_of_ble_eq_true rfl) ?_
      refine Ev.pc 37 rfl ?_
      refine ev_aload_0 dX2_isAtHand_37 ?_
      refine ev_get dX2_isAtHand_38 fk_X2_9 (by first | assumption | decide) (by decide) rfl ?_
      simp only [Nat.reduceAdd]
      refine ev_aload_0 dX2_isAtHand_41 ?_
      refine ev_get dX2_isAtHand_42 fk_X2_35 (by first | assumption | decide) (by decide) rfl ?_
      refine ev_iload_2 dX2_isAtHand_45 ?_
      refine Ev.pc 46 rfl ?_
      refine ev_iadd dX2_isAtHand_46 ?_
      refine ev_invS dX2_isAtHand_47 ml_X2_131 mt_X5_at (c_X5_at d (by first | assumption | decide)) rfl rfl (rm_ok (by omega)) (Nat.le_of_ble_eq_true rfl) ?_
      rw [hs, e1]
      refine Ev.pc 50 rfl ?_
      refine ev_icmp_eq 55 dX2_isAtHand_50 rfl (fun h50 => ?_) (fun h50 => ?_)
      · refine ev_iinc_2 (1) dX2_isAtHand_55 rfl rfl ?_
        refine ev_goto 24 dX2_isAtHand_58 rfl ?_
        rw [nI_1]
        exact ih (i + 1) (by omega) (by rw [allB, ha]; simp [h50])
      · refine ev_iconst_0 dX2_isAtHand_53 ?_
        exact ev_ireturn dX2_isAtHand_54 ⟨by exact congrArg (fun z => some (Value.int z)) (b2i_f (by rw [matchW, allB_no (k := i) (by omega) (by simp [h50])]; simp)), by rfl⟩
  refine Ct.of (by decide +kernel) (Nat.le_of_ble_eq_true rfl) ⟨_, rfl, nb_b2i _⟩ ?_
  show Ev E _ RX2 cX2_isAtHand 3 _ 0 [some (.ref (E.1 52)), some (.ref (E.1 (1000 + k))), none] [] _
  refine ev_aload_1 dX2_isAtHand_0 ?_
  refine ev_ifnull dX2_isAtHand_1 ?_
  refine ev_aload_1 dX2_isAtHand_4 ?_
  refine ev_invStr hk dX2_isAtHand_5 ml_X2_160 mt_J0_length_8abf5 (c_J0_length d hk) rfl rfl rfl (rm_ok (by omega)) (Nat.le_of_ble_eq_true rfl) ?_
  refine Ev.pc 8 rfl ?_
  refine ev_aload_0 dX2_isAtHand_8 ?_
  refine ev_get dX2_isAtHand_9 fk_X2_38 (by first | assumption | decide) (by decide) rfl ?_
  refine ev_aload_0 dX2_isAtHand_12 ?_
  refine ev_get dX2_isAtHand_13 fk_X2_35 (by first | assumption | decide) (by decide) rfl ?_
  refine ev_isub dX2_isAtHand_16 ?_
  refine Ev.pc 17 rfl ?_
  rw [hs, he, pk_sub hse]
  refine ev_icmp_eq 22 dX2_isAtHand_17 rfl (fun h17 => ?_) (fun h17 => ?_)
  · rw [nI_eq (a := xsLen.getD k 0) (b := e - s) (by omega) (by omega)] at h17
    refine ev_iconst_0 dX2_isAtHand_22 ?_
    refine ev_istore_2 dX2_isAtHand_23 rfl ?_
    exact loop h17 (xsLen.getD k 0) 0 (by omega) rfl
  · rw [nI_eq (a := xsLen.getD k 0) (b := e - s) (by omega) (by omega)] at h17
    refine ev_iconst_0 dX2_isAtHand_20 ?_
    exact ev_ireturn dX2_isAtHand_21 ⟨by exact congrArg (fun z => some (Value.int z)) (b2i_f (by rw [matchW, decide_eq_false h17, Bool.false_and]; exact Bool.false_ne_true)), by rfl⟩
def wordI (σ : xS) : Int32 := scanI (fun k => decide (σ.1 52 5 = 1) && matchW (σ.1 53) (σ.1 52 6).toNatClampNeg (σ.1 52 7).toNatClampNeg k) 7 0
def RdSt (σ : xS) : Prop := ∃ s e, σ.1 52 6 = nI s ∧ σ.1 52 7 = nI e ∧ s ≤ e ∧ e ≤ 150
theorem c_X2_wordAtHand (d : Nat) {E : xE} {σ : xS} (hr : RdSt σ) : Ct E (d + 5) yX2_wordAtHand cX2_wordAtHand 2 (some .int) [.ref (E.1 52)] σ (some (.int (wordI σ))) σ := by
  obtain ⟨s, e, hs, he, hse, he1⟩ := hr
  have c1 : (σ.1 52 6).toNatClampNeg = s := by rw [hs, nI_clamp (by omega)]
  have c2 : (σ.1 52 7).toNatClampNeg = e := by rw [he, nI_clamp (by omega)]
  have loop : ∀ (n k : Nat), k + n = 7 → wordI σ = scanI (fun k => decide (σ.1 52 5 = 1) && matchW (σ.1 53) s e k) n k → Ev E (rm (d + 5)) RX2 cX2_wordAtHand 2 (fun v t => v = some (.int (wordI σ)) ∧ t = σ) 2 [some (.ref (E.1 52)), some (.int (nI k))] [] σ := by
    intro n
    induction n with
    | zero =>
      intro k hk hw
      refine ev_iload_1 dX2_wordAtHand_2 ?_
      refine ev_bipush (7) dX2_wordAtHand_3 rfl ?_
      refine ev_icmp_ge 35 dX2_wordAtHand_5 rfl (fun h5 => ?_) (fun h5 => ?_)
      · refine ev_iconst_m1 dX2_wordAtHand_35 ?_
        exact ev_ireturn dX2_wordAtHand_36 ⟨by (rw [hw]; rfl), by rfl⟩
      · exact absurd (show nI 7 ≤ nI k from nI_le (by omega) (by omega)) h5
    | succ n ih =>
      intro k hk hw
      rw [scanI] at hw
      refine ev_iload_1 dX2_wordAtHand_2 ?_
      refine ev_bipush (7) dX2_wordAtHand_3 rfl ?_
      refine ev_icmp_ge 35 dX2_wordAtHand_5 rfl (fun h5 => ?_) (fun h5 => ?_)
      · exact absurd h5 (show ¬ nI 7 ≤ nI k from nI_ge (by omega) (by omega))
      · refine ev_aload_0 dX2_wordAtHand_8 ?_
        refine ev_get dX2_wordAtHand_9 fk_X2_32 (by first | assumption | decide) (by decide) rfl ?_
        refine ev_iconst_1 dX2_wordAtHand_12 ?_
        refine ev_icmp_ne 29 dX2_wordAtHand_13 rfl (fun h13 => ?_) (fun h13 => ?_)
        · refine ev_iinc_1 (1) dX2_wordAtHand_29 rfl rfl ?_
          refine ev_goto 2 dX2_wordAtHand_32 rfl ?_
          rw [nI_1]
          exact ih (k + 1) (by omega) (by rw [if_neg (by first | (rw [decide_eq_false h13]; simp; done) | (intro hc; exact g (Bool.and_eq_true _ _ ▸ hc).2))] at hw; exact hw)
        · refine ev_aload_0 dX2_wordAtHand_16 ?_
          refine ev_iload_1 dX2_wordAtHand_17 ?_
          refine ev_invS dX2_wordAtHand_18 ml_X2_138 mt_X2_spelling (c_X2_spelling d (k := k) (by omega)) rfl rfl (rm_ok (by omega)) (Nat.le_of_ble_eq_true rfl) ?_
          refine Ev.pc 21 rfl ?_
          refine ev_invV (ci := 2) dX2_wordAtHand_21 ml_X2_142 mt_X2_isAtHand (c_X2_isAtHand d (k := k) (by omega) hs he hse he1) (by first | assumption | decide) (by decide) rfl rfl rfl (rm_ok (by omega)) (Nat.le_of_ble_eq_true rfl) ?_
          refine Ev.pc 24 rfl ?_
          refine ev_if_eq 29 dX2_wordAtHand_24 rfl (fun h24 => ?_) (fun h24 => ?_)
          · have g := b2i_0.mp h24
            refine ev_iinc_1 (1) dX2_wordAtHand_29 rfl rfl ?_
            refine ev_goto 2 dX2_wordAtHand_32 rfl ?_
            rw [nI_1]
            exact ih (k + 1) (by omega) (by rw [if_neg (by first | (rw [decide_eq_false h13]; simp; done) | (intro hc; exact g (Bool.and_eq_true _ _ ▸ hc).2))] at hw; exact hw)
          · have g := Decidable.not_not.mp (fun h => h24 (b2i_0.mpr h))
            refine ev_iload_1 dX2_wordAtHand_27 ?_
            exact ev_ireturn dX2_wordAtHand_28 ⟨by (rw [if_pos (by rw [g, decide_eq_true h13]; rfl)] at hw; rw [hw]), by rfl⟩
  refine Ct.of (by decide +kernel) (Nat.le_of_ble_eq_true rfl) ⟨_, rfl, rfl⟩ ?_
  show Ev E _ RX2 cX2_wordAtHand 2 _ 0 [some (.ref (E.1 52)), none] [] _
  refine ev_iconst_0 dX2_wordAtHand_0 ?_
  refine ev_istore_1 dX2_wordAtHand_1 rfl ?_
  exact loop 7 0 (by omega) (by rw [wordI, c1, c2])
def mayB (σ : xS) (w : Int32) : Prop := if σ.1 52 4 = 0 then w = 0 else if w = 1 then σ.1 54 7 < 7 else if w = 2 then σ.1 54 8 < 4 else if w = 3 then σ.1 54 9 < 3 else btw w 4 6
def mayI (σ : xS) (w : Int32) : Int32 := if σ.1 52 4 = 0 then (if w = 0 then 1 else 0) else if w = 1 then (if 7 ≤ σ.1 54 7 then 0 else 1) else if w = 2 then (if 4 ≤ σ.1 54 8 then 0 else 1) else if w = 3 then (if 3 ≤ σ.1 54 9 then 0 else 1) else b2i (btw w 4 6)
theorem mayI_nb (σ : xS) (w : Int32) : narrow .boolean (.int (mayI σ w)) = .int (mayI σ w) := by
  unfold mayI
  repeat' (first | decide | exact nb_b2i _ | split)
theorem c_X2_mayStand (d : Nat) {E : xE} {σ : xS} {w : Int32} : Ct E (d + 1) yX2_mayStand cX2_mayStand 2 (some .boolean) [.ref (E.1 52), .int w] σ (some (.int (mayI σ w))) σ := by
  refine Ct.of (by decide +kernel) (Nat.le_of_ble_eq_true rfl) ⟨_, rfl, mayI_nb _ _⟩ ?_
  show Ev E _ RX2 cX2_mayStand 2 _ 0 [some (.ref (E.1 52)), some (.int w)] [] _
  refine ev_aload_0 dX2_mayStand_0 ?_
  refine ev_get dX2_mayStand_1 fk_X2_29 (by first | assumption | decide) (by decide) rfl ?_
  refine ev_if_ne 17 dX2_mayStand_4 rfl (fun h4 => ?_) (fun h4 => ?_)
  · refine ev_iload_1 dX2_mayStand_17 ?_
    refine sw_X2_mayStand_18 (fun h18 => ?_) (fun h18 => ?_) (fun h18 => ?_) (fun h18_1 h18_2 h18_3 => ?_)
    · refine ev_aload_0 dX2_mayStand_44 ?_
      refine ev_get dX2_mayStand_45 fk_X2_18 (by first | assumption | decide) (by decide) rfl ?_
      simp only [Nat.reduceAdd]
      refine ev_get dX2_mayStand_48 fk_X2_82 (by first | assumption | decide) (by decide) rfl ?_
      refine ev_bipush (7) dX2_mayStand_51 rfl ?_
      refine ev_icmp_ge 60 dX2_mayStand_53 rfl (fun h53 => ?_) (fun h53 => ?_)
      · refine ev_iconst_0 dX2_mayStand_60 ?_
        exact ev_ireturn dX2_mayStand_61 ⟨by (simp only [mayI]; repeat' (first | with_reducible rfl | contradiction | (exfalso; simp_all; done) | split)), by rfl⟩
      · refine ev_iconst_1 dX2_mayStand_56 ?_
        refine ev_goto 61 dX2_mayStand_57 rfl ?_
        exact ev_ireturn dX2_mayStand_61 ⟨by (simp only [mayI]; repeat' (first | with_reducible rfl | contradiction | (exfalso; simp_all; done) | split)), by rfl⟩
    · refine ev_aload_0 dX2_mayStand_62 ?_
      refine ev_get dX2_mayStand_63 fk_X2_18 (by first | assumption | decide) (by decide) rfl ?_
      simp only [Nat.reduceAdd]
      refine ev_get dX2_mayStand_66 fk_X2_85 (by first | assumption | decide) (by decide) rfl ?_
      refine ev_iconst_4 dX2_mayStand_69 ?_
      refine ev_icmp_ge 77 dX2_mayStand_70 rfl (fun h70 => ?_) (fun h70 => ?_)
      · refine ev_iconst_0 dX2_mayStand_77 ?_
        exact ev_ireturn dX2_mayStand_78 ⟨by (simp only [mayI]; repeat' (first | with_reducible rfl | contradiction | (exfalso; simp_all; done) | split)), by rfl⟩
      · refine ev_iconst_1 dX2_mayStand_73 ?_
        refine ev_goto 78 dX2_mayStand_74 rfl ?_
        exact ev_ireturn dX2_mayStand_78 ⟨by (simp only [mayI]; repeat' (first | with_reducible rfl | contradiction | (exfalso; simp_all; done) | split)), by rfl⟩
    · refine ev_aload_0 dX2_mayStand_79 ?_
      refine ev_get dX2_mayStand_80 fk_X2_18 (by first | assumption | decide) (by decide) rfl ?_
      simp only [Nat.reduceAdd]
      refine ev_get dX2_mayStand_83 fk_X2_88 (by first | assumption | decide) (by decide) rfl ?_
      refine ev_iconst_3 dX2_mayStand_86 ?_
      refine ev_icmp_ge 94 dX2_mayStand_87 rfl (fun h87 => ?_) (fun h87 => ?_)
      · refine ev_iconst_0 dX2_mayStand_94 ?_
        exact ev_ireturn dX2_mayStand_95 ⟨by (simp only [mayI]; repeat' (first | with_reducible rfl | contradiction | (exfalso; simp_all; done) | split)), by rfl⟩
      · refine ev_iconst_1 dX2_mayStand_90 ?_
        refine ev_goto 95 dX2_mayStand_91 rfl ?_
        exact ev_ireturn dX2_mayStand_95 ⟨by (simp only [mayI]; repeat' (first | with_reducible rfl | contradiction | (exfalso; simp_all; done) | split)), by rfl⟩
    · refine ev_iload_1 dX2_mayStand_96 ?_
      refine ev_iconst_4 dX2_mayStand_97 ?_
      refine ev_bipush (6) dX2_mayStand_98 rfl ?_
      refine ev_invS dX2_mayStand_100 ml_X2_91 mt_X5_between (c_X5_between d) rfl rfl (rm_ok (by omega)) (Nat.le_of_ble_eq_true rfl) ?_
      refine Ev.pc 103 rfl ?_
      exact ev_ireturn dX2_mayStand_103 ⟨by (simp only [mayI]; repeat' (first | with_reducible rfl | contradiction | (exfalso; simp_all; done) | split)), by rfl⟩
  · refine ev_iload_1 dX2_mayStand_7 ?_
    refine ev_if_ne 15 dX2_mayStand_8 rfl (fun h8 => ?_) (fun h8 => ?_)
    · refine ev_iconst_0 dX2_mayStand_15 ?_
      exact ev_ireturn dX2_mayStand_16 ⟨by (simp only [mayI]; repeat' (first | with_reducible rfl | contradiction | (exfalso; simp_all; done) | split)), by rfl⟩
    · refine ev_iconst_1 dX2_mayStand_11 ?_
      refine ev_goto 16 dX2_mayStand_12 rfl ?_
      exact ev_ireturn dX2_mayStand_16 ⟨by (simp only [mayI]; repeat' (first | with_reducible rfl | contradiction | (exfalso; simp_all; done) | split)), by rfl⟩
