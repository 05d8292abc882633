/-! the class's calls: which it was, bids, years -/
def allB (f : Nat → Bool) : Nat → Bool
  | 0 => true
  | n + 1 => allB f n && f n
theorem allB_iff (f : Nat → Bool) (n : Nat) : allB f n = true ↔ ∀ k, k < n → f k = true := by
  induction n with
  | zero => simp [allB]
  | succ n ih =>
    rw [allB, Bool.and_eq_true, ih]
    constructor
    · rintro ⟨h1, h2⟩ k hk
      rcases Nat.lt_or_ge k n with h | h
      · exact h1 k h
      · obtain rfl : k = n := by omega
        exact h2
    · intro h
      exact ⟨fun k hk => h k (by omega), h n (by omega)⟩
theorem allB_no {f : Nat → Bool} {n k : Nat} (hk : k < n) (h : f k = false) : allB f n = false := by
  rw [← Bool.not_eq_true, allB_iff]
  intro h2
  rw [h2 k hk] at h
  cases h
def ansC (σ : xS) (w i s t : Int32) : Int32 := if w = 1 then goodC i s t else if w = 2 then joyC i s t else goodC (xat σ 3 i) (xat σ 4 i) t
theorem c_X5_answerOf (d : Nat) {E : xE} {σ : xS} {w i s t : Int32} : Ct E (d + 2) yX5_answerOf cX5_answerOf 5 (some .int) [.ref (E.1 0), .int w, .int i, .int s, .int t] σ (some (.int (ansC σ w i s t))) σ := by
  refine Ct.of (by decide +kernel) (Nat.le_of_ble_eq_true rfl) ⟨_, rfl, rfl⟩ ?_
  show Ev E _ RX5 cX5_answerOf 5 _ 0 [some (.ref (E.1 0)), some (.int w), some (.int i), some (.int s), some (.int t)] [] _
  refine ev_iload_1 dX5_answerOf_0 ?_
  refine sw_X5_answerOf_1 (fun h1 => ?_) (fun h1 => ?_) (fun h1_1 h1_2 => ?_)
  · refine ev_iload_2 dX5_answerOf_28 ?_
    refine ev_iload_3 dX5_answerOf_29 ?_
    refine ev_iload_4 dX5_answerOf_30 ?_
    refine ev_invS dX5_answerOf_32 ml_X5_308 mt_X5_goodOf (c_X5_goodOf d) rfl rfl (rm_ok (by omega)) (Nat.le_of_ble_eq_true rfl) ?_
    refine Ev.pc 35 rfl ?_
    exact ev_ireturn dX5_answerOf_35 ⟨by ((try simp only [b2i_0, b2i_1, Decidable.not_not] at *); simp only [ansC]; repeat' (first | with_reducible rfl | contradiction | (exfalso; simp_all; done) | split)), by rfl⟩
  · refine ev_iload_2 dX5_answerOf_36 ?_
    refine ev_iload_3 dX5_answerOf_37 ?_
    refine ev_iload_4 dX5_answerOf_38 ?_
    refine ev_invS dX5_answerOf_40 ml_X5_311 mt_X5_joyOf (c_X5_joyOf d) rfl rfl (rm_ok (by omega)) (Nat.le_of_ble_eq_true rfl) ?_
    refine Ev.pc 43 rfl ?_
    exact ev_ireturn dX5_answerOf_43 ⟨by ((try simp only [b2i_0, b2i_1, Decidable.not_not] at *); simp only [ansC]; repeat' (first | with_reducible rfl | contradiction | (exfalso; simp_all; done) | split)), by rfl⟩
  · refine ev_aload_0 dX5_answerOf_44 ?_
    refine ev_get dX5_answerOf_45 fk_X5_10 (by first | assumption | decide) (by decide) rfl ?_
    refine ev_get dX5_answerOf_48 fk_X5_89 (by first | assumption | decide) (by decide) rfl ?_
    simp only [Nat.reduceAdd]
    refine ev_get dX5_answerOf_51 fk_X5_212 (by first | assumption | decide) (by decide) rfl ?_
    simp only [Nat.reduceAdd]
    refine ev_iload_2 dX5_answerOf_54 ?_
    refine Ev.pc 55 rfl ?_
    refine ev_invS dX5_answerOf_55 ml_X5_196 mt_X5_at (c_X5_at d (by first | assumption | decide)) rfl rfl (rm_ok (by omega)) (Nat.le_of_ble_eq_true rfl) ?_
    refine Ev.pc 58 rfl ?_
    refine ev_aload_0 dX5_answerOf_58 ?_
    refine ev_get dX5_answerOf_59 fk_X5_10 (by first | assumption | decide) (by decide) rfl ?_
    refine ev_get dX5_answerOf_62 fk_X5_89 (by first | assumption | decide) (by decide) rfl ?_
    simp only [Nat.reduceAdd]
    refine ev_get dX5_answerOf_65 fk_X5_215 (by first | assumption | decide) (by decide) rfl ?_
    simp only [Nat.reduceAdd]
    refine Ev.pc 68 rfl ?_
    refine ev_iload_2 dX5_answerOf_68 ?_
    refine ev_invS dX5_answerOf_69 ml_X5_196 mt_X5_at (c_X5_at d (by first | assumption | decide)) rfl rfl (rm_ok (by omega)) (Nat.le_of_ble_eq_true rfl) ?_
    refine Ev.pc 72 rfl ?_
    refine ev_iload_4 dX5_answerOf_72 ?_
    refine ev_invS dX5_answerOf_74 ml_X5_308 mt_X5_goodOf (c_X5_goodOf d) rfl rfl (rm_ok (by omega)) (Nat.le_of_ble_eq_true rfl) ?_
    refine Ev.pc 77 rfl ?_
    exact ev_ireturn dX5_answerOf_77 ⟨by ((try simp only [b2i_0, b2i_1, Decidable.not_not] at *); simp only [ansC]; repeat' (first | with_reducible rfl | contradiction | (exfalso; simp_all; done) | split)), by rfl⟩
def agB (σ : xS) (w whom i : Int32) (r : Nat) : Bool := !(decide (σ.1 (hintId w + 1) (4 * r) = whom) && !(decide (ansC σ w i (σ.1 (hintId w + 1) (4 * r + 1)) (σ.1 (hintId w + 1) (4 * r + 2)) = σ.1 (hintId w + 1) (4 * r + 3))))
theorem c_X5_agrees (d : Nat) {E : xE} {σ : xS} {w whom i : Int32} {n : Nat} (hn : σ.1 (hintId w) 2 = nI n) (hl : 4 * n ≤ xlen (hintId w + 1)) : Ct E (d + 3) yX5_agrees cX5_agrees 7 (some .boolean) [.ref (E.1 0), .int w, .int whom, .int i] σ (some (.int (b2i (allB (agB σ w whom i) n = true)))) σ := by
  have hh := (hintId_ok w).1
  have h5 := xlen_le (hintId w + 1)
  have loop : ∀ (m r : Nat) (x6 : Option Value), r + m = n → allB (agB σ w whom i) r = true → Ev E (rm (d + 3)) RX5 cX5_agrees 7 (fun v t => v = some (.int (b2i (allB (agB σ w whom i) n = true))) ∧ t = σ) 13 [some (.ref (E.1 0)), some (.int w), some (.int whom), some (.int i), some (.ref (E.1 (hintId w))), some (.int (nI r)), x6] [] σ := by
    intro m
    induction m with
    | zero =>
      intro r x6 hr ha
      refine ev_iload_5 dX5_agrees_13 ?_
      refine ev_aload_4 dX5_agrees_15 ?_
      refine ev_get dX5_agrees_17 fk_X5_305 (by first | assumption | decide) (by decide) rfl ?_
      refine ev_icmp_ge 80 dX5_agrees_20 rfl (fun h20 => ?_) (fun h20 => ?_)
      · refine ev_iconst_1 dX5_agrees_80 ?_
        exact ev_ireturn dX5_agrees_81 ⟨by exact congrArg (fun z => some (Value.int z)) (b2i_t (by rw [show n = r by omega]; exact ha)), by rfl⟩
      · exact absurd (by rw [hn]; exact nI_le (by omega) (by omega)) h20
    | succ m ihm =>
      intro r x6 hr ha
      have cc : ∀ c : Nat, c < 4 → xat σ (hintId w + 1) (nI r * 4 + nI c) = σ.1 (hintId w + 1) (4 * r + c) := fun c hc => xat_eq (by rw [show (4 : Int32) = nI 4 from rfl, pk_mul, nI_add, Nat.mul_comm]) (by omega)
      have c0 := cc 0 (by omega)
      have c1 := cc 1 (by omega)
      have c2 := cc 2 (by omega)
      have c3 := cc 3 (by omega)
      refine ev_iload_5 dX5_agrees_13 ?_
      refine ev_aload_4 dX5_agrees_15 ?_
      refine ev_get dX5_agrees_17 fk_X5_305 (by first | assumption | decide) (by decide) rfl ?_
      refine ev_icmp_ge 80 dX5_agrees_20 rfl (fun h20 => ?_) (fun h20 => ?_)
      · exact absurd h20 (by rw [hn]; exact nI_ge (by omega) (by omega))
      · refine ev_aload_0 dX5_agrees_23 ?_
        refine ev_iload_1 dX5_agrees_24 ?_
        refine ev_iload_3 dX5_agrees_25 ?_
        refine ev_aload_4 dX5_agrees_26 ?_
        refine ev_iload_5 dX5_agrees_28 ?_
        refine Ev.pc 30 rfl ?_
        refine ev_iconst_1 dX5_agrees_30 ?_
        refine ev_invV (ci := 0) dX5_agrees_31 ml_X5_317 mt_X0_cell (c_X0_cell d (i := hintId w) (hintId_ok w)) (by first | assumption | decide) (by decide) rfl rfl rfl (rm_ok (by omega)) (Nat.le_of_ble_eq_true rfl) ?_
        rw [show (1 : Int32) = nI 1 from rfl, c1]
        refine Ev.pc 34 rfl ?_
        refine ev_aload_4 dX5_agrees_34 ?_
        refine ev_iload_5 dX5_agrees_36 ?_
        refine ev_iconst_2 dX5_agrees_38 ?_
        refine Ev.pc 39 rfl ?_
        refine ev_invV (ci := 0) dX5_agrees_39 ml_X5_317 mt_X0_cell (c_X0_cell d (i := hintId w) (hintId_ok w)) (by first | assumption | decide) (by decide) rfl rfl rfl (rm_ok (by omega)) (Nat.le_of_ble_eq_true rfl) ?_
        rw [show (2 : Int32) = nI 2 from rfl, c2]
        refine Ev.pc 42 rfl ?_
        refine ev_invV (ci := 5) dX5_agrees_42 ml_X5_320 mt_X5_answerOf (c_X5_answerOf d) (by first | assumption | decide) (by decide) rfl rfl rfl (rm_ok (by omega)) (Nat.le_of_ble_eq_true rfl) ?_
        refine Ev.pc 45 rfl ?_
        refine ev_istore_6 dX5_agrees_45 rfl ?_
        refine ev_aload_4 dX5_agrees_47 ?_
        refine ev_iload_5 dX5_agrees_49 ?_
        refine Ev.pc 51 rfl ?_
        refine ev_iconst_0 dX5_agrees_51 ?_
        refine ev_invV (ci := 0) dX5_agrees_52 ml_X5_317 mt_X0_cell (c_X0_cell d (i := hintId w) (hintId_ok w)) (by first | assumption | decide) (by decide) rfl rfl rfl (rm_ok (by omega)) (Nat.le_of_ble_eq_true rfl) ?_
        rw [show (0 : Int32) = nI 0 from rfl, c0]
        refine Ev.pc 55 rfl ?_
        refine ev_iload_2 dX5_agrees_55 ?_
        refine ev_icmp_ne 74 dX5_agrees_56 rfl (fun h56 => ?_) (fun h56 => ?_)
        · refine ev_iinc_5 (1) dX5_agrees_74 rfl rfl ?_
          refine ev_goto 13 dX5_agrees_77 rfl ?_
          rw [nI_1]
          exact ihm (r + 1) _ (by omega) (by rw [allB, ha, agB]; simp at h56; simp [*])
        · refine ev_iload_6 dX5_agrees_59 ?_
          refine ev_aload_4 dX5_agrees_61 ?_
          refine ev_iload_5 dX5_agrees_63 ?_
          refine ev_iconst_3 dX5_agrees_65 ?_
          refine ev_invV (ci := 0) dX5_agrees_66 ml_X5_317 mt_X0_cell (c_X0_cell d (i := hintId w) (hintId_ok w)) (by first | assumption | decide) (by decide) rfl rfl rfl (rm_ok (by omega)) (Nat.le_of_ble_eq_true rfl) ?_
          rw [show (3 : Int32) = nI 3 from rfl, c3]
          refine Ev.pc 69 rfl ?_
          refine ev_icmp_eq 74 dX5_agrees_69 rfl (fun h69 => ?_) (fun h69 => ?_)
          · refine ev_iinc_5 (1) dX5_agrees_74 rfl rfl ?_
            refine ev_goto 13 dX5_agrees_77 rfl ?_
            rw [nI_1]
            exact ihm (r + 1) _ (by omega) (by rw [allB, ha, agB]; simp at h56; simp [*])
          · refine ev_iconst_0 dX5_agrees_72 ?_
            exact ev_ireturn dX5_agrees_73 ⟨by exact congrArg (fun z => some (Value.int z)) (b2i_f (by rw [allB_no (k := r) (by omega) (by rw [agB]; simp at h56; simp [*])]; simp)), by rfl⟩
  refine Ct.of (by decide +kernel) (Nat.le_of_ble_eq_true rfl) ⟨_, rfl, nb_b2i _⟩ ?_
  show Ev E _ RX5 cX5_agrees 7 _ 0 [some (.ref (E.1 0)), some (.int w), some (.int whom), some (.int i), none, none, none] [] _
  refine ev_aload_0 dX5_agrees_0 ?_
  refine ev_get dX5_agrees_1 fk_X5_10 (by first | assumption | decide) (by decide) rfl ?_
  refine ev_iload_1 dX5_agrees_4 ?_
  refine ev_invV (ci := 3) dX5_agrees_5 ml_X5_301 mt_X3_hintsOf (c_X3_hintsOf d) (by first | assumption | decide) (by decide) rfl rfl rfl (rm_ok (by omega)) (Nat.le_of_ble_eq_true rfl) ?_
  refine Ev.pc 8 rfl ?_
  refine ev_astore_4 dX5_agrees_8 rfl ?_
  refine Ev.pc 10 rfl ?_
  refine ev_iconst_0 dX5_agrees_10 ?_
  refine ev_istore_5 dX5_agrees_11 rfl ?_
  exact loop n 0 _ (by omega) rfl
theorem c_X5_agreeing (d : Nat) {E : xE} {σ : xS} {w whom : Int32} {n c : Nat} (hn : σ.1 (hintId w) 2 = nI n) (hl : 4 * n ≤ xlen (hintId w + 1)) (hc : c ≤ 7) : Ct E (d + 4) yX5_agreeing cX5_agreeing 6 (some .int) [.ref (E.1 0), .int w, .int whom, .int (nI c)] σ (some (.int (mkI (fun i => allB (agB σ w whom (nI i)) n) c))) σ := by
  have loop : ∀ (m k : Nat) (bits : Int32), k + m = c → bits = mkI (fun i => allB (agB σ w whom (nI i)) n) k → Ev E (rm (d + 4)) RX5 cX5_agreeing 6 (fun v t => v = some (.int (mkI (fun i => allB (agB σ w whom (nI i)) n) c)) ∧ t = σ) 6 [some (.ref (E.1 0)), some (.int w), some (.int whom), some (.int (nI c)), some (.int bits), some (.int (nI k))] [] σ := by
    intro m
    induction m with
    | zero =>
      intro k bits hk hb
      refine ev_iload_5 dX5_agreeing_6 ?_
      refine ev_iload_3 dX5_agreeing_8 ?_
      refine ev_icmp_ge 38 dX5_agreeing_9 rfl (fun h9 => ?_) (fun h9 => ?_)
      · refine ev_iload_4 dX5_agreeing_38 ?_
        exact ev_ireturn dX5_agreeing_40 ⟨by (rw [hb, show k = c by omega]), by rfl⟩
      · exact absurd (nI_le (by omega) (by omega)) h9
    | succ m ihm =>
      intro k bits hk hb
      refine ev_iload_5 dX5_agreeing_6 ?_
      refine ev_iload_3 dX5_agreeing_8 ?_
      refine ev_icmp_ge 38 dX5_agreeing_9 rfl (fun h9 => ?_) (fun h9 => ?_)
      · exact absurd h9 (nI_ge (by omega) (by omega))
      · refine ev_aload_0 dX5_agreeing_12 ?_
        refine ev_iload_1 dX5_agreeing_13 ?_
        refine ev_iload_2 dX5_agreeing_14 ?_
        refine ev_iload_5 dX5_agreeing_15 ?_
        refine ev_invV (ci := 5) dX5_agreeing_17 ml_X5_314 mt_X5_agrees (c_X5_agrees d hn hl) (by first | assumption | decide) (by decide) rfl rfl rfl (rm_ok (by omega)) (Nat.le_of_ble_eq_true rfl) ?_
        refine Ev.pc 20 rfl ?_
        refine ev_if_eq 32 dX5_agreeing_20 rfl (fun h20 => ?_) (fun h20 => ?_)
        · have g := b2i_0.mp h20
          refine ev_iinc_5 (1) dX5_agreeing_32 rfl rfl ?_
          refine ev_goto 6 dX5_agreeing_35 rfl ?_
          rw [nI_1]
          exact ihm (k + 1) _ (by omega) (by rw [mkI, hb]; first | rw [if_pos g] | rw [if_neg g])
        · have g := Decidable.not_not.mp (fun h => h20 (b2i_0.mpr h))
          refine ev_iload_4 dX5_agreeing_23 ?_
          refine ev_iconst_1 dX5_agreeing_25 ?_
          refine ev_iload_5 dX5_agreeing_26 ?_
          refine ev_ishl dX5_agreeing_28 ?_
          refine ev_ior dX5_agreeing_29 ?_
          refine Ev.pc 30 rfl ?_
          refine ev_istore_4 dX5_agreeing_30 rfl ?_
          refine ev_iinc_5 (1) dX5_agreeing_32 rfl rfl ?_
          refine ev_goto 6 dX5_agreeing_35 rfl ?_
          rw [nI_1]
          exact ihm (k + 1) _ (by omega) (by rw [mkI, hb]; first | rw [if_pos g] | rw [if_neg g])
  refine Ct.of (by decide +kernel) (Nat.le_of_ble_eq_true rfl) ⟨_, rfl, rfl⟩ ?_
  show Ev E _ RX5 cX5_agreeing 6 _ 0 [some (.ref (E.1 0)), some (.int w), some (.int whom), some (.int (nI c)), none, none] [] _
  refine ev_iconst_0 dX5_agreeing_0 ?_
  refine ev_istore_4 dX5_agreeing_1 rfl ?_
  refine ev_iconst_0 dX5_agreeing_3 ?_
  refine ev_istore_5 dX5_agreeing_4 rfl ?_
  exact loop c 0 0 (by omega) rfl
def cnC (f : Nat → Int32) (cand : Int32) (i : Nat) : Nat → Int32 := fun n => foI (fun j c => if hasI' cand j then (if f j = f i then c + 1 else c) else c) n 0
def crC (f : Nat → Int32) (cand : Int32) : Nat → Int32 := fun n => foI (fun i m => if hasI' cand i then xmax m (cnC f cand i 7) else m) n 0
theorem c_X5_largestCrowd (d : Nat) {E : xE} {σ : xS} {r : Nat} {cand : Int32} (hr : r < xN ∧ xcls r = 7) (hl : 7 ≤ xlen r) : Ct E (d + 1) yX5_largestCrowd cX5_largestCrowd 6 (some .int) [.ref (E.1 r), .int cand] σ (some (.int (crC (σ.1 r) cand 7))) σ := by
  have h5 := xlen_le r
  have loop2 : ∀ (F : Option Value → xS → Prop) (i : Nat) (m : Int32), i < 7 → (∀ x5, Ev E (rm (d + 1)) RX5 cX5_largestCrowd 6 F 55 [some (.ref (E.1 r)), some (.int cand), some (.int m), some (.int (nI i)), some (.int (cnC (σ.1 r) cand i 7)), x5] [] σ) → ∀ (n j : Nat) (c : Int32), j + n = 7 → c = cnC (σ.1 r) cand i j → Ev E (rm (d + 1)) RX5 cX5_largestCrowd 6 F 16 [some (.ref (E.1 r)), some (.int cand), some (.int m), some (.int (nI i)), some (.int c), some (.int (nI j))] [] σ := by
    intro F i m hi hF n
    induction n with
    | zero =>
      intro j c hj hc
      refine ev_iload_5 dX5_largestCrowd_16 ?_
      refine ev_bipush (7) dX5_largestCrowd_18 rfl ?_
      refine ev_icmp_ge 55 dX5_largestCrowd_20 rfl (fun h20 => ?_) (fun h20 => ?_)
      · rw [hc, show j = 7 by omega]
        exact hF _
      · exact absurd (show nI 7 ≤ nI j from nI_le (by omega) (by omega)) h20
    | succ n ihn =>
      intro j c hj hc
      have e1 : xat σ r (nI j) = σ.1 r j := xat_nI (by omega)
      have e2 : xat σ r (nI i) = σ.1 r i := xat_nI (by omega)
      refine ev_iload_5 dX5_largestCrowd_16 ?_
      refine ev_bipush (7) dX5_largestCrowd_18 rfl ?_
      refine ev_icmp_ge 55 dX5_largestCrowd_20 rfl (fun h20 => ?_) (fun h20 => ?_)
      · exact absurd h20 (show ¬ nI 7 ≤ nI j from nI_ge (by omega) (by omega))
      · refine ev_iload_1 dX5_largestCrowd_23 ?_
        refine ev_iload_5 dX5_largestCrowd_24 ?_
        refine ev_invS dX5_largestCrowd_26 ml_X5_270 mt_X5_has (c_X5_has d) rfl rfl (rm_ok (by omega)) (Nat.le_of_ble_eq_true rfl) ?_
        refine Ev.pc 29 rfl ?_
        refine ev_if_eq 49 dX5_largestCrowd_29 rfl (fun h29 => ?_) (fun h29 => ?_)
        · have g := b2i_0.mp h29
          refine ev_iinc_5 (1) dX5_largestCrowd_49 rfl rfl ?_
          refine ev_goto 16 dX5_largestCrowd_52 rfl ?_
          rw [nI_1]
          exact ihn (j + 1) _ (by omega) (by rw [hc, cnC, cnC, foI]; first | rw [if_neg g] | rw [if_pos g, if_pos h43] | rw [if_pos g, if_neg h43])
        · have g := Decidable.not_not.mp (fun h => h29 (b2i_0.mpr h))
          refine ev_aload_0 dX5_largestCrowd_32 ?_
          refine ev_iload_5 dX5_largestCrowd_33 ?_
          refine ev_invS dX5_largestCrowd_35 ml_X5_196 mt_X5_at (c_X5_at d (by first | assumption | decide)) rfl rfl (rm_ok (by omega)) (Nat.le_of_ble_eq_true rfl) ?_
          rw [e1]
          refine Ev.pc 38 rfl ?_
          refine ev_aload_0 dX5_largestCrowd_38 ?_
          refine ev_iload_3 dX5_largestCrowd_39 ?_
          refine Ev.pc 40 rfl ?_
          refine ev_invS dX5_largestCrowd_40 ml_X5_196 mt_X5_at (c_X5_at d (by first | assumption | decide)) rfl rfl (rm_ok (by omega)) (Nat.le_of_ble_eq_true rfl) ?_
          rw [e2]
          refine Ev.pc 43 rfl ?_
          refine ev_icmp_ne 49 dX5_largestCrowd_43 rfl (fun h43 => ?_) (fun h43 => ?_)
          · refine ev_iinc_5 (1) dX5_largestCrowd_49 rfl rfl ?_
            refine ev_goto 16 dX5_largestCrowd_52 rfl ?_
            rw [nI_1]
            exact ihn (j + 1) _ (by omega) (by rw [hc, cnC, cnC, foI]; first | rw [if_neg g] | rw [if_pos g, if_pos h43] | rw [if_pos g, if_neg h43])
          · refine ev_iinc_4 (1) dX5_largestCrowd_46 rfl rfl ?_
            refine ev_iinc_5 (1) dX5_largestCrowd_49 rfl rfl ?_
            refine ev_goto 16 dX5_largestCrowd_52 rfl ?_
            rw [nI_1]
            exact ihn (j + 1) _ (by omega) (by rw [hc, cnC, cnC, foI]; first | rw [if_neg g] | rw [if_pos g, if_pos h43] | rw [if_pos g, if_neg h43])
  have loop : ∀ (n i : Nat) (m : Int32) (x4 x5 : Option Value), i + n = 7 → m = crC (σ.1 r) cand i → Ev E (rm (d + 1)) RX5 cX5_largestCrowd 6 (fun v t => v = some (.int (crC (σ.1 r) cand 7)) ∧ t = σ) 4 [some (.ref (E.1 r)), some (.int cand), some (.int m), some (.int (nI i)), x4, x5] [] σ := by
    intro n
    induction n with
    | zero =>
      intro i m x4 x5 hi hm
      refine ev_iload_3 dX5_largestCrowd_4 ?_
      refine ev_bipush (7) dX5_largestCrowd_5 rfl ?_
      refine ev_icmp_ge 76 dX5_largestCrowd_7 rfl (fun h7 => ?_) (fun h7 => ?_)
      · refine ev_iload_2 dX5_largestCrowd_76 ?_
        exact ev_ireturn dX5_largestCrowd_77 ⟨by (rw [hm, show i = 7 by omega]), by rfl⟩
      · exact absurd (show nI 7 ≤ nI i from nI_le (by omega) (by omega)) h7
    | succ n ihn =>
      intro i m x4 x5 hi hm
      refine ev_iload_3 dX5_largestCrowd_4 ?_
      refine ev_bipush (7) dX5_largestCrowd_5 rfl ?_
      refine ev_icmp_ge 76 dX5_largestCrowd_7 rfl (fun h7 => ?_) (fun h7 => ?_)
      · exact absurd h7 (show ¬ nI 7 ≤ nI i from nI_ge (by omega) (by omega))
      · refine ev_iconst_0 dX5_largestCrowd_10 ?_
        refine ev_istore_4 dX5_largestCrowd_11 rfl ?_
        refine ev_iconst_0 dX5_largestCrowd_13 ?_
        refine ev_istore_5 dX5_largestCrowd_14 rfl ?_
        refine loop2 _ i m (by omega) (fun x5 => ?_) 7 0 0 (by omega) rfl
        refine ev_iload_1 dX5_largestCrowd_55 ?_
        refine ev_iload_3 dX5_largestCrowd_56 ?_
        refine ev_invS dX5_largestCrowd_57 ml_X5_270 mt_X5_has (c_X5_has d) rfl rfl (rm_ok (by omega)) (Nat.le_of_ble_eq_true rfl) ?_
        refine Ev.pc 60 rfl ?_
        refine ev_if_eq 70 dX5_largestCrowd_60 rfl (fun h60 => ?_) (fun h60 => ?_)
        · have g := b2i_0.mp h60
          refine ev_iinc_3 (1) dX5_largestCrowd_70 rfl rfl ?_
          refine ev_goto 4 dX5_largestCrowd_73 rfl ?_
          rw [nI_1]
          exact ihn (i + 1) _ _ _ (by omega) (by rw [hm, crC, crC, foI]; first | (rw [if_pos g]; rfl) | rw [if_neg g])
        · have g := Decidable.not_not.mp (fun h => h60 (b2i_0.mpr h))
          refine ev_iload_2 dX5_largestCrowd_63 ?_
          refine ev_iload_4 dX5_largestCrowd_64 ?_
          refine ev_mmax dX5_largestCrowd_66 mm_X5_83 (rm_okm (by omega)) (Nat.le_of_ble_eq_true rfl) ?_
          refine Ev.pc 69 rfl ?_
          refine ev_istore_2 dX5_largestCrowd_69 rfl ?_
          refine ev_iinc_3 (1) dX5_largestCrowd_70 rfl rfl ?_
          refine Ev.pc 73 rfl ?_
          refine ev_goto 4 dX5_largestCrowd_73 rfl ?_
          rw [nI_1]
          exact ihn (i + 1) _ _ _ (by omega) (by rw [hm, crC, crC, foI]; first | (rw [if_pos g]; rfl) | rw [if_neg g])
  refine Ct.of (by decide +kernel) (Nat.le_of_ble_eq_true rfl) ⟨_, rfl, rfl⟩ ?_
  show Ev E _ RX5 cX5_largestCrowd 6 _ 0 [some (.ref (E.1 r)), some (.int cand), none, none, none, none] [] _
  refine ev_iconst_0 dX5_largestCrowd_0 ?_
  refine ev_istore_2 dX5_largestCrowd_1 rfl ?_
  refine ev_iconst_0 dX5_largestCrowd_2 ?_
  refine ev_istore_3 dX5_largestCrowd_3 rfl ?_
  exact loop 7 0 0 _ _ (by omega) rfl
def ansR (σ : xS) (w s : Int32) (t j : Nat) : xS := (fun a b => if a = 72 ∧ b < j then ansC σ w (nI b) s (nI t) else if a = 72 ∧ b < 7 ∧ 0 < t then ansC σ w (nI b) s (nI (t - 1)) else σ.1 a b, σ.2)
theorem ansR_f {σ : xS} {w s : Int32} {t j a : Nat} (h : a ≠ 72) : (ansR σ w s t j).1 a = σ.1 a := by funext b; simp [ansR, h]
theorem ansR_0 (σ : xS) (w s : Int32) : ansR σ w s 0 0 = σ := xS_ext (fun a b => by simp [ansR]) rfl
theorem ansR_s (σ : xS) (w s : Int32) (t j : Nat) : xu (ansR σ w s t j) 72 j (ansC σ w (nI j) s (nI t)) = ansR σ w s t (j + 1) := by
  refine xS_ext (fun a b => ?_) rfl
  by_cases ha : a = 72
  · subst ha
    by_cases hb : b = j
    · subst hb; simp [ansR, xu]
    · simp [ansR, xu, hb, show b < j + 1 ↔ b < j by omega]
  · simp [ansR, xu, ha]
theorem ansR_n (σ : xS) (w s : Int32) (t : Nat) : ansR σ w s t 7 = ansR σ w s (t + 1) 0 := by
  refine xS_ext (fun a b => ?_) rfl
  by_cases ha : a = 72
  · subst ha
    by_cases hb : b < 7
    · simp [ansR, hb]
    · simp [ansR, hb]
  · simp [ansR, ha]
theorem ansC_o {σ σ' : xS} (h3 : σ'.1 3 = σ.1 3) (h4 : σ'.1 4 = σ.1 4) (w i s t : Int32) : ansC σ' w i s t = ansC σ w i s t := by
  simp only [ansC, xat_o h3, xat_o h4]
theorem foI_congr {f g : Nat → Int32 → Int32} {n : Nat} (h : ∀ i a, i < n → f i a = g i a) (a : Int32) : foI f n a = foI g n a := by
  induction n with
  | zero => rfl
  | succ n ih => rw [foI, foI, ih (fun i a hi => h i a (by omega)), h n _ (by omega)]
theorem cnC_congr {f g : Nat → Int32} {cand : Int32} {i : Nat} (h : ∀ j, j < 7 → f j = g j) (hi : i < 7) : cnC f cand i 7 = cnC g cand i 7 := foI_congr (fun j c hj => by rw [h j hj, h i hi]) 0
theorem crC_congr {f g : Nat → Int32} {cand : Int32} (h : ∀ j, j < 7 → f j = g j) : crC f cand 7 = crC g cand 7 := foI_congr (fun i m hi => by rw [cnC_congr h hi]) 0
def bpS (f : Nat → Nat → Int32) (cand : Int32) : Nat → Int32 × Int32
  | 0 => (-1, 8)
  | t + 1 => if crC (f t) cand 7 < (bpS f cand t).2 then (nI t, crC (f t) cand 7) else bpS f cand t
def bpQ (σ : xS) (w s cand : Int32) (L : Nat) : Int32 × xS :=
  if cand = 0 then (-1, σ) else ((bpS (fun t b => ansC σ w (nI b) s (nI t)) cand (L + 1)).1, ansR σ w s (L + 1) 0)
theorem c_X5_bestParting (d : Nat) {E : xE} {σ : xS} {w s cand : Int32} {L : Nat} (hL : L ≤ 100) : Ct E (d + 3) yX5_bestParting cX5_bestParting 9 (some .int) [.ref (E.1 0), .int w, .int s, .int cand, .int (nI L)] σ (some (.int (bpQ σ w s cand L).1)) (bpQ σ w s cand L).2 := by
  have e72 : xlen 72 = 7 := by decide
  have loop2 : ∀ (F : Option Value → xS → Prop) (t : Nat) (best few : Int32), (Ev E (rm (d + 3)) RX5 cX5_bestParting 9 F 58 [some (.ref (E.1 0)), some (.int w), some (.int s), some (.int cand), some (.int (nI L)), some (.int best), some (.int few), some (.int (nI t)), some (.int (nI 7))] [] (ansR σ w s t 7)) → ∀ (n j : Nat), j + n = 7 → Ev E (rm (d + 3)) RX5 cX5_bestParting 9 F 26 [some (.ref (E.1 0)), some (.int w), some (.int s), some (.int cand), some (.int (nI L)), some (.int best), some (.int few), some (.int (nI t)), some (.int (nI j))] [] (ansR σ w s t j) := by
    intro F t best few hF n
    induction n with
    | zero =>
      intro j hj
      obtain rfl : j = 7 := by omega
      refine ev_iload_8 dX5_bestParting_26 ?_
      refine ev_bipush (7) dX5_bestParting_28 rfl ?_
      refine ev_icmp_ge 58 dX5_bestParting_30 rfl (fun h30 => ?_) (fun h30 => ?_)
      · exact hF
      · exact absurd (show nI 7 ≤ nI 7 from nI_le (by omega) (by omega)) h30
    | succ n ihn =>
      intro j hj
      have ea : ansC (ansR σ w s t j) w (nI j) s (nI t) = ansC σ w (nI j) s (nI t) := ansC_o (ansR_f (by decide)) (ansR_f (by decide)) _ _ _ _
      refine ev_iload_8 dX5_bestParting_26 ?_
      refine ev_bipush (7) dX5_bestParting_28 rfl ?_
      refine ev_icmp_ge 58 dX5_bestParting_30 rfl (fun h30 => ?_) (fun h30 => ?_)
      · exact absurd h30 (show ¬ nI 7 ≤ nI j from nI_ge (by omega) (by omega))
      · refine ev_aload_0 dX5_bestParting_33 ?_
        refine ev_get dX5_bestParting_34 fk_X5_43 (by first | assumption | decide) (by decide) rfl ?_
        refine ev_iload_8 dX5_bestParting_37 ?_
        refine ev_aload_0 dX5_bestParting_39 ?_
        refine ev_iload_1 dX5_bestParting_40 ?_
        refine Ev.pc 41 rfl ?_
        refine ev_iload_8 dX5_bestParting_41 ?_
        refine ev_iload_2 dX5_bestParting_43 ?_
        refine ev_iload_7 dX5_bestParting_44 ?_
        refine ev_invV (ci := 5) dX5_bestParting_46 ml_X5_320 mt_X5_answerOf (c_X5_answerOf d) (by first | assumption | decide) (by decide) rfl rfl rfl (rm_ok (by omega)) (Nat.le_of_ble_eq_true rfl) ?_
        refine Ev.pc 49 rfl ?_
        refine ev_invS dX5_bestParting_49 ml_X5_138 mt_X5_put (c_X5_put d (by first | assumption | decide)) rfl rfl (rm_ok (by omega)) (Nat.le_of_ble_eq_true rfl) ?_
        rw [ea, xput_nI (r := 72) (by omega), ansR_s]
        refine Ev.pc 52 rfl ?_
        refine ev_iinc_8 (1) dX5_bestParting_52 rfl rfl ?_
        refine ev_goto 26 dX5_bestParting_55 rfl ?_
        rw [nI_1]
        exact ihn (j + 1) (by omega)
  have loop : ¬ cand = 0 → ∀ (n t : Nat) (best few : Int32) (x8 : Option Value), t + n = L + 1 → (best, few) = bpS (fun t b => ansC σ w (nI b) s (nI t)) cand t → Ev E (rm (d + 3)) RX5 cX5_bestParting 9 (fun v t => v = some (.int (bpQ σ w s cand L).1) ∧ t = (bpQ σ w s cand L).2) 16 [some (.ref (E.1 0)), some (.int w), some (.int s), some (.int cand), some (.int (nI L)), some (.int best), some (.int few), some (.int (nI t)), x8] [] (ansR σ w s t 0) := by
    intro hc n
    induction n with
    | zero =>
      intro t best few x8 ht hs
      refine ev_iload_7 dX5_bestParting_16 ?_
      refine ev_iload_4 dX5_bestParting_18 ?_
      refine ev_icmp_gt 89 dX5_bestParting_20 rfl (fun h20 => ?_) (fun h20 => ?_)
      · refine ev_iload_5 dX5_bestParting_89 ?_
        exact ev_ireturn dX5_bestParting_91 ⟨by (rw [bpQ, if_neg hc, show L + 1 = t by omega, ← hs]), by (rw [bpQ, if_neg hc, show L + 1 = t by omega])⟩
      · exact absurd (nI_lt (by omega) (by omega)) h20
    | succ n ihn =>
      intro t best few x8 ht hs
      have hs2 : few = (bpS (fun t b => ansC σ w (nI b) s (nI t)) cand t).2 := by rw [← hs]
      have ec : crC ((ansR σ w s t 7).1 72) cand 7 = crC (fun b => ansC σ w (nI b) s (nI t)) cand 7 := crC_congr (fun j hj => by simp [ansR, hj])
      refine ev_iload_7 dX5_bestParting_16 ?_
      refine ev_iload_4 dX5_bestParting_18 ?_
      refine ev_icmp_gt 89 dX5_bestParting_20 rfl (fun h20 => ?_) (fun h20 => ?_)
      · exact absurd h20 (nI_nlt (by omega) (by omega))
      · refine ev_iconst_0 dX5_bestParting_23 ?_
        refine ev_istore_8 dX5_bestParting_24 rfl ?_
        refine loop2 _ t best few ?_ 7 0 (by omega)
        refine ev_aload_0 dX5_bestParting_58 ?_
        refine ev_get dX5_bestParting_59 fk_X5_43 (by first | assumption | decide) (by decide) rfl ?_
        refine ev_iload_3 dX5_bestParting_62 ?_
        refine ev_invS dX5_bestParting_63 ml_X5_323 mt_X5_largestCrowd (c_X5_largestCrowd d (r := 72) (by decide) (by decide)) rfl rfl (rm_ok (by omega)) (Nat.le_of_ble_eq_true rfl) ?_
        rw [ec]
        refine Ev.pc 66 rfl ?_
        refine ev_istore_8 dX5_bestParting_66 rfl ?_
        refine Ev.pc 68 rfl ?_
        refine ev_iload_8 dX5_bestParting_68 ?_
        refine ev_iload_6 dX5_bestParting_70 ?_
        refine ev_icmp_ge 83 dX5_bestParting_72 rfl (fun h72 => ?_) (fun h72 => ?_)
        · refine ev_iinc_7 (1) dX5_bestParting_83 rfl rfl ?_
          refine ev_goto 16 dX5_bestParting_86 rfl ?_
          rw [nI_1, ansR_n]
          exact ihn (t + 1) _ _ _ (by omega) (by rw [bpS, ← hs2, ← hs]; first | rw [if_neg (Int32.not_lt.mpr h72)] | rw [if_pos (Int32.not_le.mp h72)])
        · refine ev_iload_8 dX5_bestParting_75 ?_
          refine ev_istore_6 dX5_bestParting_77 rfl ?_
          refine ev_iload_7 dX5_bestParting_79 ?_
          refine ev_istore_5 dX5_bestParting_81 rfl ?_
          refine ev_iinc_7 (1) dX5_bestParting_83 rfl rfl ?_
          refine Ev.pc 86 rfl ?_
          refine ev_goto 16 dX5_bestParting_86 rfl ?_
          rw [nI_1, ansR_n]
          exact ihn (t + 1) _ _ _ (by omega) (by rw [bpS, ← hs2, ← hs]; first | rw [if_neg (Int32.not_lt.mpr h72)] | rw [if_pos (Int32.not_le.mp h72)])
  refine Ct.of (by decide +kernel) (Nat.le_of_ble_eq_true rfl) ⟨_, rfl, rfl⟩ ?_
  show Ev E _ RX5 cX5_bestParting 9 _ 0 [some (.ref (E.1 0)), some (.int w), some (.int s), some (.int cand), some (.int (nI L)), none, none, none, none] [] _
  refine ev_iload_3 dX5_bestParting_0 ?_
  refine ev_if_ne 6 dX5_bestParting_1 rfl (fun h1 => ?_) (fun h1 => ?_)
  · refine ev_iconst_m1 dX5_bestParting_6 ?_
    refine ev_istore_5 dX5_bestParting_7 rfl ?_
    refine ev_bipush (8) dX5_bestParting_9 rfl ?_
    refine ev_istore_6 dX5_bestParting_11 rfl ?_
    refine ev_iconst_0 dX5_bestParting_13 ?_
    refine Ev.pc 14 rfl ?_
    refine ev_istore_7 dX5_bestParting_14 rfl ?_
    have h := loop h1 (L + 1) 0 (-1) 8 none (by omega) rfl
    rw [ansR_0] at h
    exact h
  · refine ev_iconst_m1 dX5_bestParting_4 ?_
    exact ev_ireturn dX5_bestParting_5 ⟨by (rw [bpQ, if_pos h1]), by (rw [bpQ, if_pos h1])⟩
