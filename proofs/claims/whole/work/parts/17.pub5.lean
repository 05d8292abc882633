/-! the class's calls: which it was, bids, years -/
def allB (f : Nat → Bool) : Nat → Bool
  | 0 => true
  | n + 1 => allB f n && f n
theorem allB_iff (f : Nat → Bool) (n : Nat) : allB f n = true ↔ ∀ k, k < n → f k = true := by
  induction n with
  | zero => simp [allB]
  | succ n ih =>
    rw [allB, Bool.and_eq_true, ih]
    constructor
    · rintro ⟨h1, h2⟩ k hk
      rcases Nat.lt_or_ge k n with h | h
      · exact h1 k h
      · obtain rfl : k = n := by omega
        exact h2
    · intro h
      exact ⟨fun k hk => h k (by omega), h n (by omega)⟩
theorem allB_no {f : Nat → Bool} {n k : Nat} (hk : k < n) (h : f k = false) : allB f n = false := by
  rw [← Bool.not_eq_true, allB_iff]
  intro h2
  rw [h2 k hk] at h
  cases h
def ansC (σ : xS) (w i s t : Int32) : Int32 := if w = 1 then goodC i s t else if w = 2 then joyC i s t else goodC (xat σ 3 i) (xat σ 4 i) t
theorem c_X5_answerOf (d : Nat) {E : xE} {σ : xS} {w i s t : Int32} : Ct E (d + 2) yX5_answerOf cX5_answerOf 5 (some .int) [.ref (E.1 0), .int w, .int i, .int s, .int t] σ (some (.int (ansC σ w i s t))) σ := by
  refine Ct.of (by decide +kernel) (Nat.le_of_ble_eq_true rfl) ⟨_, rfl, rfl⟩ ?_
  show Ev E _ RX5 cX5_answerOf 5 _ 0 [some (.ref (E.1 0)), some (.int w), some (.int i), some (.int s), some (.int t)] [] _
  refine ev_iload_1 dX5_answerOf_0 ?_
  refine sw_X5_answerOf_1 (fun h1 => ?_) (fun h1 => ?_) (fun h1_1 h1_2 => ?_)
  · refine ev_iload_2 dX5_answerOf_28 ?_
    refine ev_iload_3 dX5_answerOf_29 ?_
    refine ev_iload_4 dX5_answerOf_30 ?_
    refine ev_invS dX5_answerOf_32 ml_X5_308 mt_X5_goodOf (c_X5_goodOf d) rfl rfl (rm_ok (by omega)) (Nat.le_of_ble_eq_true rfl) ?_
    refine Ev.pc 35 rfl ?_
    exact ev_ireturn dX5_answerOf_35 ⟨by ((try simp only [b2i_0, b2i_1, Decidable.not_not] at *); simp only [ansC]; repeat' (first | with_reducible rfl | contradiction | (exfalso; simp_all; done) | split)), by rfl⟩
  · refine ev_iload_2 dX5_answerOf_36 ?_
    refine ev_iload_3 dX5_answerOf_37 ?_
    refine ev_iload_4 dX5_answerOf_38 ?_
    refine ev_invS dX5_answerOf_40 ml_X5_311 mt_X5_joyOf (c_X5_joyOf d) rfl rfl (rm_ok (by omega)) (Nat.le_of_ble_eq_true rfl) ?_
    refine Ev.pc 43 rfl ?_
    exact ev_ireturn dX5_answerOf_43 ⟨by ((try simp only [b2i_0, b2i_1, Decidable.not_not] at *); simp only [ansC]; repeat' (first | with_reducible rfl | contradiction | (exfalso; simp_all; done) | split)), by rfl⟩
  · refine ev_aload_0 dX5_answerOf_44 ?_
    refine ev_get dX5_answerOf_45 fk_X5_10 (by first | assumption | decide) (by decide) rfl ?_
    refine ev_get dX5_answerOf_48 fk_X5_89 (by first | assumption | decide) (by decide) rfl ?_
    simp only [Nat.reduceAdd]
    refine ev_get dX5_answerOf_51 fk_X5_212 (by first | assumption | decide) (by decide) rfl ?_
    simp only [Nat.reduceAdd]
    refine ev_iload_2 dX5_answerOf_54 ?_
    refine Ev.pc 55 rfl ?_
    refine ev_invS dX5_answerOf_55 ml_X5_196 mt_X5_at (c_X5_at d (by first | assumption | decide)) rfl rfl (rm_ok (by omega)) (Nat.le_of_ble_eq_true rfl) ?_
    refine Ev.pc 58 rfl ?_
    refine ev_aload_0 dX5_answerOf_58 ?_
    refine ev_get dX5_answerOf_59 fk_X5_10 (by first | assumption | decide) (by decide) rfl ?_
    refine ev_get dX5_answerOf_62 fk_X5_89 (by first | assumption | decide) (by decide) rfl ?_
    simp only [Nat.reduceAdd]
    refine ev_get dX5_answerOf_65 fk_X5_215 (by first | assumption | decide) (by decide) rfl ?_
    simp only [Nat.reduceAdd]
    refine Ev.pc 68 rfl ?_
    refine ev_iload_2 dX5_answerOf_68 ?_
    refine ev_invS dX5_answerOf_69 ml_X5_196 mt_X5_at (c_X5_at d (by first | assumption | decide)) rfl rfl (rm_ok (by omega)) (Nat.le_of_ble_eq_true rfl) ?_
    refine Ev.pc 72 rfl ?_
    refine ev_iload_4 dX5_answerOf_72 ?_
    refine ev_invS dX5_answerOf_74 ml_X5_308 mt_X5_goodOf (c_X5_goodOf d) rfl rfl (rm_ok (by omega)) (Nat.le_of_ble_eq_true rfl) ?_
    refine Ev.pc 77 rfl ?_
    exact ev_ireturn dX5_answerOf_77 ⟨by ((try simp only [b2i_0, b2i_1, Decidable.not_not] at *); simp only [ansC]; repeat' (first | with_reducible rfl | contradiction | (exfalso; simp_all; done) | split)), by rfl⟩
def agB (σ : xS) (w whom i : Int32) (r : Nat) : Bool := !(decide (σ.1 (hintId w + 1) (4 * r) = whom) && !(decide (ansC σ w i (σ.1 (hintId w + 1) (4 * r + 1)) (σ.1 (hintId w + 1) (4 * r + 2)) = σ.1 (hintId w + 1) (4 * r + 3))))
theorem c_X5_agrees (d : Nat) {E : xE} {σ : xS} {w whom i : Int32} {n : Nat} (hn : σ.1 (hintId w) 2 = nI n) (hl : 4 * n ≤ xlen (hintId w + 1)) : Ct E (d + 3) yX5_agrees cX5_agrees 7 (some .boolean) [.ref (E.1 0), .int w, .int whom, .int i] σ (some (.int (b2i (allB (agB σ w whom i) n = true)))) σ := by
  have hh := (hintId_ok w).1
  have h5 := xlen_le (hintId w + 1)
  have loop : ∀ (m r : Nat) (x6 : Option Value), r + m = n → allB (agB σ w whom i) r = true → Ev E (rm (d + 3)) RX5 cX5_agrees 7 (fun v t => v = some (.int (b2i (allB (agB σ w whom i) n = true))) ∧ t = σ) 13 [some (.ref (E.1 0)), some (.int w), some (.int whom), some (.int i), some (.ref (E.1 (hintId w))), some (.int (nI r)), x6] [] σ := by
    intro m
    induction m with
    | zero =>
      intro r x6 hr ha
      refine ev_iload_5 dX5_agrees_13 ?_
      refine ev_aload_4 dX5_agrees_15 ?_
      refine ev_get dX5_agrees_17 fk_X5_305 (by first | assumption | decide) (by decide) rfl ?_
      refine ev_icmp_ge 80 dX5_agrees_20 rfl (fun h20 => ?_) (fun h20 => ?_)
      · refine ev_iconst_1 dX5_agrees_80 ?_
        exact ev_ireturn dX5_agrees_81 ⟨by exact congrArg (fun z => some (Value.int z)) (b2i_t (by rw [show n = r by omega]; exact ha)), by rfl⟩
      · exact absurd (by rw [hn]; exact nI_le (by omega) (by omega)) h20
    | succ m ihm =>
      intro r x6 hr ha
      have cc : ∀ c : Nat, c < 4 → xat σ (hintId w + 1) (nI r * 4 + nI c) = σ.1 (hintId w + 1) (4 * r + c) := fun c hc => xat_eq (by rw [show (4 : Int32) = nI 4 from rfl, pk_mul, nI_add, Nat.mul_comm]) (by omega)
      have c0 := cc 0 (by omega)
      have c1 := cc 1 (by omega)
      have c2 := cc 2 (by omega)
      have c3 := cc 3 (by omega)
      refine ev_iload_5 dX5_agrees_13 ?_
      refine ev_aload_4 dX5_agrees_15 ?_
      refine ev_get dX5_agrees_17 fk_X5_305 (by first | assumption | decide) (by decide) rfl ?_
      refine ev_icmp_ge 80 dX5_agrees_20 rfl (fun h20 => ?_) (fun h20 => ?_)
      · exact absurd h20 (by rw [hn]; exact nI_ge (by omega) (by omega))
      · refine ev_aload_0 dX5_agrees_23 ?_
        refine ev_iload_1 dX5_agrees_24 ?_
        refine ev_iload_3 dX5_agrees_25 ?_
        refine ev_aload_4 dX5_agrees_26 ?_
        refine ev_iload_5 dX5_agrees_28 ?_
        refine Ev.pc 30 rfl ?_
        refine ev_iconst_1 dX5_agrees_30 ?_
        refine ev_invV (ci := 0) dX5_agrees_31 ml_X5_317 mt_X0_cell (c_X0_cell d (i := hintId w) (hintId_ok w)) (by first | assumption | decide) (by decide) rfl rfl rfl (rm_ok (by omega)) (Nat.le_of_ble_eq_true rfl) ?_
        rw [show (1 : Int32) = nI 1 from rfl, c1]
        refine Ev.pc 34 rfl ?_
        refine ev_aload_4 dX5_agrees_34 ?_
        refine ev_iload_5 dX5_agrees_36 ?_
        refine ev_iconst_2 dX5_agrees_38 ?_
        refine Ev.pc 39 rfl ?_
        refine ev_invV (ci := 0) dX5_agrees_39 ml_X5_317 mt_X0_cell (c_X0_cell d (i := hintId w) (hintId_ok w)) (by first | assumption | decide) (by decide) rfl rfl rfl (rm_ok (by omega)) (Nat.le_of_ble_eq_true rfl) ?_
        rw [show (2 : Int32) = nI 2 from rfl, c2]
        refine Ev.pc 42 rfl ?_
        refine ev_invV (ci := 5) dX5_agrees_42 ml_X5_320 mt_X5_answerOf (c_X5_answerOf d) (by first | assumption | decide) (by decide) rfl rfl rfl (rm_ok (by omega)) (Nat.le_of_ble_eq_true rfl) ?_
        refine Ev.pc 45 rfl ?_
        refine ev_istore_6 dX5_agrees_45 rfl ?_
        refine ev_aload_4 dX5_agrees_47 ?_
        refine ev_iload_5 dX5_agrees_49 ?_
        refine Ev.pc 51 rfl ?_
        refine ev_iconst_0 dX5_agrees_51 ?_
        refine ev_invV (ci := 0) dX5_agrees_52 ml_X5_317 mt_X0_cell (c_X0_cell d (i := hintId w) (hintId_ok w)) (by first | assumption | decide) (by decide) rfl rfl rfl (rm_ok (by omega)) (Nat.le_of_ble_eq_true rfl) ?_
        rw [show (0 : Int32) = nI 0 from rfl, c0]
        refine Ev.pc 55 rfl ?_
        refine ev_iload_2 dX5_agrees_55 ?_
        refine ev_icmp_ne 74 dX5_agrees_56 rfl (fun h56 => ?_) (fun h56 => ?_)
        · refine ev_iinc_5 (1) dX5_agrees_74 rfl rfl ?_
          refine ev_goto 13 dX5_agrees_77 rfl ?_
          rw [nI_1]
          exact ihm (r + 1) _ (by omega) (by rw [allB, ha, agB]; simp at h56; simp [*])
        · refine ev_iload_6 dX5_agrees_59 ?_
          refine ev_aload_4 dX5_agrees_61 ?_
          refine ev_iload_5 dX5_agrees_63 ?_
          refine ev_iconst_3 dX5_agrees_65 ?_
          refine ev_invV (ci := 0) dX5_agrees_66 ml_X5_317 mt_X0_cell (c_X0_cell d (i := hintId w) (hintId_ok w)) (by first | assumption | decide) (by decide) rfl rfl rfl (rm_ok (by omega)) (Nat.le_of_ble_eq_true rfl) ?_
          rw [show (3 : Int32) = nI 3 from rfl, c3]
          refine Ev.pc 69 rfl ?_
          refine ev_icmp_eq 74 dX5_agrees_69 rfl (fun h69 => ?_) (fun h69 => ?_)
          · refine ev_iinc_5 (1) dX5_agrees_74 rfl rfl ?_
            refine ev_goto 13 dX5_agrees_77 rfl ?_
            rw [nI_1]
            exact ihm (r + 1) _ (by omega) (by rw [allB, ha, agB]; simp at h56; simp [*])
          · refine ev_iconst_0 dX5_agrees_72 ?_
            exact ev_ireturn dX5_agrees_73 ⟨by exact congrArg (fun z => some (Value.int z)) (b2i_f (by rw [allB_no (k := r) (by omega) (by rw [agB]; simp at h56; simp [*])]; simp)), by rfl⟩
  refine Ct.of (by decide +kernel) (Nat.le_of_ble_eq_true rfl) ⟨_, rfl, nb_b2i _⟩ ?_
  show Ev E _ RX5 cX5_agrees 7 _ 0 [some (.ref (E.1 0)), some (.int w), some (.int whom), some (.int i), none, none, none] [] _
  refine ev_aload_0 dX5_agrees_0 ?_
  refine ev_get dX5_agrees_1 fk_X5_10 (by first | assumption | decide) (by decide) rfl ?_
  refine ev_iload_1 dX5_agrees_4 ?_
  refine ev_invV (ci := 3) dX5_agrees_5 ml_X5_301 mt_X3_hintsOf (c_X3_hintsOf d) (by first | assumption | decide) (by decide) rfl rfl rfl (rm_ok (by omega)) (Nat.le_of_ble_eq_true rfl) ?_
  refine Ev.pc 8 rfl ?_
  refine ev_astore_4 dX5_agrees_8 rfl ?_
  refine Ev.pc 10 rfl ?_
  refine ev_iconst_0 dX5_agrees_10 ?_
  refine ev_istore_5 dX5_agrees_11 rfl ?_
  exact loop n 0 _ (by omega) rfl
theorem c_X5_agreeing (d : Nat) {E : xE} {σ : xS} {w whom : Int32} {n c : Nat} (hn : σ.1 (hintId w) 2 = nI n) (hl : 4 * n ≤ xlen (hintId w + 1)) (hc : c ≤ 7) : Ct E (d + 4) yX5_agreeing cX5_agreeing 6 (some .int) [.ref (E.1 0), .int w, .int whom, .int (nI c)] σ (some (.int (mkI (fun i => allB (agB σ w whom (nI i)) n) c))) σ := by
  have loop : ∀ (m k : Nat) (bits : Int32), k + m = c → bits = mkI (fun i => allB (agB σ w whom (nI i)) n) k → Ev E (rm (d + 4)) RX5 cX5_agreeing 6 (fun v t => v = some (.int (mkI (fun i => allB (agB σ w whom (nI i)) n) c)) ∧ t = σ) 6 [some (.ref (E.1 0)), some (.int w), some (.int whom), some (.int (nI c)), some (.int bits), some (.int (nI k))] [] σ := by
    intro m
    induction m with
    | zero =>
      intro k bits hk hb
      refine ev_iload_5 dX5_agreeing_6 ?_
      refine ev_iload_3 dX5_agreeing_8 ?_
      refine ev_icmp_ge 38 dX5_agreeing_9 rfl (fun h9 => ?_) (fun h9 => ?_)
      · refine ev_iload_4 dX5_agreeing_38 ?_
        exact ev_ireturn dX5_agreeing_40 ⟨by (rw [hb, show k = c by omega]), by rfl⟩
      · exact absurd (nI_le (by omega) (by omega)) h9
    | succ m ihm =>
      intro k bits hk hb
      refine ev_iload_5 dX5_agreeing_6 ?_
      refine ev_iload_3 dX5_agreeing_8 ?_
      refine ev_icmp_ge 38 dX5_agreeing_9 rfl (fun h9 => ?_) (fun h9 => ?_)
      · exact absurd h9 (nI_ge (by omega) (by omega))
      · refine ev_aload_0 dX5_agreeing_12 ?_
        refine ev_iload_1 dX5_agreeing_13 ?_
        refine ev_iload_2 dX5_agreeing_14 ?_
        refine ev_iload_5 dX5_agreeing_15 ?_
        refine ev_invV (ci := 5) dX5_agreeing_17 ml_X5_314 mt_X5_agrees (c_X5_agrees d hn hl) (by first | assumption | decide) (by decide) rfl rfl rfl (rm_ok (by omega)) (Nat.le_of_ble_eq_true rfl) ?_
        refine Ev.pc 20 rfl ?_
        refine ev_if_eq 32 dX5_agreeing_20 rfl (fun h20 => ?_) (fun h20 => ?_)
        · have g := b2i_0.mp h20
          refine ev_iinc_5 (1) dX5_agreeing_32 rfl rfl ?_
          refine ev_goto 6 dX5_agreeing_35 rfl ?_
          rw [nI_1]
          exact ihm (k + 1) _ (by omega) (by rw [mkI, hb]; first | rw [if_pos g] | rw [if_neg g])
        · have g := Decidable.not_not.mp (fun h => h20 (b2i_0.mpr h))
          refine ev_iload_4 dX5_agreeing_23 ?_
          refine ev_iconst_1 dX5_agreeing_25 ?_
          refine ev_iload_5 dX5_agreeing_26 ?_
          refine ev_ishl dX5_agreeing_28 ?_
          refine ev_ior dX5_agreeing_29 ?_
          refine Ev.pc 30 rfl ?_
          refine ev_istore_4 dX5_agreeing_30 rfl ?_
          refine ev_iinc_5 (1) dX5_agreeing_32 rfl rfl ?_
          refine ev_goto 6 dX5_agreeing_35 rfl ?_
          rw [nI_1]
          exact ihm (k + 1) _ (by omega) (by rw [mkI, hb]; first | rw [if_pos g] | rw [if_neg g])
  refine Ct.of (by decide +kernel) (Nat.le_of_ble_eq_true rfl) ⟨_, rfl, rfl⟩ ?_
  show Ev E _ RX5 cX5_agreeing 6 _ 0 [some (.ref (E.1 0)), some (.int w), some (.int whom), some (.int (nI c)), none, none] [] _
  refine ev_iconst_0 dX5_agreeing_0 ?_
  refine ev_istore_4 dX5_agreeing_1 rfl ?_
  refine ev_iconst_0 dX5_agreeing_3 ?_
  refine ev_istore_5 dX5_agreeing_4 rfl ?_
  exact loop c 0 0 (by omega) rfl
def cnC (f : Nat → Int32) (cand : Int32) (i : Nat) : Nat → Int32 := fun n => foI (fun j c => if hasI' cand j then (if f j = f i then c + 1 else c) else c) n 0
def crC (f : Nat → Int32) (cand : Int32) : Nat → Int32 := fun n => foI (fun i m => if hasI' cand i then xmax m (cnC f cand i 7) else m) n 0
theorem c_X5_largestCrowd (d : Nat) {E : xE} {σ : xS} {r : Nat} {cand : Int32} (hr : r < xN ∧ xcls r = 7) (hl : 7 ≤ xlen r) : Ct E (d + 1) yX5_largestCrowd cX5_largestCrowd 6 (some .int) [.ref (E.1 r), .int cand] σ (some (.int (crC (σ.1 r) cand 7))) σ := by
  have h5 := xlen_le r
  have loop2 : ∀ (F : Option Value → xS → Prop) (i : Nat) (m : Int32), i < 7 → (∀ x5, Ev E (rm (d + 1)) RX5 cX5_largestCrowd 6 F 55 [some (.ref (E.1 r)), some (.int cand), some (.int m), some (.int (nI i)), some (.int (cnC (σ.1 r) cand i 7)), x5] [] σ) → ∀ (n j : Nat) (c : Int32), j + n = 7 → c = cnC (σ.1 r) cand i j → Ev E (rm (d + 1)) RX5 cX5_largestCrowd 6 F 16 [some (.ref (E.1 r)), some (.int cand), some (.int m), some (.int (nI i)), some (.int c), some (.int (nI j))] [] σ := by
    intro F i m hi hF n
    induction n with
    | zero =>
      intro j c hj hc
      refine ev_iload_5 dX5_largestCrowd_16 ?_
      refine ev_bipush (7) dX5_largestCrowd_18 rfl ?_
      refine ev_icmp_ge 55 dX5_largestCrowd_20 rfl (fun h20 => ?_) (fun h20 => ?_)
      · rw [hc, show j = 7 by omega]
        exact hF _
      · exact absurd (show nI 7 ≤ nI j from nI_le (by omega) (by omega)) h20
    | succ n ihn =>
      intro j c hj hc
      have e1 : xat σ r (nI j) = σ.1 r j := xat_nI (by omega)
      have e2 : xat σ r (nI i) = σ.1 r i := xat_nI (by omega)
      refine ev_iload_5 dX5_largestCrowd_16 ?_
      refine ev_bipush (7) dX5_largestCrowd_18 rfl ?_
      refine ev_icmp_ge 55 dX5_largestCrowd_20 rfl (fun h20 => ?_) (fun h20 => ?_)
      · exact absurd h20 (show ¬ nI 7 ≤ nI j from nI_ge (by omega) (by omega))
      · refine ev_iload_1 dX5_largestCrowd_23 ?_
        refine ev_iload_5 dX5_largestCrowd_24 ?_
        refine ev_invS dX5_largestCrowd_26 ml_X5_270 mt_X5_has (c_X5_has d) rfl rfl (rm_ok (by omega)) (Nat.le_of_ble_eq_true rfl) ?_
        refine Ev.pc 29 rfl ?_
        refine ev_if_eq 49 dX5_largestCrowd_29 rfl (fun h29 => ?_) (fun h29 => ?_)
        · have g := b2i_0.mp h29
          refine ev_iinc_5 (1) dX5_largestCrowd_49 rfl rfl ?_
          refine ev_goto 16 dX5_largestCrowd_52 rfl ?_
          rw [nI_1]
          exact ihn (j + 1) _ (by omega) (by rw [hc, cnC, cnC, foI]; first | rw [if_neg g] | rw [if_pos g, if_pos h43] | rw [if_pos g, if_neg h43])
        · have g := Decidable.not_not.mp (fun h => h29 (b2i_0.mpr h))
          refine ev_aload_0 dX5_largestCrowd_32 ?_
          refine ev_iload_5 dX5_largestCrowd_33 ?_
          refine ev_invS dX5_largestCrowd_35 ml_X5_196 mt_X5_at (c_X5_at d (by first | assumption | decide)) rfl rfl (rm_ok (by omega)) (Nat.le_of_ble_eq_true rfl) ?_
          rw [e1]
          refine Ev.pc 38 rfl ?_
          refine ev_aload_0 dX5_largestCrowd_38 ?_
          refine ev_iload_3 dX5_largestCrowd_39 ?_
          refine Ev.pc 40 rfl ?_
          refine ev_invS dX5_largestCrowd_40 ml_X5_196 mt_X5_at (c_X5_at d (by first | assumption | decide)) rfl rfl (rm_ok (by omega)) (Nat.le_of_ble_eq_true rfl) ?_
          rw [e2]
          refine Ev.pc 43 rfl ?_
          refine ev_icmp_ne 49 dX5_largestCrowd_43 rfl (fun h43 => ?_) (fun h43 => ?_)
          · refine ev_iinc_5 (1) dX5_largestCrowd_49 rfl rfl ?_
            refine ev_goto 16 dX5_largestCrowd_52 rfl ?_
            rw [nI_1]
            exact ihn (j + 1) _ (by omega) (by rw [hc, cnC, cnC, foI]; first | rw [if_neg g] | rw [if_pos g, if_pos h43] | rw [if_pos g, if_neg h43])
          · refine ev_iinc_4 (1) dX5_largestCrowd_46 rfl rfl ?_
            refine ev_iinc_5 (1) dX5_largestCrowd_49 rfl rfl ?_
            refine ev_goto 16 dX5_largestCrowd_52 rfl ?_
            rw [nI_1]
            exact ihn (j + 1) _ (by omega) (by rw [hc, cnC, cnC, foI]; first | rw [if_neg g] | rw [if_pos g, if_pos h43] | rw [if_pos g, if_neg h43])
  have loop : ∀ (n i : Nat) (m : Int32) (x4 x5 : Option Value), i + n = 7 → m = crC (σ.1 r) cand i → Ev E (rm (d + 1)) RX5 cX5_largestCrowd 6 (fun v t => v = some (.int (crC (σ.1 r) cand 7)) ∧ t = σ) 4 [some (.ref (E.1 r)), some (.int cand), some (.int m), some (.int (nI i)), x4, x5] [] σ := by
    intro n
    induction n with
    | zero =>
      intro i m x4 x5 hi hm
      refine ev_iload_3 dX5_largestCrowd_4 ?_
      refine ev_bipush (7) dX5_largestCrowd_5 rfl ?_
      refine ev_icmp_ge 76 dX5_largestCrowd_7 rfl (fun h7 => ?_) (fun h7 => ?_)
      · refine ev_iload_2 dX5_largestCrowd_76 ?_
        exact ev_ireturn dX5_largestCrowd_77 ⟨by (rw [hm, show i = 7 by omega]), by rfl⟩
      · exact absurd (show nI 7 ≤ nI i from nI_le (by omega) (by omega)) h7
    | succ n ihn =>
      intro i m x4 x5 hi hm
      refine ev_iload_3 dX5_largestCrowd_4 ?_
      refine ev_bipush (7) dX5_largestCrowd_5 rfl ?_
      refine ev_icmp_ge 76 dX5_largestCrowd_7 rfl (fun h7 => ?_) (fun h7 => ?_)
      · exact absurd h7 (show ¬ nI 7 ≤ nI i from nI_ge (by omega) (by omega))
      · refine ev_iconst_0 dX5_largestCrowd_10 ?_
        refine ev_istore_4 dX5_largestCrowd_11 rfl ?_
        refine ev_iconst_0 dX5_largestCrowd_13 ?_
        refine ev_istore_5 dX5_largestCrowd_14 rfl ?_
        refine loop2 _ i m (by omega) (fun x5 => ?_) 7 0 0 (by omega) rfl
        refine ev_iload_1 dX5_largestCrowd_55 ?_
        refine ev_iload_3 dX5_largestCrowd_56 ?_
        refine ev_invS dX5_largestCrowd_57 ml_X5_270 mt_X5_has (c_X5_has d) rfl rfl (rm_ok (by omega)) (Nat.le_of_ble_eq_true rfl) ?_
        refine Ev.pc 60 rfl ?_
        refine ev_if_eq 70 dX5_largestCrowd_60 rfl (fun h60 => ?_) (fun h60 => ?_)
        · have g := b2i_0.mp h60
          refine ev_iinc_3 (1) dX5_largestCrowd_70 rfl rfl ?_
          refine ev_goto 4 dX5_largestCrowd_73 rfl ?_
          rw [nI_1]
          exact ihn (i + 1) _ _ _ (by omega) (by rw [hm, crC, crC, foI]; first | (rw [if_pos g]; rfl) | rw [if_neg g])
        · have g := Decidable.not_not.mp (fun h => h60 (b2i_0.mpr h))
          refine ev_iload_2 dX5_largestCrowd_63 ?_
          refine ev_iload_4 dX5_largestCrowd_64 ?_
          refine ev_mmax dX5_largestCrowd_66 mm_X5_83 (rm_okm (by omega)) (Nat.le_of_ble_eq_true rfl) ?_
          refine Ev.pc 69 rfl ?_
          refine ev_istore_2 dX5_largestCrowd_69 rfl ?_
          refine ev_iinc_3 (1) dX5_largestCrowd_70 rfl rfl ?_
          refine Ev.pc 73 rfl ?_
          refine ev_goto 4 dX5_largestCrowd_73 rfl ?_
          rw [nI_1]
          exact ihn (i + 1) _ _ _ (by omega) (by rw [hm, crC, crC, foI]; first | (rw [if_pos g]; rfl) | rw [if_neg g])
  refine Ct.of (by decide +kernel) (Nat.le_of_ble_eq_true rfl) ⟨_, rfl, rfl⟩ ?_
  show Ev E _ RX5 cX5_largestCrowd 6 _ 0 [some (.ref (E.1 r)), some (.int cand), none, none, none, none] [] _
  refine ev_iconst_0 dX5_largestCrowd_0 ?_
  refine ev_istore_2 dX5_largestCrowd_1 rfl ?_
  refine ev_iconst_0 dX5_largestCrowd_2 ?_
  refine ev_istore_3 dX5_largestCrowd_3 rfl ?_
  exact loop 7 0 0 _ _ (by omega) rfl
def ansR (σ : xS) (w s : Int32) (t j : Nat) : xS := (fun a b => if a = 72 ∧ b < j then ansC σ w (nI b) s (nI t) else if a = 72 ∧ b < 7 ∧ 0 < t then ansC σ w (nI b) s (nI (t - 1)) else σ.1 a b, σ.2)
theorem ansR_f {σ : xS} {w s : Int32} {t j a : Nat} (h : a ≠ 72) : (ansR σ w s t j).1 a = σ.1 a := by funext b; simp [ansR, h]
theorem ansR_0 (σ : xS) (w s : Int32) : ansR σ w s 0 0 = σ := xS_ext (fun a b => by simp [ansR]) rfl
theorem ansR_s (σ : xS) (w s : Int32) (t j : Nat) : xu (ansR σ w s t j) 72 j (ansC σ w (nI j) s (nI t)) = ansR σ w s t (j + 1) := by
  refine xS_ext (fun a b => ?_) rfl
  by_cases ha : a = 72
  · subst ha
    by_cases hb : b = j
    · subst hb; simp [ansR, xu]
    · simp [ansR, xu, hb, show b < j + 1 ↔ b < j by omega]
  · simp [ansR, xu, ha]
theorem ansR_n (σ : xS) (w s : Int32) (t : Nat) : ansR σ w s t 7 = ansR σ w s (t + 1) 0 := by
  refine xS_ext (fun a b => ?_) rfl
  by_cases ha : a = 72
  · subst ha
    by_cases hb : b < 7
    · simp [ansR, hb]
    · simp [ansR, hb]
  · simp [ansR, ha]
theorem ansC_o {σ σ' : xS} (h3 : σ'.1 3 = σ.1 3) (h4 : σ'.1 4 = σ.1 4) (w i s t : Int32) : ansC σ' w i s t = ansC σ w i s t := by
  simp only [ansC, xat_o h3, xat_o h4]
theorem foI_congr {f g : Nat → Int32 → Int32} {n : Nat} (h : ∀ i a, i < n → f i a = g i a) (a : Int32) : foI f n a = foI g n a := by
  induction n with
  | zero => rfl
  | succ n ih => rw [foI, foI, ih (fun i a hi => h i a (by omega)), h n _ (by omega)]
theorem cnC_congr {f g : Nat → Int32} {cand : Int32} {i : Nat} (h : ∀ j, j < 7 → f j = g j) (hi : i < 7) : cnC f cand i 7 = cnC g cand i 7 := foI_congr (fun j c hj => by rw [h j hj, h i hi]) 0
theorem crC_congr {f g : Nat → Int32} {cand : Int32} (h : ∀ j, j < 7 → f j = g j) : crC f cand 7 = crC g cand 7 := foI_congr (fun i m hi => by rw [cnC_congr h hi]) 0
def bpS (f : Nat → Nat → Int32) (cand : Int32) : Nat → Int32 × Int32
  | 0 => (-1, 8)
  | t + 1 => if crC (f t) cand 7 < (bpS f cand t).2 then (nI t, crC (f t) cand 7) else bpS f cand t
def bpQ (σ : xS) (w s cand : Int32) (L : Nat) : Int32 × xS :=
  if cand = 0 then (-1, σ) else ((bpS (fun t b => ansC σ w (nI b) s (nI t)) cand (L + 1)).1, ansR σ w s (L + 1) 0)
theorem c_X5_bestParting (d : Nat) {E : xE} {σ : xS} {w s cand : Int32} {L : Nat} (hL : L ≤ 100) : Ct E (d + 3) yX5_bestParting cX5_bestParting 9 (some .int) [.ref (E.1 0), .int w, .int s, .int cand, .int (nI L)] σ (some (.int (bpQ σ w s cand L).1)) (bpQ σ w s cand L).2 := by
  have e72 : xlen 72 = 7 := by decide
  have loop2 : ∀ (F : Option Value → xS → Prop) (t : Nat) (best few : Int32), (Ev E (rm (d + 3)) RX5 cX5_bestParting 9 F 58 [some (.ref (E.1 0)), some (.int w), some (.int s), some (.int cand), some (.int (nI L)), some (.int best), some (.int few), some (.int (nI t)), some (.int (nI 7))] [] (ansR σ w s t 7)) → ∀ (n j : Nat), j + n = 7 → Ev E (rm (d + 3)) RX5 cX5_bestParting 9 F 26 [some (.ref (E.1 0)), some (.int w), some (.int s), some (.int cand), some (.int (nI L)), some (.int best), some (.int few), some (.int (nI t)), some (.int (nI j))] [] (ansR σ w s t j) := by
    intro F t best few hF n
    induction n with
    | zero =>
      intro j hj
      obtain rfl : j = 7 := by omega
      refine ev_iload_8 dX5_bestParting_26 ?_
      refine ev_bipush (7) dX5_bestParting_28 rfl ?_
      refine ev_icmp_ge 58 dX5_bestParting_30 rfl (fun h30 => ?_) (fun h30 => ?_)
      · exact hF
      · exact absurd (show nI 7 ≤ nI 7 from nI_le (by omega) (by omega)) h30
    | succ n ihn =>
      intro j hj
      have ea : ansC (ansR σ w s t j) w (nI j) s (nI t) = ansC σ w (nI j) s (nI t) := ansC_o (ansR_f (by decide)) (ansR_f (by decide)) _ _ _ _
      refine ev_iload_8 dX5_bestParting_26 ?_
      refine ev_bipush (7) dX5_bestParting_28 rfl ?_
      refine ev_icmp_ge 58 dX5_bestParting_30 rfl (fun h30 => ?_) (fun h30 => ?_)
      · exact absurd h30 (show ¬ nI 7 ≤ nI j from nI_ge (by omega) (by omega))
      · refine ev_aload_0 dX5_bestParting_33 ?_
        refine ev_get dX5_bestParting_34 fk_X5_43 (by first | assumption | decide) (by decide) rfl ?_
        refine ev_iload_8 dX5_bestParting_37 ?_
        refine ev_aload_0 dX5_bestParting_39 ?_
        refine ev_iload_1 dX5_bestParting_40 ?_
        refine Ev.pc 41 rfl ?_
        refine ev_iload_8 dX5_bestParting_41 ?_
        refine ev_iload_2 dX5_bestParting_43 ?_
        refine ev_iload_7 dX5_bestParting_44 ?_
        refine ev_invV (ci := 5) dX5_bestParting_46 ml_X5_320 mt_X5_answerOf (c_X5_answerOf d) (by first | assumption | decide) (by decide) rfl rfl rfl (rm_ok (by omega)) (Nat.le_of_ble_eq_true rfl) ?_
        refine Ev.pc 49 rfl ?_
        refine ev_invS dX5_bestParting_49 ml_X5_138 mt_X5_put (c_X5_put d (by first | assumption | decide)) rfl rfl (rm_ok (by omega)) (Nat.le_of_ble_eq_true rfl) ?_
        rw [ea, xput_nI (r := 72) (by omega), ansR_s]
        refine Ev.pc 52 rfl ?_
        refine ev_iinc_8 (1) dX5_bestParting_52 rfl rfl ?_
        refine ev_goto 26 dX5_bestParting_55 rfl ?_
        rw [nI_1]
        exact ihn (j + 1) (by omega)
  have loop : ¬ cand = 0 → ∀ (n t : Nat) (best few : Int32) (x8 : Option Value), t + n = L + 1 → (best, few) = bpS (fun t b => ansC σ w (nI b) s (nI t)) cand t → Ev E (rm (d + 3)) RX5 cX5_bestParting 9 (fun v t => v = some (.int (bpQ σ w s cand L).1) ∧ t = (bpQ σ w s cand L).2) 16 [some (.ref (E.1 0)), some (.int w), some (.int s), some (.int cand), some (.int (nI L)), some (.int best), some (.int few), some (.int (nI t)), x8] [] (ansR σ w s t 0) := by
    intro hc n
    induction n with
    | zero =>
      intro t best few x8 ht hs
      refine ev_iload_7 dX5_bestParting_16 ?_
      refine ev_iload_4 dX5_bestParting_18 ?_
      refine ev_icmp_gt 89 dX5_bestParting_20 rfl (fun h20 => ?_) (fun h20 => ?_)
      · refine ev_iload_5 dX5_bestParting_89 ?_
        exact ev_ireturn dX5_bestParting_91 ⟨by (rw [bpQ, if_neg hc, show L + 1 = t by omega, ← hs]), by (rw [bpQ, if_neg hc, show L + 1 = t by omega])⟩
      · exact absurd (nI_lt (by omega) (by omega)) h20
    | succ n ihn =>
      intro t best few x8 ht hs
      have hs2 : few = (bpS (fun t b => ansC σ w (nI b) s (nI t)) cand t).2 := by rw [← hs]
      have ec : crC ((ansR σ w s t 7).1 72) cand 7 = crC (fun b => ansC σ w (nI b) s (nI t)) cand 7 := crC_congr (fun j hj => by simp [ansR, hj])
      refine ev_iload_7 dX5_bestParting_16 ?_
      refine ev_iload_4 dX5_bestParting_18 ?_
      refine ev_icmp_gt 89 dX5_bestParting_20 rfl (fun h20 => ?_) (fun h20 => ?_)
      · exact absurd h20 (nI_nlt (by omega) (by omega))
      · refine ev_iconst_0 dX5_bestParting_23 ?_
        refine ev_istore_8 dX5_bestParting_24 rfl ?_
        refine loop2 _ t best few ?_ 7 0 (by omega)
        refine ev_aload_0 dX5_bestParting_58 ?_
        refine ev_get dX5_bestParting_59 fk_X5_43 (by first | assumption | decide) (by decide) rfl ?_
        refine ev_iload_3 dX5_bestParting_62 ?_
        refine ev_invS dX5_bestParting_63 ml_X5_323 mt_X5_largestCrowd (c_X5_largestCrowd d (r := 72) (by decide) (by decide)) rfl rfl (rm_ok (by omega)) (Nat.le_of_ble_eq_true rfl) ?_
        rw [ec]
        refine Ev.pc 66 rfl ?_
        refine ev_istore_8 dX5_bestParting_66 rfl ?_
        refine Ev.pc 68 rfl ?_
        refine ev_iload_8 dX5_bestParting_68 ?_
        refine ev_iload_6 dX5_bestParting_70 ?_
        refine ev_icmp_ge 83 dX5_bestParting_72 rfl (fun h72 => ?_) (fun h72 => ?_)
        · refine ev_iinc_7 (1) dX5_bestParting_83 rfl rfl ?_
          refine ev_goto 16 dX5_bestParting_86 rfl ?_
          rw [nI_1, ansR_n]
          exact ihn (t + 1) _ _ _ (by omega) (by rw [bpS, ← hs2, ← hs]; first | rw [if_neg (Int32.not_lt.mpr h72)] | rw [if_pos (Int32.not_le.mp h72)])
        · refine ev_iload_8 dX5_bestParting_75 ?_
          refine ev_istore_6 dX5_bestParting_77 rfl ?_
          refine ev_iload_7 dX5_bestParting_79 ?_
          refine ev_istore_5 dX5_bestParting_81 rfl ?_
          refine ev_iinc_7 (1) dX5_bestParting_83 rfl rfl ?_
          refine Ev.pc 86 rfl ?_
          refine ev_goto 16 dX5_bestParting_86 rfl ?_
          rw [nI_1, ansR_n]
          exact ihn (t + 1) _ _ _ (by omega) (by rw [bpS, ← hs2, ← hs]; first | rw [if_neg (Int32.not_lt.mpr h72)] | rw [if_pos (Int32.not_le.mp h72)])
  refine Ct.of (by decide +kernel) (Nat.le_of_ble_eq_true rfl) ⟨_, rfl, rfl⟩ ?_
  show Ev E _ RX5 cX5_bestParting 9 _ 0 [some (.ref (E.1 0)), some (.int w), some (.int s), some (.int cand), some (.int (nI L)), none, none, none, none] [] _
  refine ev_iload_3 dX5_bestParting_0 ?_
  refine ev_if_ne 6 dX5_bestParting_1 rfl (fun h1 => ?_) (fun h1 => ?_)
  · refine ev_iconst_m1 dX5_bestParting_6 ?_
    refine ev_istore_5 dX5_bestParting_7 rfl ?_
    refine ev_bipush (8) dX5_bestParting_9 rfl ?_
    refine ev_istore_6 dX5_bestParting_11 rfl ?_
    refine ev_iconst_0 dX5_bestParting_13 ?_
    refine Ev.pc 14 rfl ?_
    refine ev_istore_7 dX5_bestParting_14 rfl ?_
    have h := loop h1 (L + 1) 0 (-1) 8 none (by omega) rfl
    rw [ansR_0] at h
    exact h
  · refine ev_iconst_m1 dX5_bestParting_4 ?_
    exact ev_ireturn dX5_bestParting_5 ⟨by (rw [bpQ, if_pos h1]), by (rw [bpQ, if_pos h1])⟩
theorem hintId0 : hintId 0 = 12 := by decide
theorem hintId1 : hintId 1 = 14 := by decide
theorem hintId2 : hintId 2 = 16 := by decide
def whichC (σ : xS) (P S : Nat) : Int32 := mkI (fun i => allB (agB σ 0 0 (nI i)) S) P
theorem c_X5_which (d : Nat) {E : xE} {σ : xS} {P S : Nat} (hP : σ.1 2 7 = nI P) (hP7 : P ≤ 7) (hS : σ.1 12 2 = nI S) (hS5 : S ≤ 5) : Ct E (d + 5) yX5_which cX5_which 1 (some .int) [.ref (E.1 0)] σ (some (.int (whichC σ P S))) σ := by
  have e13 : xlen 13 = 20 := by decide
  refine Ct.of (by decide +kernel) (Nat.le_of_ble_eq_true rfl) ⟨_, rfl, rfl⟩ ?_
  show Ev E _ RX5 cX5_which 1 _ 0 [some (.ref (E.1 0))] [] _
  refine ev_aload_0 dX5_which_0 ?_
  refine ev_iconst_0 dX5_which_1 ?_
  refine ev_iconst_0 dX5_which_2 ?_
  refine ev_aload_0 dX5_which_3 ?_
  refine ev_get dX5_which_4 fk_X5_10 (by first | assumption | decide) (by decide) rfl ?_
  refine Ev.pc 7 rfl ?_
  refine ev_get dX5_which_7 fk_X5_89 (by first | assumption | decide) (by decide) rfl ?_
  simp only [Nat.reduceAdd]
  refine ev_get dX5_which_10 fk_X5_92 (by first | assumption | decide) (by decide) rfl ?_
  rw [hP]
  refine ev_invV (ci := 5) dX5_which_13 ml_X5_286 mt_X5_agreeing (c_X5_agreeing d (w := 0) (n := S) (c := P) hS (show 4 * S ≤ xlen 13 by omega) hP7) (by first | assumption | decide) (by decide) rfl rfl rfl (rm_ok (by omega)) (Nat.le_of_ble_eq_true rfl) ?_
  refine Ev.pc 16 rfl ?_
  exact ev_ireturn dX5_which_16 ⟨by rfl, by rfl⟩
theorem c_X5_tell (d : Nat) {E : xE} {σ : xS} {P S : Nat} (hP : σ.1 2 7 = nI P) (hP7 : P ≤ 7) (hS : σ.1 12 2 = nI S) (hS5 : S ≤ 5) : Ct E (d + 6) yX5_tell cX5_tell 1 (some .int) [.ref (E.1 0)] σ (some (.int (bpQ σ 0 0 (whichC σ P S) 30).1)) (bpQ σ 0 0 (whichC σ P S) 30).2 := by
  refine Ct.of (by decide +kernel) (Nat.le_of_ble_eq_true rfl) ⟨_, rfl, rfl⟩ ?_
  show Ev E _ RX5 cX5_tell 1 _ 0 [some (.ref (E.1 0))] [] _
  refine ev_aload_0 dX5_tell_0 ?_
  refine ev_iconst_0 dX5_tell_1 ?_
  refine ev_iconst_0 dX5_tell_2 ?_
  refine ev_aload_0 dX5_tell_3 ?_
  refine ev_invV (ci := 5) dX5_tell_4 ml_X5_289 mt_X5_which (c_X5_which d hP hP7 hS hS5) (by first | assumption | decide) (by decide) rfl rfl rfl (rm_ok (by omega)) (Nat.le_of_ble_eq_true rfl) ?_
  refine Ev.pc 7 rfl ?_
  refine ev_bipush (30) dX5_tell_7 rfl ?_
  refine ev_invV (ci := 5) dX5_tell_9 ml_X5_292 mt_X5_bestParting (c_X5_bestParting d (L := 30) (by omega)) (by first | assumption | decide) (by decide) rfl rfl rfl (rm_ok (by omega)) (Nat.le_of_ble_eq_true rfl) ?_
  refine Ev.pc 12 rfl ?_
  exact ev_ireturn dX5_tell_12 ⟨by rfl, by rfl⟩
def isQ (σ : xS) (N : Nat) (p : Int32) : Int32 × xS := if hasIn (σ.1 2 7) p then (mkI (fun i => allB (agB σ 1 p (nI i)) N) 6, σ) else (-2, badS σ)
theorem c_X5_is (d : Nat) {E : xE} {σ : xS} {N : Nat} {p : Int32} (hN : σ.1 14 2 = nI N) (hN6 : N ≤ 6) : Ct E (d + 5) yX5_is cX5_is 2 (some .int) [.ref (E.1 0), .int p] σ (some (.int (isQ σ N p).1)) (isQ σ N p).2 := by
  have e13 : xlen 15 = 24 := by decide
  refine Ct.of (by decide +kernel) (Nat.le_of_ble_eq_true rfl) ⟨_, rfl, rfl⟩ ?_
  show Ev E _ RX5 cX5_is 2 _ 0 [some (.ref (E.1 0)), some (.int p)] [] _
  refine ev_aload_0 dX5_is_0 ?_
  refine ev_get dX5_is_1 fk_X5_10 (by first | assumption | decide) (by decide) rfl ?_
  refine ev_get dX5_is_4 fk_X5_89 (by first | assumption | decide) (by decide) rfl ?_
  simp only [Nat.reduceAdd]
  refine ev_iload_1 dX5_is_7 ?_
  refine ev_invV (ci := 4) dX5_is_8 ml_X5_179 mt_X4_hasPromise (c_X4_hasPromise d (t := 2) town_now.1) (by first | assumption | decide) (by decide) rfl rfl rfl (rm_ok (by omega)) (Nat.le_of_ble_eq_true rfl) ?_
  refine Ev.pc 11 rfl ?_
  refine ev_if_eq 25 dX5_is_11 rfl (fun h11 => ?_) (fun h11 => ?_)
  · refine ev_aload_0 dX5_is_25 ?_
    refine ev_invV (ci := 5) dX5_is_26 ml_X5_102 mt_X5_bad (c_X5_bad d) (by first | assumption | decide) (by decide) rfl rfl rfl (rm_ok (by omega)) (Nat.le_of_ble_eq_true rfl) ?_
    refine Ev.pc 29 rfl ?_
    exact ev_ireturn dX5_is_29 ⟨by ((try simp only [b2i_0, b2i_1, Decidable.not_not] at *); simp only [isQ]; repeat' (first | with_reducible rfl | contradiction | (exfalso; simp_all; done) | split)), by ((try simp only [b2i_0, b2i_1, Decidable.not_not] at *); simp only [isQ, badS]; repeat' (first | with_reducible rfl | contradiction | (exfalso; simp_all; done) | split))⟩
  · refine ev_aload_0 dX5_is_14 ?_
    refine ev_iconst_1 dX5_is_15 ?_
    refine ev_iload_1 dX5_is_16 ?_
    refine ev_bipush (6) dX5_is_17 rfl ?_
    refine ev_invV (ci := 5) dX5_is_19 ml_X5_286 mt_X5_agreeing (c_X5_agreeing d (w := 1) (n := N) (c := 6) hN (show 4 * N ≤ xlen 15 by omega) (by omega)) (by first | assumption | decide) (by decide) rfl rfl rfl (rm_ok (by omega)) (Nat.le_of_ble_eq_true rfl) ?_
    refine Ev.pc 22 rfl ?_
    refine ev_goto 29 dX5_is_22 rfl ?_
    exact ev_ireturn dX5_is_29 ⟨by ((try simp only [b2i_0, b2i_1, Decidable.not_not] at *); simp only [isQ]; repeat' (first | with_reducible rfl | contradiction | (exfalso; simp_all; done) | split)), by ((try simp only [b2i_0, b2i_1, Decidable.not_not] at *); simp only [isQ, badS]; repeat' (first | with_reducible rfl | contradiction | (exfalso; simp_all; done) | split))⟩
def kindsQ (σ : xS) (M : Nat) (h : Int32) : Int32 × xS := if hasIn (σ.1 2 8) h then (mkI (fun i => allB (agB σ 2 h (nI i)) M) 6, σ) else (-2, badS σ)
theorem c_X5_kinds (d : Nat) {E : xE} {σ : xS} {M : Nat} {p : Int32} (hM : σ.1 16 2 = nI M) (hM6 : M ≤ 6) : Ct E (d + 5) yX5_kinds cX5_kinds 2 (some .int) [.ref (E.1 0), .int p] σ (some (.int (kindsQ σ M p).1)) (kindsQ σ M p).2 := by
  have e13 : xlen 17 = 24 := by decide
  refine Ct.of (by decide +kernel) (Nat.le_of_ble_eq_true rfl) ⟨_, rfl, rfl⟩ ?_
  show Ev E _ RX5 cX5_kinds 2 _ 0 [some (.ref (E.1 0)), some (.int p)] [] _
  refine ev_aload_0 dX5_kinds_0 ?_
  refine ev_get dX5_kinds_1 fk_X5_10 (by first | assumption | decide) (by decide) rfl ?_
  refine ev_get dX5_kinds_4 fk_X5_89 (by first | assumption | decide) (by decide) rfl ?_
  simp only [Nat.reduceAdd]
  refine ev_iload_1 dX5_kinds_7 ?_
  refine ev_invV (ci := 4) dX5_kinds_8 ml_X5_200 mt_X4_hasHearer (c_X4_hasHearer d (t := 2) town_now.1) (by first | assumption | decide) (by decide) rfl rfl rfl (rm_ok (by omega)) (Nat.le_of_ble_eq_true rfl) ?_
  refine Ev.pc 11 rfl ?_
  refine ev_if_eq 25 dX5_kinds_11 rfl (fun h11 => ?_) (fun h11 => ?_)
  · refine ev_aload_0 dX5_kinds_25 ?_
    refine ev_invV (ci := 5) dX5_kinds_26 ml_X5_102 mt_X5_bad (c_X5_bad d) (by first | assumption | decide) (by decide) rfl rfl rfl (rm_ok (by omega)) (Nat.le_of_ble_eq_true rfl) ?_
    refine Ev.pc 29 rfl ?_
    exact ev_ireturn dX5_kinds_29 ⟨by ((try simp only [b2i_0, b2i_1, Decidable.not_not] at *); simp only [kindsQ]; repeat' (first | with_reducible rfl | contradiction | (exfalso; simp_all; done) | split)), by ((try simp only [b2i_0, b2i_1, Decidable.not_not] at *); simp only [kindsQ, badS]; repeat' (first | with_reducible rfl | contradiction | (exfalso; simp_all; done) | split))⟩
  · refine ev_aload_0 dX5_kinds_14 ?_
    refine ev_iconst_2 dX5_kinds_15 ?_
    refine ev_iload_1 dX5_kinds_16 ?_
    refine ev_bipush (6) dX5_kinds_17 rfl ?_
    refine ev_invV (ci := 5) dX5_kinds_19 ml_X5_286 mt_X5_agreeing (c_X5_agreeing d (w := 2) (n := M) (c := 6) hM (show 4 * M ≤ xlen 17 by omega) (by omega)) (by first | assumption | decide) (by decide) rfl rfl rfl (rm_ok (by omega)) (Nat.le_of_ble_eq_true rfl) ?_
    refine Ev.pc 22 rfl ?_
    refine ev_goto 29 dX5_kinds_22 rfl ?_
    exact ev_ireturn dX5_kinds_29 ⟨by ((try simp only [b2i_0, b2i_1, Decidable.not_not] at *); simp only [kindsQ]; repeat' (first | with_reducible rfl | contradiction | (exfalso; simp_all; done) | split)), by ((try simp only [b2i_0, b2i_1, Decidable.not_not] at *); simp only [kindsQ, badS]; repeat' (first | with_reducible rfl | contradiction | (exfalso; simp_all; done) | split))⟩
def lookQ (σ : xS) (N : Nat) (p : Int32) : Int32 × xS := if hasIn (σ.1 2 7) p then bpQ σ 1 (xat σ 4 p) (mkI (fun i => allB (agB σ 1 p (nI i)) N) 6) 60 else (-2, badS σ)
theorem c_X5_look (d : Nat) {E : xE} {σ : xS} {N : Nat} {p : Int32} (hN : σ.1 14 2 = nI N) (hN6 : N ≤ 6) : Ct E (d + 5) yX5_look cX5_look 2 (some .int) [.ref (E.1 0), .int p] σ (some (.int (lookQ σ N p).1)) (lookQ σ N p).2 := by
  have e13 : xlen 15 = 24 := by decide
  refine Ct.of (by decide +kernel) (Nat.le_of_ble_eq_true rfl) ⟨_, rfl, rfl⟩ ?_
  show Ev E _ RX5 cX5_look 2 _ 0 [some (.ref (E.1 0)), some (.int p)] [] _
  refine ev_aload_0 dX5_look_0 ?_
  refine ev_get dX5_look_1 fk_X5_10 (by first | assumption | decide) (by decide) rfl ?_
  refine ev_get dX5_look_4 fk_X5_89 (by first | assumption | decide) (by decide) rfl ?_
  simp only [Nat.reduceAdd]
  refine ev_iload_1 dX5_look_7 ?_
  refine ev_invV (ci := 4) dX5_look_8 ml_X5_179 mt_X4_hasPromise (c_X4_hasPromise d (t := 2) town_now.1) (by first | assumption | decide) (by decide) rfl rfl rfl (rm_ok (by omega)) (Nat.le_of_ble_eq_true rfl) ?_
  refine Ev.pc 11 rfl ?_
  refine ev_if_ne 19 dX5_look_11 rfl (fun h11 => ?_) (fun h11 => ?_)
  · refine ev_aload_0 dX5_look_19 ?_
    refine ev_iconst_1 dX5_look_20 ?_
    refine ev_aload_0 dX5_look_21 ?_
    refine ev_get dX5_look_22 fk_X5_10 (by first | assumption | decide) (by decide) rfl ?_
    refine ev_get dX5_look_25 fk_X5_89 (by first | assumption | decide) (by decide) rfl ?_
    simp only [Nat.reduceAdd]
    refine Ev.pc 28 rfl ?_
    refine ev_get dX5_look_28 fk_X5_215 (by first | assumption | decide) (by decide) rfl ?_
    simp only [Nat.reduceAdd]
    refine ev_iload_1 dX5_look_31 ?_
    refine ev_invS dX5_look_32 ml_X5_196 mt_X5_at (c_X5_at d (by first | assumption | decide)) rfl rfl (rm_ok (by omega)) (Nat.le_of_ble_eq_true rfl) ?_
    refine Ev.pc 35 rfl ?_
    refine ev_aload_0 dX5_look_35 ?_
    refine ev_iconst_1 dX5_look_36 ?_
    refine Ev.pc 37 rfl ?_
    refine ev_iload_1 dX5_look_37 ?_
    refine ev_bipush (6) dX5_look_38 rfl ?_
    refine ev_invV (ci := 5) dX5_look_40 ml_X5_286 mt_X5_agreeing (c_X5_agreeing d (w := 1) (n := N) (c := 6) hN (show 4 * N ≤ xlen 15 by omega) (by omega)) (by first | assumption | decide) (by decide) rfl rfl rfl (rm_ok (by omega)) (Nat.le_of_ble_eq_true rfl) ?_
    refine Ev.pc 43 rfl ?_
    refine ev_bipush (60) dX5_look_43 rfl ?_
    refine ev_invV (ci := 5) dX5_look_45 ml_X5_292 mt_X5_bestParting (c_X5_bestParting d (L := 60) (by omega)) (by first | assumption | decide) (by decide) rfl rfl rfl (rm_ok (by omega)) (Nat.le_of_ble_eq_true rfl) ?_
    refine Ev.pc 48 rfl ?_
    exact ev_ireturn dX5_look_48 ⟨by ((try simp only [b2i_0, b2i_1, Decidable.not_not] at *); simp only [lookQ]; repeat' (first | with_reducible rfl | contradiction | (exfalso; simp_all; done) | split)), by ((try simp only [b2i_0, b2i_1, Decidable.not_not] at *); simp only [lookQ, badS]; repeat' (first | with_reducible rfl | contradiction | (exfalso; simp_all; done) | split))⟩
  · refine ev_aload_0 dX5_look_14 ?_
    refine ev_invV (ci := 5) dX5_look_15 ml_X5_102 mt_X5_bad (c_X5_bad d) (by first | assumption | decide) (by decide) rfl rfl rfl (rm_ok (by omega)) (Nat.le_of_ble_eq_true rfl) ?_
    refine Ev.pc 18 rfl ?_
    exact ev_ireturn dX5_look_18 ⟨by ((try simp only [b2i_0, b2i_1, Decidable.not_not] at *); simp only [lookQ]; repeat' (first | with_reducible rfl | contradiction | (exfalso; simp_all; done) | split)), by ((try simp only [b2i_0, b2i_1, Decidable.not_not] at *); simp only [lookQ, badS]; repeat' (first | with_reducible rfl | contradiction | (exfalso; simp_all; done) | split))⟩
def askQ (σ : xS) (M : Nat) (h : Int32) : Int32 × xS := if hasIn (σ.1 2 8) h then bpQ σ 2 (xat σ 8 h) (mkI (fun i => allB (agB σ 2 h (nI i)) M) 6) 30 else (-2, badS σ)
theorem c_X5_ask (d : Nat) {E : xE} {σ : xS} {M : Nat} {p : Int32} (hM : σ.1 16 2 = nI M) (hM6 : M ≤ 6) : Ct E (d + 5) yX5_ask cX5_ask 2 (some .int) [.ref (E.1 0), .int p] σ (some (.int (askQ σ M p).1)) (askQ σ M p).2 := by
  have e13 : xlen 17 = 24 := by decide
  refine Ct.of (by decide +kernel) (Nat.le_of_ble_eq_true rfl) ⟨_, rfl, rfl⟩ ?_
  show Ev E _ RX5 cX5_ask 2 _ 0 [some (.ref (E.1 0)), some (.int p)] [] _
  refine ev_aload_0 dX5_ask_0 ?_
  refine ev_get dX5_ask_1 fk_X5_10 (by first | assumption | decide) (by decide) rfl ?_
  refine ev_get dX5_ask_4 fk_X5_89 (by first | assumption | decide) (by decide) rfl ?_
  simp only [Nat.reduceAdd]
  refine ev_iload_1 dX5_ask_7 ?_
  refine ev_invV (ci := 4) dX5_ask_8 ml_X5_200 mt_X4_hasHearer (c_X4_hasHearer d (t := 2) town_now.1) (by first | assumption | decide) (by decide) rfl rfl rfl (rm_ok (by omega)) (Nat.le_of_ble_eq_true rfl) ?_
  refine Ev.pc 11 rfl ?_
  refine ev_if_ne 19 dX5_ask_11 rfl (fun h11 => ?_) (fun h11 => ?_)
  · refine ev_aload_0 dX5_ask_19 ?_
    refine ev_iconst_2 dX5_ask_20 ?_
    refine ev_aload_0 dX5_ask_21 ?_
    refine ev_get dX5_ask_22 fk_X5_10 (by first | assumption | decide) (by decide) rfl ?_
    refine ev_get dX5_ask_25 fk_X5_89 (by first | assumption | decide) (by decide) rfl ?_
    simp only [Nat.reduceAdd]
    refine Ev.pc 28 rfl ?_
    refine ev_get dX5_ask_28 fk_X5_233 (by first | assumption | decide) (by decide) rfl ?_
    simp only [Nat.reduceAdd]
    refine ev_iload_1 dX5_ask_31 ?_
    refine ev_invS dX5_ask_32 ml_X5_196 mt_X5_at (c_X5_at d (by first | assumption | decide)) rfl rfl (rm_ok (by omega)) (Nat.le_of_ble_eq_true rfl) ?_
    refine Ev.pc 35 rfl ?_
    refine ev_aload_0 dX5_ask_35 ?_
    refine ev_iconst_2 dX5_ask_36 ?_
    refine Ev.pc 37 rfl ?_
    refine ev_iload_1 dX5_ask_37 ?_
    refine ev_bipush (6) dX5_ask_38 rfl ?_
    refine ev_invV (ci := 5) dX5_ask_40 ml_X5_286 mt_X5_agreeing (c_X5_agreeing d (w := 2) (n := M) (c := 6) hM (show 4 * M ≤ xlen 17 by omega) (by omega)) (by first | assumption | decide) (by decide) rfl rfl rfl (rm_ok (by omega)) (Nat.le_of_ble_eq_true rfl) ?_
    refine Ev.pc 43 rfl ?_
    refine ev_bipush (30) dX5_ask_43 rfl ?_
    refine ev_invV (ci := 5) dX5_ask_45 ml_X5_292 mt_X5_bestParting (c_X5_bestParting d (L := 30) (by omega)) (by first | assumption | decide) (by decide) rfl rfl rfl (rm_ok (by omega)) (Nat.le_of_ble_eq_true rfl) ?_
    refine Ev.pc 48 rfl ?_
    exact ev_ireturn dX5_ask_48 ⟨by ((try simp only [b2i_0, b2i_1, Decidable.not_not] at *); simp only [askQ]; repeat' (first | with_reducible rfl | contradiction | (exfalso; simp_all; done) | split)), by ((try simp only [b2i_0, b2i_1, Decidable.not_not] at *); simp only [askQ, badS]; repeat' (first | with_reducible rfl | contradiction | (exfalso; simp_all; done) | split))⟩
  · refine ev_aload_0 dX5_ask_14 ?_
    refine ev_invV (ci := 5) dX5_ask_15 ml_X5_102 mt_X5_bad (c_X5_bad d) (by first | assumption | decide) (by decide) rfl rfl rfl (rm_ok (by omega)) (Nat.le_of_ble_eq_true rfl) ?_
    refine Ev.pc 18 rfl ?_
    exact ev_ireturn dX5_ask_18 ⟨by ((try simp only [b2i_0, b2i_1, Decidable.not_not] at *); simp only [askQ]; repeat' (first | with_reducible rfl | contradiction | (exfalso; simp_all; done) | split)), by ((try simp only [b2i_0, b2i_1, Decidable.not_not] at *); simp only [askQ, badS]; repeat' (first | with_reducible rfl | contradiction | (exfalso; simp_all; done) | split))⟩
/-! bids -/
def fgC (v i j : Int32) : Int32 := if i < j then (if j ≤ 5 then 0 else 1) else v - i / 3
def sgC (v i j : Int32) : Int32 := if j ≤ i then (if i ≤ 5 then 0 else 1) else v - j / 3
theorem c_X5_firstGets (d : Nat) {E : xE} {σ : xS} {v i j : Int32} : Ct E d yX5_firstGets cX5_firstGets 3 (some .int) [.int v, .int i, .int j] σ (some (.int (fgC v i j))) σ := by
  refine Ct.of (by decide +kernel) (Nat.le_of_ble_eq_true rfl) ⟨_, rfl, rfl⟩ ?_
  show Ev E _ RX5 cX5_firstGets 3 _ 0 [some (.int v), some (.int i), some (.int j)] [] _
  refine ev_iload_1 dX5_firstGets_0 ?_
  refine ev_iload_2 dX5_firstGets_1 ?_
  refine ev_icmp_lt 11 dX5_firstGets_2 rfl (fun h2 => ?_) (fun h2 => ?_)
  · refine ev_iload_2 dX5_firstGets_11 ?_
    refine ev_iconst_5 dX5_firstGets_12 ?_
    refine ev_icmp_le 20 dX5_firstGets_13 rfl (fun h13 => ?_) (fun h13 => ?_)
    · refine ev_iconst_0 dX5_firstGets_20 ?_
      exact ev_ireturn dX5_firstGets_21 ⟨by ((try simp only [b2i_0, b2i_1, Decidable.not_not] at *); simp only [fgC]; repeat' (first | with_reducible rfl | contradiction | (exfalso; simp_all; done) | split)), by rfl⟩
    · refine ev_iconst_1 dX5_firstGets_16 ?_
      refine ev_goto 21 dX5_firstGets_17 rfl ?_
      exact ev_ireturn dX5_firstGets_21 ⟨by ((try simp only [b2i_0, b2i_1, Decidable.not_not] at *); simp only [fgC]; repeat' (first | with_reducible rfl | contradiction | (exfalso; simp_all; done) | split)), by rfl⟩
  · refine ev_iload_0 dX5_firstGets_5 ?_
    refine ev_iload_1 dX5_firstGets_6 ?_
    refine ev_iconst_3 dX5_firstGets_7 ?_
    refine ev_idiv dX5_firstGets_8 (by decide) ?_
    refine ev_isub dX5_firstGets_9 ?_
    refine Ev.pc 10 rfl ?_
    exact ev_ireturn dX5_firstGets_10 ⟨by ((try simp only [b2i_0, b2i_1, Decidable.not_not] at *); simp only [fgC]; repeat' (first | with_reducible rfl | contradiction | (exfalso; simp_all; done) | split)), by rfl⟩
theorem c_X5_secondGets (d : Nat) {E : xE} {σ : xS} {v i j : Int32} : Ct E d yX5_secondGets cX5_secondGets 3 (some .int) [.int v, .int i, .int j] σ (some (.int (sgC v i j))) σ := by
  refine Ct.of (by decide +kernel) (Nat.le_of_ble_eq_true rfl) ⟨_, rfl, rfl⟩ ?_
  show Ev E _ RX5 cX5_secondGets 3 _ 0 [some (.int v), some (.int i), some (.int j)] [] _
  refine ev_iload_2 dX5_secondGets_0 ?_
  refine ev_iload_1 dX5_secondGets_1 ?_
  refine ev_icmp_le 11 dX5_secondGets_2 rfl (fun h2 => ?_) (fun h2 => ?_)
  · refine ev_iload_1 dX5_secondGets_11 ?_
    refine ev_iconst_5 dX5_secondGets_12 ?_
    refine ev_icmp_le 20 dX5_secondGets_13 rfl (fun h13 => ?_) (fun h13 => ?_)
    · refine ev_iconst_0 dX5_secondGets_20 ?_
      exact ev_ireturn dX5_secondGets_21 ⟨by ((try simp only [b2i_0, b2i_1, Decidable.not_not] at *); simp only [sgC]; repeat' (first | with_reducible rfl | contradiction | (exfalso; simp_all; done) | split)), by rfl⟩
    · refine ev_iconst_1 dX5_secondGets_16 ?_
      refine ev_goto 21 dX5_secondGets_17 rfl ?_
      exact ev_ireturn dX5_secondGets_21 ⟨by ((try simp only [b2i_0, b2i_1, Decidable.not_not] at *); simp only [sgC]; repeat' (first | with_reducible rfl | contradiction | (exfalso; simp_all; done) | split)), by rfl⟩
  · refine ev_iload_0 dX5_secondGets_5 ?_
    refine ev_iload_2 dX5_secondGets_6 ?_
    refine ev_iconst_3 dX5_secondGets_7 ?_
    refine ev_idiv dX5_secondGets_8 (by decide) ?_
    refine ev_isub dX5_secondGets_9 ?_
    refine Ev.pc 10 rfl ?_
    exact ev_ireturn dX5_secondGets_10 ⟨by ((try simp only [b2i_0, b2i_1, Decidable.not_not] at *); simp only [sgC]; repeat' (first | with_reducible rfl | contradiction | (exfalso; simp_all; done) | split)), by rfl⟩
def rsC (v i j : Int32) (o : Nat) : Bool := !(decide (fgC v i j < fgC v (nI o) j) || decide (sgC v i j < sgC v i (nI o)))
theorem c_X5_rests (d : Nat) {E : xE} {σ : xS} {v i j : Int32} : Ct E (d + 1) yX5_rests cX5_rests 6 (some .boolean) [.int v, .int i, .int j] σ (some (.int (b2i (allB (rsC v i j) 10 = true)))) σ := by
  have loop : ∀ (m r : Nat), r + m = 10 → allB (rsC v i j) r = true → Ev E (rm (d + 1)) RX5 cX5_rests 6 (fun z t => z = some (.int (b2i (allB (rsC v i j) 10 = true))) ∧ t = σ) 18 [some (.int v), some (.int i), some (.int j), some (.int (fgC v i j)), some (.int (sgC v i j)), some (.int (nI r))] [] σ := by
    intro m
    induction m with
    | zero =>
      intro r hr ha
      refine ev_iload_5 dX5_rests_18 ?_
      refine ev_bipush (9) dX5_rests_20 rfl ?_
      refine ev_icmp_gt 56 dX5_rests_22 rfl (fun h22 => ?_) (fun h22 => ?_)
      · refine ev_iconst_1 dX5_rests_56 ?_
        exact ev_ireturn dX5_rests_57 ⟨by exact congrArg (fun z => some (Value.int z)) (b2i_t (by rw [show 10 = r by omega]; exact ha)), by rfl⟩
      · exact absurd (show nI 9 < nI r from nI_lt (by omega) (by omega)) h22
    | succ m ihm =>
      intro r hr ha
      refine ev_iload_5 dX5_rests_18 ?_
      refine ev_bipush (9) dX5_rests_20 rfl ?_
      refine ev_icmp_gt 56 dX5_rests_22 rfl (fun h22 => ?_) (fun h22 => ?_)
      · exact absurd h22 (show ¬ nI 9 < nI r from nI_nlt (by omega) (by omega))
      · refine ev_iload_0 dX5_rests_25 ?_
        refine ev_iload_5 dX5_rests_26 ?_
        refine ev_iload_2 dX5_rests_28 ?_
        refine ev_invS dX5_rests_29 ml_X5_329 mt_X5_firstGets (c_X5_firstGets d) rfl rfl (rm_ok (by omega)) (Nat.le_of_ble_eq_true rfl) ?_
        refine Ev.pc 32 rfl ?_
        refine ev_iload_3 dX5_rests_32 ?_
        refine Ev.pc 33 rfl ?_
        refine ev_icmp_gt 48 dX5_rests_33 rfl (fun h33 => ?_) (fun h33 => ?_)
        · refine ev_iconst_0 dX5_rests_48 ?_
          exact ev_ireturn dX5_rests_49 ⟨by exact congrArg (fun z => some (Value.int z)) (b2i_f (by rw [allB_no (k := r) (by omega) (by rw [rsC]; first | (simp [h33]; done) | (simp only [Int32.not_le] at h45; simp [h45]))]; simp)), by rfl⟩
        · refine ev_iload_0 dX5_rests_36 ?_
          refine ev_iload_1 dX5_rests_37 ?_
          refine ev_iload_5 dX5_rests_38 ?_
          refine ev_invS dX5_rests_40 ml_X5_332 mt_X5_secondGets (c_X5_secondGets d) rfl rfl (rm_ok (by omega)) (Nat.le_of_ble_eq_true rfl) ?_
          refine Ev.pc 43 rfl ?_
          refine ev_iload_4 dX5_rests_43 ?_
          refine Ev.pc 45 rfl ?_
          refine ev_icmp_le 50 dX5_rests_45 rfl (fun h45 => ?_) (fun h45 => ?_)
          · refine ev_iinc_5 (1) dX5_rests_50 rfl rfl ?_
            refine ev_goto 18 dX5_rests_53 rfl ?_
            rw [nI_1]
            exact ihm (r + 1) (by omega) (by rw [allB, ha, rsC]; simp only [Int32.not_lt] at h33; simp [h33, h45, Int32.not_lt])
          · refine ev_iconst_0 dX5_rests_48 ?_
            exact ev_ireturn dX5_rests_49 ⟨by exact congrArg (fun z => some (Value.int z)) (b2i_f (by rw [allB_no (k := r) (by omega) (by rw [rsC]; first | (simp [h33]; done) | (simp only [Int32.not_le] at h45; simp [h45]))]; simp)), by rfl⟩
  refine Ct.of (by decide +kernel) (Nat.le_of_ble_eq_true rfl) ⟨_, rfl, nb_b2i _⟩ ?_
  show Ev E _ RX5 cX5_rests 6 _ 0 [some (.int v), some (.int i), some (.int j), none, none, none] [] _
  refine ev_iload_0 dX5_rests_0 ?_
  refine ev_iload_1 dX5_rests_1 ?_
  refine ev_iload_2 dX5_rests_2 ?_
  refine ev_invS dX5_rests_3 ml_X5_329 mt_X5_firstGets (c_X5_firstGets d) rfl rfl (rm_ok (by omega)) (Nat.le_of_ble_eq_true rfl) ?_
  refine Ev.pc 6 rfl ?_
  refine ev_istore_3 dX5_rests_6 rfl ?_
  refine Ev.pc 7 rfl ?_
  refine ev_iload_0 dX5_rests_7 ?_
  refine ev_iload_1 dX5_rests_8 ?_
  refine ev_iload_2 dX5_rests_9 ?_
  refine ev_invS dX5_rests_10 ml_X5_332 mt_X5_secondGets (c_X5_secondGets d) rfl rfl (rm_ok (by omega)) (Nat.le_of_ble_eq_true rfl) ?_
  refine Ev.pc 13 rfl ?_
  refine ev_istore_4 dX5_rests_13 rfl ?_
  refine Ev.pc 15 rfl ?_
  refine ev_iconst_0 dX5_rests_15 ?_
  refine ev_istore_5 dX5_rests_16 rfl ?_
  exact loop 10 0 (by omega) rfl
def bdR (rest : Nat → Bool) (k : Int32) : Nat → Nat → Int32 → Int32
  | 0, _, f => if k = -1 then f else -5
  | n + 1, q, f => if rest q then (if f = k then nI q else bdR rest k n (q + 1) (f + 1)) else bdR rest k n (q + 1) f
def bidsV (v k : Int32) : Int32 := bdR (fun q => allB (rsC v (nI (q / 10)) (nI (q % 10))) 10) k 100 0 0
def bidsQ (σ : xS) (a b p h k : Int32) : Int32 × xS :=
  if hasIn (σ.1 2 9) a then if hasIn (σ.1 2 9) b then if a = b then (-10, badS σ) else if -1 ≤ k then if hasIn (σ.1 2 7) p then if hasIn (σ.1 2 8) h then (bidsV (jB σ 2 p h) k, σ) else (-10, badS σ) else (-10, badS σ) else (-10, badS σ) else (-10, badS σ) else (-10, badS σ)
theorem c_X5_bids (d : Nat) {E : xE} {σ : xS} {a b p h k : Int32} : Ct E (d + 4) yX5_bids cX5_bids 11 (some .int) [.ref (E.1 0), .int a, .int b, .int p, .int h, .int k] σ (some (.int (bidsQ σ a b p h k).1)) (bidsQ σ a b p h k).2 := by
  have loop2 : ∀ (F : Option Value → xS → Prop) (v : Int32) (i m0 : Nat) (R : Int32), i < 10 → F (some (.int R)) σ → (∀ f, R = bdR (fun q => allB (rsC v (nI (q / 10)) (nI (q % 10))) 10) k m0 (10 * (i + 1)) f → Ev E (rm (d + 4)) RX5 cX5_bids 11 F 141 [some (.ref (E.1 0)), some (.int a), some (.int b), some (.int p), some (.int h), some (.int k), some (.ref (E.1 2)), some (.int v), some (.int f), some (.int (nI i)), some (.int (nI 10))] [] σ) → ∀ (n j : Nat) (f : Int32), j + n = 10 → R = bdR (fun q => allB (rsC v (nI (q / 10)) (nI (q % 10))) 10) k (n + m0) (10 * i + j) f → Ev E (rm (d + 4)) RX5 cX5_bids 11 F 97 [some (.ref (E.1 0)), some (.int a), some (.int b), some (.int p), some (.int h), some (.int k), some (.ref (E.1 2)), some (.int v), some (.int f), some (.int (nI i)), some (.int (nI j))] [] σ := by
    intro F v i m0 R hi hR hF n
    induction n with
    | zero =>
      intro j f hj hf
      obtain rfl : j = 10 := by omega
      refine ev_iload_10 dX5_bids_97 ?_
      refine ev_bipush (9) dX5_bids_99 rfl ?_
      refine ev_icmp_gt 141 dX5_bids_101 rfl (fun h101 => ?_) (fun h101 => ?_)
      · exact hF f (by rw [hf, Nat.zero_add, show 10 * (i + 1) = 10 * i + 10 by omega])
      · exact absurd (show nI 9 < nI 10 from nI_lt (by omega) (by omega)) h101
    | succ n ihn =>
      intro j f hj hf
      rw [show n + 1 + m0 = (n + m0) + 1 by omega, bdR, show (10 * i + j) / 10 = i by omega, show (10 * i + j) % 10 = j by omega] at hf
      refine ev_iload_10 dX5_bids_97 ?_
      refine ev_bipush (9) dX5_bids_99 rfl ?_
      refine ev_icmp_gt 141 dX5_bids_101 rfl (fun h101 => ?_) (fun h101 => ?_)
      · exact absurd h101 (show ¬ nI 9 < nI j from nI_nlt (by omega) (by omega))
      · refine ev_iload_7 dX5_bids_104 ?_
        refine ev_iload_9 dX5_bids_106 ?_
        refine ev_iload_10 dX5_bids_108 ?_
        refine ev_invS dX5_bids_110 ml_X5_326 mt_X5_rests (c_X5_rests d) rfl rfl (rm_ok (by omega)) (Nat.le_of_ble_eq_true rfl) ?_
        refine Ev.pc 113 rfl ?_
        refine ev_if_eq 135 dX5_bids_113 rfl (fun h113 => ?_) (fun h113 => ?_)
        · have g := b2i_0.mp h113
          refine ev_iinc_10 (1) dX5_bids_135 rfl rfl ?_
          refine ev_goto 97 dX5_bids_138 rfl ?_
          rw [nI_1]
          exact ihn (j + 1) _ (by omega) (by first | (rw [if_neg g] at hf; exact hf) | (rw [if_pos g, if_neg h120] at hf; exact hf))
        · have g := Decidable.not_not.mp (fun h => h113 (b2i_0.mpr h))
          refine ev_iload_8 dX5_bids_116 ?_
          refine ev_iload_5 dX5_bids_118 ?_
          refine ev_icmp_ne 132 dX5_bids_120 rfl (fun h120 => ?_) (fun h120 => ?_)
          · refine ev_iinc_8 (1) dX5_bids_132 rfl rfl ?_
            refine ev_iinc_10 (1) dX5_bids_135 rfl rfl ?_
            refine ev_goto 97 dX5_bids_138 rfl ?_
            rw [nI_1]
            exact ihn (j + 1) _ (by omega) (by first | (rw [if_neg g] at hf; exact hf) | (rw [if_pos g, if_neg h120] at hf; exact hf))
          · refine ev_bipush (10) dX5_bids_123 rfl ?_
            refine ev_iload_9 dX5_bids_125 ?_
            refine ev_imul dX5_bids_127 ?_
            refine ev_iload_10 dX5_bids_128 ?_
            refine ev_iadd dX5_bids_130 ?_
            refine Ev.pc 131 rfl ?_
            exact ev_ireturn dX5_bids_131 (by (rw [if_pos g, if_pos h120] at hf; rw [show (10 : Int32) = nI 10 from rfl, pk_mul, nI_add, ← hf]; exact hR))
  have loop : ∀ (F : Option Value → xS → Prop) (v : Int32) (R : Int32), F (some (.int R)) σ → ∀ (n i : Nat) (f : Int32) (x10 : Option Value), i + n = 10 → R = bdR (fun q => allB (rsC v (nI (q / 10)) (nI (q % 10))) 10) k (10 * n) (10 * i) f → Ev E (rm (d + 4)) RX5 cX5_bids 11 F 87 [some (.ref (E.1 0)), some (.int a), some (.int b), some (.int p), some (.int h), some (.int k), some (.ref (E.1 2)), some (.int v), some (.int f), some (.int (nI i)), x10] [] σ := by
    intro F v R hR n
    induction n with
    | zero =>
      intro i f x10 hi hf
      refine ev_iload_9 dX5_bids_87 ?_
      refine ev_bipush (9) dX5_bids_89 rfl ?_
      refine ev_icmp_gt 147 dX5_bids_91 rfl (fun h91 => ?_) (fun h91 => ?_)
      · refine ev_iload_5 dX5_bids_147 ?_
        refine ev_iconst_m1 dX5_bids_149 ?_
        refine ev_icmp_ne 158 dX5_bids_150 rfl (fun h150 => ?_) (fun h150 => ?_)
        · refine ev_bipush (-5) dX5_bids_158 rfl ?_
          exact ev_ireturn dX5_bids_160 (by (rw [Nat.mul_zero, bdR] at hf; first | (rw [if_pos h150] at hf; rw [← hf]; exact hR) | (rw [if_neg h150] at hf; rw [← hf]; exact hR)))
        · refine ev_iload_8 dX5_bids_153 ?_
          refine ev_goto 160 dX5_bids_155 rfl ?_
          exact ev_ireturn dX5_bids_160 (by (rw [Nat.mul_zero, bdR] at hf; first | (rw [if_pos h150] at hf; rw [← hf]; exact hR) | (rw [if_neg h150] at hf; rw [← hf]; exact hR)))
      · exact absurd (show nI 9 < nI i from nI_lt (by omega) (by omega)) h91
    | succ n ihn =>
      intro i f x10 hi hf
      refine ev_iload_9 dX5_bids_87 ?_
      refine ev_bipush (9) dX5_bids_89 rfl ?_
      refine ev_icmp_gt 147 dX5_bids_91 rfl (fun h91 => ?_) (fun h91 => ?_)
      · exact absurd h91 (show ¬ nI 9 < nI i from nI_nlt (by omega) (by omega))
      · refine ev_iconst_0 dX5_bids_94 ?_
        refine ev_istore_10 dX5_bids_95 rfl ?_
        refine loop2 F v i (10 * n) R (by omega) hR (fun f hf => ?_) 10 0 _ (by omega) (by rw [hf, show 10 * (n + 1) = 10 + 10 * n by omega]; rfl)
        refine ev_iinc_9 (1) dX5_bids_141 rfl rfl ?_
        refine ev_goto 87 dX5_bids_144 rfl ?_
        rw [nI_1]
        exact ihn (i + 1) f _ (by omega) hf
  refine Ct.of (by decide +kernel) (Nat.le_of_ble_eq_true rfl) ⟨_, rfl, rfl⟩ ?_
  show Ev E _ RX5 cX5_bids 11 _ 0 [some (.ref (E.1 0)), some (.int a), some (.int b), some (.int p), some (.int h), some (.int k), none, none, none, none, none] [] _
  refine ev_aload_0 dX5_bids_0 ?_
  refine ev_get dX5_bids_1 fk_X5_10 (by first | assumption | decide) (by decide) rfl ?_
  refine ev_get dX5_bids_4 fk_X5_89 (by first | assumption | decide) (by decide) rfl ?_
  simp only [Nat.reduceAdd]
  refine ev_astore_6 dX5_bids_7 rfl ?_
  refine ev_aload_6 dX5_bids_9 ?_
  refine Ev.pc 11 rfl ?_
  refine ev_iload_1 dX5_bids_11 ?_
  refine ev_invV (ci := 4) dX5_bids_12 ml_X5_175 mt_X4_hasBuyer (c_X4_hasBuyer d (t := 2) town_now.1) (by first | assumption | decide) (by decide) rfl rfl rfl (rm_ok (by omega)) (Nat.le_of_ble_eq_true rfl) ?_
  refine Ev.pc 15 rfl ?_
  refine ev_if_eq 38 dX5_bids_15 rfl (fun h15 => ?_) (fun h15 => ?_)
  · refine ev_aload_0 dX5_bids_38 ?_
    refine ev_bipush (-10) dX5_bids_39 rfl ?_
    refine ev_invV (ci := 5) dX5_bids_41 ml_X5_73 mt_X5_bad_ (c_X5_bad_ d) (by first | assumption | decide) (by decide) rfl rfl rfl (rm_ok (by omega)) (Nat.le_of_ble_eq_true rfl) ?_
    refine Ev.pc 44 rfl ?_
    exact ev_ireturn dX5_bids_44 ⟨by ((try simp only [b2i_0, b2i_1, Decidable.not_not] at *); simp only [bidsQ]; repeat' (first | with_reducible rfl | contradiction | (exfalso; simp_all; done) | split)), by ((try simp only [b2i_0, b2i_1, Decidable.not_not] at *); simp only [bidsQ, badS]; repeat' (first | with_reducible rfl | contradiction | (exfalso; simp_all; done) | split))⟩
  · refine ev_aload_6 dX5_bids_18 ?_
    refine ev_iload_2 dX5_bids_20 ?_
    refine ev_invV (ci := 4) dX5_bids_21 ml_X5_175 mt_X4_hasBuyer (c_X4_hasBuyer d (t := 2) town_now.1) (by first | assumption | decide) (by decide) rfl rfl rfl (rm_ok (by omega)) (Nat.le_of_ble_eq_true rfl) ?_
    refine Ev.pc 24 rfl ?_
    refine ev_if_eq 38 dX5_bids_24 rfl (fun h24 => ?_) (fun h24 => ?_)
    · refine ev_aload_0 dX5_bids_38 ?_
      refine ev_bipush (-10) dX5_bids_39 rfl ?_
      refine ev_invV (ci := 5) dX5_bids_41 ml_X5_73 mt_X5_bad_ (c_X5_bad_ d) (by first | assumption | decide) (by decide) rfl rfl rfl (rm_ok (by omega)) (Nat.le_of_ble_eq_true rfl) ?_
      refine Ev.pc 44 rfl ?_
      exact ev_ireturn dX5_bids_44 ⟨by ((try simp only [b2i_0, b2i_1, Decidable.not_not] at *); simp only [bidsQ]; repeat' (first | with_reducible rfl | contradiction | (exfalso; simp_all; done) | split)), by ((try simp only [b2i_0, b2i_1, Decidable.not_not] at *); simp only [bidsQ, badS]; repeat' (first | with_reducible rfl | contradiction | (exfalso; simp_all; done) | split))⟩
    · refine ev_iload_1 dX5_bids_27 ?_
      refine ev_iload_2 dX5_bids_28 ?_
      refine ev_icmp_eq 38 dX5_bids_29 rfl (fun h29 => ?_) (fun h29 => ?_)
      · refine ev_aload_0 dX5_bids_38 ?_
        refine ev_bipush (-10) dX5_bids_39 rfl ?_
        refine ev_invV (ci := 5) dX5_bids_41 ml_X5_73 mt_X5_bad_ (c_X5_bad_ d) (by first | assumption | decide) (by decide) rfl rfl rfl (rm_ok (by omega)) (Nat.le_of_ble_eq_true rfl) ?_
        refine Ev.pc 44 rfl ?_
        exact ev_ireturn dX5_bids_44 ⟨by ((try simp only [b2i_0, b2i_1, Decidable.not_not] at *); simp only [bidsQ]; repeat' (first | with_reducible rfl | contradiction | (exfalso; simp_all; done) | split)), by ((try simp only [b2i_0, b2i_1, Decidable.not_not] at *); simp only [bidsQ, badS]; repeat' (first | with_reducible rfl | contradiction | (exfalso; simp_all; done) | split))⟩
      · refine ev_iload_5 dX5_bids_32 ?_
        refine ev_iconst_m1 dX5_bids_34 ?_
        refine ev_icmp_ge 45 dX5_bids_35 rfl (fun h35 => ?_) (fun h35 => ?_)
        · refine ev_aload_6 dX5_bids_45 ?_
          refine ev_iload_3 dX5_bids_47 ?_
          refine ev_invV (ci := 4) dX5_bids_48 ml_X5_179 mt_X4_hasPromise (c_X4_hasPromise d (t := 2) town_now.1) (by first | assumption | decide) (by decide) rfl rfl rfl (rm_ok (by omega)) (Nat.le_of_ble_eq_true rfl) ?_
          refine Ev.pc 51 rfl ?_
          refine ev_if_eq 64 dX5_bids_51 rfl (fun h51 => ?_) (fun h51 => ?_)
          · refine ev_aload_0 dX5_bids_64 ?_
            refine ev_bipush (-10) dX5_bids_65 rfl ?_
            refine ev_invV (ci := 5) dX5_bids_67 ml_X5_73 mt_X5_bad_ (c_X5_bad_ d) (by first | assumption | decide) (by decide) rfl rfl rfl (rm_ok (by omega)) (Nat.le_of_ble_eq_true rfl) ?_
            refine Ev.pc 70 rfl ?_
            exact ev_ireturn dX5_bids_70 ⟨by ((try simp only [b2i_0, b2i_1, Decidable.not_not] at *); simp only [bidsQ]; repeat' (first | with_reducible rfl | contradiction | (exfalso; simp_all; done) | split)), by ((try simp only [b2i_0, b2i_1, Decidable.not_not] at *); simp only [bidsQ, badS]; repeat' (first | with_reducible rfl | contradiction | (exfalso; simp_all; done) | split))⟩
          · refine ev_aload_6 dX5_bids_54 ?_
            refine ev_iload_4 dX5_bids_56 ?_
            refine ev_invV (ci := 4) dX5_bids_58 ml_X5_200 mt_X4_hasHearer (c_X4_hasHearer d (t := 2) town_now.1) (by first | assumption | decide) (by decide) rfl rfl rfl (rm_ok (by omega)) (Nat.le_of_ble_eq_true rfl) ?_
            refine Ev.pc 61 rfl ?_
            refine ev_if_ne 71 dX5_bids_61 rfl (fun h61 => ?_) (fun h61 => ?_)
            · refine ev_aload_6 dX5_bids_71 ?_
              refine ev_iload_3 dX5_bids_73 ?_
              refine ev_iload_4 dX5_bids_74 ?_
              refine ev_invV (ci := 4) dX5_bids_76 ml_X5_239 mt_X4_joyTo (c_X4_joyTo d (t := 2) town_now) (by first | assumption | decide) (by decide) rfl rfl rfl (rm_ok (by omega)) (Nat.le_of_ble_eq_true rfl) ?_
              refine Ev.pc 79 rfl ?_
              refine ev_istore_7 dX5_bids_79 rfl ?_
              refine Ev.pc 81 rfl ?_
              refine ev_iconst_0 dX5_bids_81 ?_
              refine ev_istore_8 dX5_bids_82 rfl ?_
              refine ev_iconst_0 dX5_bids_84 ?_
              refine ev_istore_9 dX5_bids_85 rfl ?_
              refine loop _ _ (bidsV (jB σ 2 p h) k) ⟨by ((try simp only [b2i_0, b2i_1, Decidable.not_not] at *); simp only [bidsQ]; repeat' (first | with_reducible rfl | contradiction | (exfalso; simp_all; done) | split)), by ((try simp only [b2i_0, b2i_1, Decidable.not_not] at *); simp only [bidsQ]; repeat' (first | with_reducible rfl | contradiction | (exfalso; simp_all; done) | split))⟩ 10 0 0 _ (by omega) rfl
            · refine ev_aload_0 dX5_bids_64 ?_
              refine ev_bipush (-10) dX5_bids_65 rfl ?_
              refine ev_invV (ci := 5) dX5_bids_67 ml_X5_73 mt_X5_bad_ (c_X5_bad_ d) (by first | assumption | decide) (by decide) rfl rfl rfl (rm_ok (by omega)) (Nat.le_of_ble_eq_true rfl) ?_
              refine Ev.pc 70 rfl ?_
              exact ev_ireturn dX5_bids_70 ⟨by ((try simp only [b2i_0, b2i_1, Decidable.not_not] at *); simp only [bidsQ]; repeat' (first | with_reducible rfl | contradiction | (exfalso; simp_all; done) | split)), by ((try simp only [b2i_0, b2i_1, Decidable.not_not] at *); simp only [bidsQ, badS]; repeat' (first | with_reducible rfl | contradiction | (exfalso; simp_all; done) | split))⟩
        · refine ev_aload_0 dX5_bids_38 ?_
          refine ev_bipush (-10) dX5_bids_39 rfl ?_
          refine ev_invV (ci := 5) dX5_bids_41 ml_X5_73 mt_X5_bad_ (c_X5_bad_ d) (by first | assumption | decide) (by decide) rfl rfl rfl (rm_ok (by omega)) (Nat.le_of_ble_eq_true rfl) ?_
          refine Ev.pc 44 rfl ?_
          exact ev_ireturn dX5_bids_44 ⟨by ((try simp only [b2i_0, b2i_1, Decidable.not_not] at *); simp only [bidsQ]; repeat' (first | with_reducible rfl | contradiction | (exfalso; simp_all; done) | split)), by ((try simp only [b2i_0, b2i_1, Decidable.not_not] at *); simp only [bidsQ, badS]; repeat' (first | with_reducible rfl | contradiction | (exfalso; simp_all; done) | split))⟩
