/-! the reference: bids -/
theorem allB_F {g : Nat → Bool} {n : Nat} (h : allB g n = false) : ∀ m, allB g (n + m) = false
  | 0 => h
  | m + 1 => by rw [Nat.add_succ]; show (allB g (n + m) && g (n + m)) = false; rw [allB_F h m]; rfl
theorem c_X6_getsBy1 (d : Nat) {E : xE} {σ : xS} {o u v : Int32} : Ct E d yX6_getsBy cX6_getsBy 5 (some .int) [.int o, .int u, .int 1, .int v] σ (some (.int (fgC v o u))) σ := by
  by_cases q7 : o < u
  · rw [fgC, if_pos q7]
    refine Ct.of (by decide +kernel) (Nat.le_of_ble_eq_true rfl) ⟨_, rfl, rfl⟩ ?_
    show Ev E _ RX6 cX6_getsBy 5 _ 0 [some (.int o), some (.int u), some (.int 1), some (.int v), none] [] _
    refine ev_iload_0 dX6_getsBy_0 ?_
    refine ev_iload_1 dX6_getsBy_1 ?_
    refine ev_icmp_gt 14 dX6_getsBy_2 rfl (fun h2 => ?_) (fun h2 => ?_)
    · exact absurd q7 (Int32.not_lt.mpr (Int32.le_of_lt h2))
    · refine ev_iload_0 dX6_getsBy_5 ?_
      refine ev_iload_1 dX6_getsBy_6 ?_
      refine ev_icmp_ne 18 dX6_getsBy_7 rfl (fun h7 => ?_) (fun h7 => ?_)
      · refine ev_iconst_0 dX6_getsBy_18 ?_
        refine ev_istore_4 dX6_getsBy_19 rfl ?_
        refine ev_iload_4 dX6_getsBy_21 ?_
        refine ev_if_eq 34 dX6_getsBy_23 rfl (fun h23 => ?_) (fun h23 => ?_)
        · refine ev_iload_1 dX6_getsBy_34 ?_
          refine ev_iconst_5 dX6_getsBy_35 ?_
          refine ev_icmp_le 43 dX6_getsBy_36 rfl (fun h36 => ?_) (fun h36 => ?_)
          · refine ev_iconst_0 dX6_getsBy_43 ?_
            exact ev_ireturn dX6_getsBy_44 ⟨by (first | rw [if_pos h36] | rw [if_neg h36]), by rfl⟩
          · refine ev_iconst_1 dX6_getsBy_39 ?_
            refine ev_goto 44 dX6_getsBy_40 rfl ?_
            exact ev_ireturn dX6_getsBy_44 ⟨by (first | rw [if_pos h36] | rw [if_neg h36]), by rfl⟩
        · exact absurd rfl h23
      · exact absurd q7 (by rw [h7]; exact Int32.lt_irrefl)
  · rw [fgC, if_neg q7]
    refine Ct.of (by decide +kernel) (Nat.le_of_ble_eq_true rfl) ⟨_, rfl, rfl⟩ ?_
    show Ev E _ RX6 cX6_getsBy 5 _ 0 [some (.int o), some (.int u), some (.int 1), some (.int v), none] [] _
    refine ev_iload_0 dX6_getsBy_0 ?_
    refine ev_iload_1 dX6_getsBy_1 ?_
    refine ev_icmp_gt 14 dX6_getsBy_2 rfl (fun h2 => ?_) (fun h2 => ?_)
    · refine ev_iconst_1 dX6_getsBy_14 ?_
      refine ev_goto 19 dX6_getsBy_15 rfl ?_
      refine ev_istore_4 dX6_getsBy_19 rfl ?_
      refine ev_iload_4 dX6_getsBy_21 ?_
      refine ev_if_eq 34 dX6_getsBy_23 rfl (fun h23 => ?_) (fun h23 => ?_)
      · exact absurd h23 (by decide)
      · refine ev_iload_3 dX6_getsBy_26 ?_
        refine ev_iload_0 dX6_getsBy_27 ?_
        refine ev_iconst_3 dX6_getsBy_28 ?_
        refine ev_idiv dX6_getsBy_29 (by decide) ?_
        refine ev_isub dX6_getsBy_30 ?_
        refine Ev.pc 31 rfl ?_
        refine ev_goto 44 dX6_getsBy_31 rfl ?_
        exact ev_ireturn dX6_getsBy_44 ⟨by rfl, by rfl⟩
    · refine ev_iload_0 dX6_getsBy_5 ?_
      refine ev_iload_1 dX6_getsBy_6 ?_
      refine ev_icmp_ne 18 dX6_getsBy_7 rfl (fun h7 => ?_) (fun h7 => ?_)
      · exact absurd (Int32.lt_of_le_of_ne (Int32.not_lt.mp h2) h7) q7
      · refine ev_iload_2 dX6_getsBy_10 ?_
        refine ev_if_eq 18 dX6_getsBy_11 rfl (fun h11 => ?_) (fun h11 => ?_)
        · exact absurd h11 (by decide)
        · refine ev_iconst_1 dX6_getsBy_14 ?_
          refine ev_goto 19 dX6_getsBy_15 rfl ?_
          refine ev_istore_4 dX6_getsBy_19 rfl ?_
          refine ev_iload_4 dX6_getsBy_21 ?_
          refine ev_if_eq 34 dX6_getsBy_23 rfl (fun h23 => ?_) (fun h23 => ?_)
          · exact absurd h23 (by decide)
          · refine ev_iload_3 dX6_getsBy_26 ?_
            refine ev_iload_0 dX6_getsBy_27 ?_
            refine ev_iconst_3 dX6_getsBy_28 ?_
            refine ev_idiv dX6_getsBy_29 (by decide) ?_
            refine ev_isub dX6_getsBy_30 ?_
            refine Ev.pc 31 rfl ?_
            refine ev_goto 44 dX6_getsBy_31 rfl ?_
            exact ev_ireturn dX6_getsBy_44 ⟨by rfl, by rfl⟩
theorem c_X6_getsBy0 (d : Nat) {E : xE} {σ : xS} {o u v : Int32} : Ct E d yX6_getsBy cX6_getsBy 5 (some .int) [.int o, .int u, .int 0, .int v] σ (some (.int (sgC v u o))) σ := by
  by_cases q7 : o ≤ u
  · rw [sgC, if_pos q7]
    refine Ct.of (by decide +kernel) (Nat.le_of_ble_eq_true rfl) ⟨_, rfl, rfl⟩ ?_
    show Ev E _ RX6 cX6_getsBy 5 _ 0 [some (.int o), some (.int u), some (.int 0), some (.int v), none] [] _
    refine ev_iload_0 dX6_getsBy_0 ?_
    refine ev_iload_1 dX6_getsBy_1 ?_
    refine ev_icmp_gt 14 dX6_getsBy_2 rfl (fun h2 => ?_) (fun h2 => ?_)
    · exact absurd q7 (Int32.not_le.mpr h2)
    · refine ev_iload_0 dX6_getsBy_5 ?_
      refine ev_iload_1 dX6_getsBy_6 ?_
      refine ev_icmp_ne 18 dX6_getsBy_7 rfl (fun h7 => ?_) (fun h7 => ?_)
      · refine ev_iconst_0 dX6_getsBy_18 ?_
        refine ev_istore_4 dX6_getsBy_19 rfl ?_
        refine ev_iload_4 dX6_getsBy_21 ?_
        refine ev_if_eq 34 dX6_getsBy_23 rfl (fun h23 => ?_) (fun h23 => ?_)
        · refine ev_iload_1 dX6_getsBy_34 ?_
          refine ev_iconst_5 dX6_getsBy_35 ?_
          refine ev_icmp_le 43 dX6_getsBy_36 rfl (fun h36 => ?_) (fun h36 => ?_)
          · refine ev_iconst_0 dX6_getsBy_43 ?_
            exact ev_ireturn dX6_getsBy_44 ⟨by (first | rw [if_pos h36] | rw [if_neg h36]), by rfl⟩
          · refine ev_iconst_1 dX6_getsBy_39 ?_
            refine ev_goto 44 dX6_getsBy_40 rfl ?_
            exact ev_ireturn dX6_getsBy_44 ⟨by (first | rw [if_pos h36] | rw [if_neg h36]), by rfl⟩
        · exact absurd rfl h23
      · refine ev_iload_2 dX6_getsBy_10 ?_
        refine ev_if_eq 18 dX6_getsBy_11 rfl (fun h11 => ?_) (fun h11 => ?_)
        · refine ev_iconst_0 dX6_getsBy_18 ?_
          refine ev_istore_4 dX6_getsBy_19 rfl ?_
          refine ev_iload_4 dX6_getsBy_21 ?_
          refine ev_if_eq 34 dX6_getsBy_23 rfl (fun h23 => ?_) (fun h23 => ?_)
          · refine ev_iload_1 dX6_getsBy_34 ?_
            refine ev_iconst_5 dX6_getsBy_35 ?_
            refine ev_icmp_le 43 dX6_getsBy_36 rfl (fun h36 => ?_) (fun h36 => ?_)
            · refine ev_iconst_0 dX6_getsBy_43 ?_
              exact ev_ireturn dX6_getsBy_44 ⟨by (first | rw [if_pos h36] | rw [if_neg h36]), by rfl⟩
            · refine ev_iconst_1 dX6_getsBy_39 ?_
              refine ev_goto 44 dX6_getsBy_40 rfl ?_
              exact ev_ireturn dX6_getsBy_44 ⟨by (first | rw [if_pos h36] | rw [if_neg h36]), by rfl⟩
          · exact absurd rfl h23
        · exact absurd rfl h11
  · rw [sgC, if_neg q7]
    refine Ct.of (by decide +kernel) (Nat.le_of_ble_eq_true rfl) ⟨_, rfl, rfl⟩ ?_
    show Ev E _ RX6 cX6_getsBy 5 _ 0 [some (.int o), some (.int u), some (.int 0), some (.int v), none] [] _
    refine ev_iload_0 dX6_getsBy_0 ?_
    refine ev_iload_1 dX6_getsBy_1 ?_
    refine ev_icmp_gt 14 dX6_getsBy_2 rfl (fun h2 => ?_) (fun h2 => ?_)
    · refine ev_iconst_1 dX6_getsBy_14 ?_
      refine ev_goto 19 dX6_getsBy_15 rfl ?_
      refine ev_istore_4 dX6_getsBy_19 rfl ?_
      refine ev_iload_4 dX6_getsBy_21 ?_
      refine ev_if_eq 34 dX6_getsBy_23 rfl (fun h23 => ?_) (fun h23 => ?_)
      · exact absurd h23 (by decide)
      · refine ev_iload_3 dX6_getsBy_26 ?_
        refine ev_iload_0 dX6_getsBy_27 ?_
        refine ev_iconst_3 dX6_getsBy_28 ?_
        refine ev_idiv dX6_getsBy_29 (by decide) ?_
        refine ev_isub dX6_getsBy_30 ?_
        refine Ev.pc 31 rfl ?_
        refine ev_goto 44 dX6_getsBy_31 rfl ?_
        exact ev_ireturn dX6_getsBy_44 ⟨by rfl, by rfl⟩
    · exact absurd (Int32.not_le.mp q7) h2
theorem rsC_no1 {v i j : Int32} {r : Nat} (h : fgC v i j < fgC v (nI r) j) : rsC v i j r = false := by rw [rsC, decide_eq_true h]; rfl
theorem rsC_no2 {v i j : Int32} {r : Nat} (h : sgC v i j < sgC v i (nI r)) : rsC v i j r = false := by rw [rsC, decide_eq_true h, Bool.or_true]; rfl
theorem rsC_yes {v i j : Int32} {r : Nat} (h : ¬ fgC v i j < fgC v (nI r) j) (h2 : ¬ sgC v i j < sgC v i (nI r)) : rsC v i j r = true := by rw [rsC, decide_eq_false h, decide_eq_false h2]; rfl
theorem c_X6_rests (d : Nat) {E : xE} {σ : xS} {v i j : Int32} : Ct E (d + 1) yX6_rests cX6_rests 5 (some .boolean) [.int i, .int j, .int v] σ (some (.int (b2i (allB (rsC v i j) 10 = true)))) σ := by
  have loop : ∀ (m r : Nat) (x : Int32), r + m = 10 → x = b2i (allB (rsC v i j) r = true) → Ev E (rm (d + 1)) RX6 cX6_rests 5 (fun z t => z = some (.int (b2i (allB (rsC v i j) 10 = true))) ∧ t = σ) 5 [some (.int i), some (.int j), some (.int v), some (.int x), some (.int (nI r))] [] σ := by
    intro m
    induction m with
    | zero =>
      intro r x hr hx
      refine ev_iload_4 dX6_rests_5 ?_
      refine ev_bipush (10) dX6_rests_7 rfl ?_
      refine ev_icmp_ge 64 dX6_rests_9 rfl (fun h9 => ?_) (fun h9 => ?_)
      · refine ev_iload_3 dX6_rests_64 ?_
        exact ev_ireturn dX6_rests_65 ⟨by (rw [hx, show r = 10 by omega]), by rfl⟩
      · exact absurd (show nI 10 ≤ nI r from nI_le (by omega) (by omega)) h9
    | succ m ihm =>
      intro r x hr hx
      by_cases q7 : x = 0
      ·
        refine ev_iload_4 dX6_rests_5 ?_
        refine ev_bipush (10) dX6_rests_7 rfl ?_
        refine ev_icmp_ge 64 dX6_rests_9 rfl (fun h9 => ?_) (fun h9 => ?_)
        · exact absurd h9 (show ¬ nI 10 ≤ nI r from nI_ge (by omega) (by omega))
        · refine ev_iload_3 dX6_rests_12 ?_
          refine ev_if_eq 64 dX6_rests_13 rfl (fun h13 => ?_) (fun h13 => ?_)
          · refine ev_iload_3 dX6_rests_64 ?_
            exact ev_ireturn dX6_rests_65 ⟨by (rw [q7]; rw [hx] at q7; have g := b2i_0.mp q7; rw [Bool.not_eq_true] at g; have g2 := allB_F g (m + 1); rw [hr] at g2; exact congrArg (fun z => some (Value.int z)) (b2i_f (by rw [g2]; decide))), by rfl⟩
          · exact absurd q7 h13
      ·
        refine ev_iload_4 dX6_rests_5 ?_
        refine ev_bipush (10) dX6_rests_7 rfl ?_
        refine ev_icmp_ge 64 dX6_rests_9 rfl (fun h9 => ?_) (fun h9 => ?_)
        · exact absurd h9 (show ¬ nI 10 ≤ nI r from nI_ge (by omega) (by omega))
        · refine ev_iload_3 dX6_rests_12 ?_
          refine ev_if_eq 64 dX6_rests_13 rfl (fun h13 => ?_) (fun h13 => ?_)
          · exact absurd h13 q7
          · refine ev_iload_4 dX6_rests_16 ?_
            refine ev_iload_1 dX6_rests_18 ?_
            refine ev_iconst_1 dX6_rests_19 ?_
            refine ev_iload_2 dX6_rests_20 ?_
            refine ev_invS dX6_rests_21 ml_X6_191 mt_X6_getsBy (c_X6_getsBy1 d) rfl rfl (rm_ok (by omega)) (Nat.le_of_ble_eq_true rfl) ?_
            refine Ev.pc 24 rfl ?_
            refine ev_iload_0 dX6_rests_24 ?_
            refine ev_iload_1 dX6_rests_25 ?_
            refine ev_iconst_1 dX6_rests_26 ?_
            refine ev_iload_2 dX6_rests_27 ?_
            refine ev_invS dX6_rests_28 ml_X6_191 mt_X6_getsBy (c_X6_getsBy1 d) rfl rfl (rm_ok (by omega)) (Nat.le_of_ble_eq_true rfl) ?_
            refine Ev.pc 31 rfl ?_
            refine ev_icmp_gt 56 dX6_rests_31 rfl (fun h31 => ?_) (fun h31 => ?_)
            · refine ev_iconst_0 dX6_rests_56 ?_
              refine ev_istore_3 dX6_rests_57 rfl ?_
              refine ev_iinc_4 (1) dX6_rests_58 rfl rfl ?_
              refine ev_goto 5 dX6_rests_61 rfl ?_
              rw [nI_1]
              exact ihm (r + 1) _ (by omega) (by first | exact allB_no2 (rsC_no1 h31) | exact allB_no2 (rsC_no2 h49) | exact allB_yes hx q7 (rsC_yes h31 h49))
            · refine ev_iload_4 dX6_rests_34 ?_
              refine ev_iload_0 dX6_rests_36 ?_
              refine ev_iconst_0 dX6_rests_37 ?_
              refine ev_iload_2 dX6_rests_38 ?_
              refine ev_invS dX6_rests_39 ml_X6_191 mt_X6_getsBy (c_X6_getsBy0 d) rfl rfl (rm_ok (by omega)) (Nat.le_of_ble_eq_true rfl) ?_
              refine Ev.pc 42 rfl ?_
              refine ev_iload_1 dX6_rests_42 ?_
              refine ev_iload_0 dX6_rests_43 ?_
              refine ev_iconst_0 dX6_rests_44 ?_
              refine ev_iload_2 dX6_rests_45 ?_
              refine ev_invS dX6_rests_46 ml_X6_191 mt_X6_getsBy (c_X6_getsBy0 d) rfl rfl (rm_ok (by omega)) (Nat.le_of_ble_eq_true rfl) ?_
              refine Ev.pc 49 rfl ?_
              refine ev_icmp_gt 56 dX6_rests_49 rfl (fun h49 => ?_) (fun h49 => ?_)
              · refine ev_iconst_0 dX6_rests_56 ?_
                refine ev_istore_3 dX6_rests_57 rfl ?_
                refine ev_iinc_4 (1) dX6_rests_58 rfl rfl ?_
                refine ev_goto 5 dX6_rests_61 rfl ?_
                rw [nI_1]
                exact ihm (r + 1) _ (by omega) (by first | exact allB_no2 (rsC_no1 h31) | exact allB_no2 (rsC_no2 h49) | exact allB_yes hx q7 (rsC_yes h31 h49))
              · refine ev_iconst_1 dX6_rests_52 ?_
                refine ev_goto 57 dX6_rests_53 rfl ?_
                refine ev_istore_3 dX6_rests_57 rfl ?_
                refine ev_iinc_4 (1) dX6_rests_58 rfl rfl ?_
                refine ev_goto 5 dX6_rests_61 rfl ?_
                rw [nI_1]
                exact ihm (r + 1) _ (by omega) (by first | exact allB_no2 (rsC_no1 h31) | exact allB_no2 (rsC_no2 h49) | exact allB_yes hx q7 (rsC_yes h31 h49))
  refine Ct.of (by decide +kernel) (Nat.le_of_ble_eq_true rfl) ⟨_, rfl, nb_b2i _⟩ ?_
  show Ev E _ RX6 cX6_rests 5 _ 0 [some (.int i), some (.int j), some (.int v), none, none] [] _
  refine ev_iconst_1 dX6_rests_0 ?_
  refine ev_istore_3 dX6_rests_1 rfl ?_
  refine ev_iconst_0 dX6_rests_2 ?_
  refine ev_istore_4 dX6_rests_3 rfl ?_
  exact loop 10 0 1 (by omega) rfl
theorem c_X6_bids_bad (d : Nat) {E : xE} {σ : xS} {a b p h k : Int32} (q7 : ¬ (hasIn (σ.1 74 2) a ∧ hasIn (σ.1 74 2) b ∧ ¬ a = b ∧ hasIn (σ.1 74 0) p ∧ hasIn (σ.1 74 1) h ∧ -1 ≤ k)) : Ct E (d + 3) yX6_bids cX6_bids 9 (some .int) [.ref (E.1 73), .int a, .int b, .int p, .int h, .int k] σ (some (.int (-10))) (mBad σ) := by
  refine Ct.of (by decide +kernel) (Nat.le_of_ble_eq_true rfl) ⟨_, rfl, rfl⟩ ?_
  show Ev E _ RX6 cX6_bids 9 _ 0 [some (.ref (E.1 73)), some (.int a), some (.int b), some (.int p), some (.int h), some (.int k), none, none, none] [] _
  refine ev_aload_0 dX6_bids_0 ?_
  refine ev_iload_1 dX6_bids_1 ?_
  refine ev_invV (ci := 6) dX6_bids_2 ml_X6_118 mt_X6_isBuyer (c_X6_isBuyer d) (by first | assumption | decide) (by decide) rfl rfl rfl (rm_ok (by omega)) (Nat.le_of_ble_eq_true rfl) ?_
  refine Ev.pc 5 rfl ?_
  refine ev_if_eq 44 dX6_bids_5 rfl (fun h5 => ?_) (fun h5 => ?_)
  · refine ev_aload_0 dX6_bids_44 ?_
    refine ev_bipush (-10) dX6_bids_45 rfl ?_
    refine ev_invV (ci := 6) dX6_bids_47 ml_X6_71 mt_X6_bad (c_X6_bad d) (by first | assumption | decide) (by decide) rfl rfl rfl (rm_ok (by omega)) (Nat.le_of_ble_eq_true rfl) ?_
    refine Ev.pc 50 rfl ?_
    exact ev_ireturn dX6_bids_50 ⟨by rfl, by rfl⟩
  · refine ev_aload_0 dX6_bids_8 ?_
    refine ev_iload_2 dX6_bids_9 ?_
    refine ev_invV (ci := 6) dX6_bids_10 ml_X6_118 mt_X6_isBuyer (c_X6_isBuyer d) (by first | assumption | decide) (by decide) rfl rfl rfl (rm_ok (by omega)) (Nat.le_of_ble_eq_true rfl) ?_
    refine Ev.pc 13 rfl ?_
    refine ev_if_eq 44 dX6_bids_13 rfl (fun h13 => ?_) (fun h13 => ?_)
    · refine ev_aload_0 dX6_bids_44 ?_
      refine ev_bipush (-10) dX6_bids_45 rfl ?_
      refine ev_invV (ci := 6) dX6_bids_47 ml_X6_71 mt_X6_bad (c_X6_bad d) (by first | assumption | decide) (by decide) rfl rfl rfl (rm_ok (by omega)) (Nat.le_of_ble_eq_true rfl) ?_
      refine Ev.pc 50 rfl ?_
      exact ev_ireturn dX6_bids_50 ⟨by rfl, by rfl⟩
    · refine ev_iload_1 dX6_bids_16 ?_
      refine ev_iload_2 dX6_bids_17 ?_
      refine ev_icmp_eq 44 dX6_bids_18 rfl (fun h18 => ?_) (fun h18 => ?_)
      · refine ev_aload_0 dX6_bids_44 ?_
        refine ev_bipush (-10) dX6_bids_45 rfl ?_
        refine ev_invV (ci := 6) dX6_bids_47 ml_X6_71 mt_X6_bad (c_X6_bad d) (by first | assumption | decide) (by decide) rfl rfl rfl (rm_ok (by omega)) (Nat.le_of_ble_eq_true rfl) ?_
        refine Ev.pc 50 rfl ?_
        exact ev_ireturn dX6_bids_50 ⟨by rfl, by rfl⟩
      · refine ev_aload_0 dX6_bids_21 ?_
        refine ev_iload_3 dX6_bids_22 ?_
        refine ev_invV (ci := 6) dX6_bids_23 ml_X6_121 mt_X6_isPromise (c_X6_isPromise d) (by first | assumption | decide) (by decide) rfl rfl rfl (rm_ok (by omega)) (Nat.le_of_ble_eq_true rfl) ?_
        refine Ev.pc 26 rfl ?_
        refine ev_if_eq 44 dX6_bids_26 rfl (fun h26 => ?_) (fun h26 => ?_)
        · refine ev_aload_0 dX6_bids_44 ?_
          refine ev_bipush (-10) dX6_bids_45 rfl ?_
          refine ev_invV (ci := 6) dX6_bids_47 ml_X6_71 mt_X6_bad (c_X6_bad d) (by first | assumption | decide) (by decide) rfl rfl rfl (rm_ok (by omega)) (Nat.le_of_ble_eq_true rfl) ?_
          refine Ev.pc 50 rfl ?_
          exact ev_ireturn dX6_bids_50 ⟨by rfl, by rfl⟩
        · refine ev_aload_0 dX6_bids_29 ?_
          refine ev_iload_4 dX6_bids_30 ?_
          refine ev_invV (ci := 6) dX6_bids_32 ml_X6_134 mt_X6_isHearer (c_X6_isHearer d) (by first | assumption | decide) (by decide) rfl rfl rfl (rm_ok (by omega)) (Nat.le_of_ble_eq_true rfl) ?_
          refine Ev.pc 35 rfl ?_
          refine ev_if_eq 44 dX6_bids_35 rfl (fun h35 => ?_) (fun h35 => ?_)
          · refine ev_aload_0 dX6_bids_44 ?_
            refine ev_bipush (-10) dX6_bids_45 rfl ?_
            refine ev_invV (ci := 6) dX6_bids_47 ml_X6_71 mt_X6_bad (c_X6_bad d) (by first | assumption | decide) (by decide) rfl rfl rfl (rm_ok (by omega)) (Nat.le_of_ble_eq_true rfl) ?_
            refine Ev.pc 50 rfl ?_
            exact ev_ireturn dX6_bids_50 ⟨by rfl, by rfl⟩
          · refine ev_iload_5 dX6_bids_38 ?_
            refine ev_iconst_m1 dX6_bids_40 ?_
            refine ev_icmp_ge 51 dX6_bids_41 rfl (fun h41 => ?_) (fun h41 => ?_)
            · exact absurd ⟨b2i_n0.mp h5, b2i_n0.mp h13, h18, b2i_n0.mp h26, b2i_n0.mp h35, h41⟩ q7
            · refine ev_aload_0 dX6_bids_44 ?_
              refine ev_bipush (-10) dX6_bids_45 rfl ?_
              refine ev_invV (ci := 6) dX6_bids_47 ml_X6_71 mt_X6_bad (c_X6_bad d) (by first | assumption | decide) (by decide) rfl rfl rfl (rm_ok (by omega)) (Nat.le_of_ble_eq_true rfl) ?_
              refine Ev.pc 50 rfl ?_
              exact ev_ireturn dX6_bids_50 ⟨by rfl, by rfl⟩
theorem c_X6_bids (d : Nat) {E : xE} {σ : xS} {P H p h : Nat} {a b k : Int32} (hP : σ.1 74 0 = nI P) (hP7 : P ≤ 7) (hH : σ.1 74 1 = nI H) (hH4 : H ≤ 4) (h1 : hasIn (σ.1 74 2) a) (h2 : hasIn (σ.1 74 2) b) (h3 : ¬ a = b) (hp : p < P) (hh : h < H) (h4 : -1 ≤ k) : Ct E (d + 3) yX6_bids cX6_bids 9 (some .int) [.ref (E.1 73), .int a, .int b, .int (nI p), .int (nI h), .int k] σ (some (.int (bidsV (joyF (σ.1 74) p h) k))) σ := by
  have e1 : hasIn (σ.1 74 0) (nI p) := by rw [hP]; exact hasIn_of (by omega) hp
  have e2 : hasIn (σ.1 74 1) (nI h) := by rw [hH]; exact hasIn_of (by omega) hh
  obtain ⟨v, hv⟩ : ∃ v, v = joyF (σ.1 74) p h := ⟨_, rfl⟩
  rw [← hv]
  obtain ⟨rest, hrest⟩ : ∃ f : Nat → Bool, f = fun q => allB (rsC v (nI (q / 10)) (nI (q % 10))) 10 := ⟨_, rfl⟩
  obtain ⟨R, hR⟩ : ∃ R, R = bidsV v k := ⟨_, rfl⟩
  rw [← hR]
  have hR2 : R = bdR rest k 100 0 0 := by rw [hR, bidsV, hrest]
  have loop : ∀ (n q : Nat) (f : Int32), q + n = 100 → R = bdR rest k n q f → Ev E (rm (d + 3)) RX6 cX6_bids 9 (fun v t => v = some (.int R) ∧ t = σ) 69 [some (.ref (E.1 73)), some (.int a), some (.int b), some (.int (nI p)), some (.int (nI h)), some (.int k), some (.int f), some (.int v), some (.int (nI q))] [] σ := by
    intro n
    induction n with
    | zero =>
      intro q f hq hf
      refine ev_iload_8 dX6_bids_69 ?_
      refine ev_bipush (100) dX6_bids_71 rfl ?_
      refine ev_icmp_ge 113 dX6_bids_73 rfl (fun h73 => ?_) (fun h73 => ?_)
      · refine ev_iload_5 dX6_bids_113 ?_
        refine ev_iconst_m1 dX6_bids_115 ?_
        refine ev_icmp_ne 124 dX6_bids_116 rfl (fun h116 => ?_) (fun h116 => ?_)
        · refine ev_bipush (-5) dX6_bids_124 rfl ?_
          exact ev_ireturn dX6_bids_126 ⟨by (rw [hf, bdR]; first | rw [if_pos h116] | rw [if_neg h116]), by rfl⟩
        · refine ev_iload_6 dX6_bids_119 ?_
          refine ev_goto 126 dX6_bids_121 rfl ?_
          exact ev_ireturn dX6_bids_126 ⟨by (rw [hf, bdR]; first | rw [if_pos h116] | rw [if_neg h116]), by rfl⟩
      · exact absurd (show nI 100 ≤ nI q from nI_le (by omega) (by omega)) h73
    | succ n ih =>
      intro q f hq hf
      rw [bdR] at hf
      have er : b2i (allB (rsC v (nI (q / 10)) (nI (q % 10))) 10 = true) = b2i (rest q = true) := by rw [hrest]
      refine ev_iload_8 dX6_bids_69 ?_
      refine ev_bipush (100) dX6_bids_71 rfl ?_
      refine ev_icmp_ge 113 dX6_bids_73 rfl (fun h73 => ?_) (fun h73 => ?_)
      · exact absurd h73 (show ¬ nI 100 ≤ nI q from nI_ge (by omega) (by omega))
      · refine ev_iload_8 dX6_bids_76 ?_
        refine ev_bipush (10) dX6_bids_78 rfl ?_
        refine ev_idiv dX6_bids_80 (by decide) ?_
        refine ev_iload_8 dX6_bids_81 ?_
        refine ev_bipush (10) dX6_bids_83 rfl ?_
        refine Ev.pc 85 rfl ?_
        refine ev_irem dX6_bids_85 (by decide) ?_
        rw [show (10 : Int32) = nI 10 from rfl, pk_rem (by omega) (by omega) (by omega), pk_div (by omega) (by omega) (by omega)]
        refine ev_iload_7 dX6_bids_86 ?_
        refine ev_invS dX6_bids_88 ml_X6_195 mt_X6_rests (c_X6_rests d) rfl rfl (rm_ok (by omega)) (Nat.le_of_ble_eq_true rfl) ?_
        rw [er]
        refine Ev.pc 91 rfl ?_
        refine ev_if_eq 107 dX6_bids_91 rfl (fun h91 => ?_) (fun h91 => ?_)
        · refine ev_iinc_8 (1) dX6_bids_107 rfl rfl ?_
          refine ev_goto 69 dX6_bids_110 rfl ?_
          rw [nI_1]
          first | exact ih (q + 1) _ (by omega) (by rw [hf, if_neg (b2i_0.mp h91)]) | exact ih (q + 1) _ (by omega) (by rw [hf, if_pos (b2i_n0.mp h91), if_neg h98])
        · refine ev_iload_6 dX6_bids_94 ?_
          refine ev_iload_5 dX6_bids_96 ?_
          refine ev_icmp_ne 104 dX6_bids_98 rfl (fun h98 => ?_) (fun h98 => ?_)
          · refine ev_iinc_6 (1) dX6_bids_104 rfl rfl ?_
            refine ev_iinc_8 (1) dX6_bids_107 rfl rfl ?_
            refine ev_goto 69 dX6_bids_110 rfl ?_
            rw [nI_1]
            first | exact ih (q + 1) _ (by omega) (by rw [hf, if_neg (b2i_0.mp h91)]) | exact ih (q + 1) _ (by omega) (by rw [hf, if_pos (b2i_n0.mp h91), if_neg h98])
          · refine ev_iload_8 dX6_bids_101 ?_
            exact ev_ireturn dX6_bids_103 ⟨by (rw [hf, if_pos (b2i_n0.mp h91), if_pos h98]), by rfl⟩
  refine Ct.of (by decide +kernel) (Nat.le_of_ble_eq_true rfl) ⟨_, rfl, rfl⟩ ?_
  show Ev E _ RX6 cX6_bids 9 _ 0 [some (.ref (E.1 73)), some (.int a), some (.int b), some (.int (nI p)), some (.int (nI h)), some (.int k), none, none, none] [] _
  refine ev_aload_0 dX6_bids_0 ?_
  refine ev_iload_1 dX6_bids_1 ?_
  refine ev_invV (ci := 6) dX6_bids_2 ml_X6_118 mt_X6_isBuyer (c_X6_isBuyer d) (by first | assumption | decide) (by decide) rfl rfl rfl (rm_ok (by omega)) (Nat.le_of_ble_eq_true rfl) ?_
  refine Ev.pc 5 rfl ?_
  refine ev_if_eq 44 dX6_bids_5 rfl (fun h5 => ?_) (fun h5 => ?_)
  · exact absurd h1 (b2i_0.mp h5)
  · refine ev_aload_0 dX6_bids_8 ?_
    refine ev_iload_2 dX6_bids_9 ?_
    refine ev_invV (ci := 6) dX6_bids_10 ml_X6_118 mt_X6_isBuyer (c_X6_isBuyer d) (by first | assumption | decide) (by decide) rfl rfl rfl (rm_ok (by omega)) (Nat.le_of_ble_eq_true rfl) ?_
    refine Ev.pc 13 rfl ?_
    refine ev_if_eq 44 dX6_bids_13 rfl (fun h13 => ?_) (fun h13 => ?_)
    · exact absurd h2 (b2i_0.mp h13)
    · refine ev_iload_1 dX6_bids_16 ?_
      refine ev_iload_2 dX6_bids_17 ?_
      refine ev_icmp_eq 44 dX6_bids_18 rfl (fun h18 => ?_) (fun h18 => ?_)
      · exact absurd h18 h3
      · refine ev_aload_0 dX6_bids_21 ?_
        refine ev_iload_3 dX6_bids_22 ?_
        refine ev_invV (ci := 6) dX6_bids_23 ml_X6_121 mt_X6_isPromise (c_X6_isPromise d) (by first | assumption | decide) (by decide) rfl rfl rfl (rm_ok (by omega)) (Nat.le_of_ble_eq_true rfl) ?_
        refine Ev.pc 26 rfl ?_
        refine ev_if_eq 44 dX6_bids_26 rfl (fun h26 => ?_) (fun h26 => ?_)
        · exact absurd e1 (b2i_0.mp h26)
        · refine ev_aload_0 dX6_bids_29 ?_
          refine ev_iload_4 dX6_bids_30 ?_
          refine ev_invV (ci := 6) dX6_bids_32 ml_X6_134 mt_X6_isHearer (c_X6_isHearer d) (by first | assumption | decide) (by decide) rfl rfl rfl (rm_ok (by omega)) (Nat.le_of_ble_eq_true rfl) ?_
          refine Ev.pc 35 rfl ?_
          refine ev_if_eq 44 dX6_bids_35 rfl (fun h35 => ?_) (fun h35 => ?_)
          · exact absurd e2 (b2i_0.mp h35)
          · refine ev_iload_5 dX6_bids_38 ?_
            refine ev_iconst_m1 dX6_bids_40 ?_
            refine ev_icmp_ge 51 dX6_bids_41 rfl (fun h41 => ?_) (fun h41 => ?_)
            · refine ev_iconst_0 dX6_bids_51 ?_
              refine ev_istore_6 dX6_bids_52 rfl ?_
              refine ev_aload_0 dX6_bids_54 ?_
              refine ev_get dX6_bids_55 fk_X6_7 (by first | assumption | decide) (by decide) rfl ?_
              refine ev_iload_3 dX6_bids_58 ?_
              refine Ev.pc 59 rfl ?_
              refine ev_iload_4 dX6_bids_59 ?_
              refine ev_invS dX6_bids_61 ml_X6_114 mt_X6_joyOf (c_X6_joyOf d (by first | assumption | decide) (by have := xls; omega) (by omega) (by omega)) rfl rfl (rm_ok (by omega)) (Nat.le_of_ble_eq_true rfl) ?_
              rw [← hv]
              refine Ev.pc 64 rfl ?_
              refine ev_istore_7 dX6_bids_64 rfl ?_
              refine ev_iconst_0 dX6_bids_66 ?_
              refine ev_istore_8 dX6_bids_67 rfl ?_
              refine Ev.pc 69 rfl ?_
              exact loop 100 0 0 (by omega) hR2
            · exact absurd h4 h41
