/-! the class's calls: joy (1), hints, counts, images, the fraction -/
def hasI (bits : Int32) (p : Nat) : Prop := (bits >>> (nI p &&& 31)) &&& 1 = 1
def scanI (f : Nat → Bool) : Nat → Nat → Int32
  | 0, _ => -1
  | n + 1, k => if f k then nI k else scanI f n (k + 1)
def foI (f : Nat → Int32 → Int32) : Nat → Int32 → Int32
  | 0, a => a
  | n + 1, a => f n (foI f n a)
def goodQ (σ : xS) (p m : Int32) : Int32 × xS := if hasIn (σ.1 2 7) p then if btw m 0 60 then (gB σ 2 p m, σ) else (-2, badS σ) else (-2, badS σ)
theorem c_X5_good (d : Nat) {E : xE} {σ : xS} {p m : Int32} : Ct E (d + 3) yX5_good cX5_good 3 (some .int) [.ref (E.1 0), .int p, .int m] σ (some (.int (goodQ σ p m).1)) (goodQ σ p m).2 := by
  refine Ct.of (by decide +kernel) (Nat.le_of_ble_eq_true rfl) ⟨_, rfl, rfl⟩ ?_
  show Ev E _ RX5 cX5_good 3 _ 0 [some (.ref (E.1 0)), some (.int p), some (.int m)] [] _
  refine ev_aload_0 dX5_good_0 ?_
  refine ev_get dX5_good_1 fk_X5_10 (by first | assumption | decide) (by decide) rfl ?_
  refine ev_get dX5_good_4 fk_X5_89 (by first | assumption | decide) (by decide) rfl ?_
  simp only [Nat.reduceAdd]
  refine ev_iload_1 dX5_good_7 ?_
  refine ev_invV (ci := 4) dX5_good_8 ml_X5_179 mt_X4_hasPromise (c_X4_hasPromise d (t := 2) town_now.1) (by first | assumption | decide) (by decide) rfl rfl rfl (rm_ok (by omega)) (Nat.le_of_ble_eq_true rfl) ?_
  refine Ev.pc 11 rfl ?_
  refine ev_if_eq 24 dX5_good_11 rfl (fun h11 => ?_) (fun h11 => ?_)
  · refine ev_aload_0 dX5_good_24 ?_
    refine ev_invV (ci := 5) dX5_good_25 ml_X5_102 mt_X5_bad (c_X5_bad d) (by first | assumption | decide) (by decide) rfl rfl rfl (rm_ok (by omega)) (Nat.le_of_ble_eq_true rfl) ?_
    refine Ev.pc 28 rfl ?_
    exact ev_ireturn dX5_good_28 ⟨by ((try simp only [b2i_0, b2i_1, Decidable.not_not] at *); simp only [goodQ]; repeat' (first | with_reducible rfl | contradiction | (exfalso; simp_all; done) | split)), by ((try simp only [b2i_0, b2i_1, Decidable.not_not] at *); simp only [goodQ, badS]; repeat' (first | with_reducible rfl | contradiction | (exfalso; simp_all; done) | split))⟩
  · refine ev_iload_2 dX5_good_14 ?_
    refine ev_iconst_0 dX5_good_15 ?_
    refine ev_bipush (60) dX5_good_16 rfl ?_
    refine ev_invS dX5_good_18 ml_X5_98 mt_X5_between (c_X5_between d) rfl rfl (rm_ok (by omega)) (Nat.le_of_ble_eq_true rfl) ?_
    refine Ev.pc 21 rfl ?_
    refine ev_if_ne 29 dX5_good_21 rfl (fun h21 => ?_) (fun h21 => ?_)
    · refine ev_aload_0 dX5_good_29 ?_
      refine ev_get dX5_good_30 fk_X5_10 (by first | assumption | decide) (by decide) rfl ?_
      refine ev_get dX5_good_33 fk_X5_89 (by first | assumption | decide) (by decide) rfl ?_
      simp only [Nat.reduceAdd]
      refine ev_iload_1 dX5_good_36 ?_
      refine ev_iload_2 dX5_good_37 ?_
      refine Ev.pc 38 rfl ?_
      refine ev_invV (ci := 4) dX5_good_38 ml_X5_224 mt_X4_goodBehind (c_X4_goodBehind d (t := 2) town_now) (by first | assumption | decide) (by decide) rfl rfl rfl (rm_ok (by omega)) (Nat.le_of_ble_eq_true rfl) ?_
      refine Ev.pc 41 rfl ?_
      exact ev_ireturn dX5_good_41 ⟨by ((try simp only [b2i_0, b2i_1, Decidable.not_not] at *); simp only [goodQ]; repeat' (first | with_reducible rfl | contradiction | (exfalso; simp_all; done) | split)), by ((try simp only [b2i_0, b2i_1, Decidable.not_not] at *); simp only [goodQ, badS]; repeat' (first | with_reducible rfl | contradiction | (exfalso; simp_all; done) | split))⟩
    · refine ev_aload_0 dX5_good_24 ?_
      refine ev_invV (ci := 5) dX5_good_25 ml_X5_102 mt_X5_bad (c_X5_bad d) (by first | assumption | decide) (by decide) rfl rfl rfl (rm_ok (by omega)) (Nat.le_of_ble_eq_true rfl) ?_
      refine Ev.pc 28 rfl ?_
      exact ev_ireturn dX5_good_28 ⟨by ((try simp only [b2i_0, b2i_1, Decidable.not_not] at *); simp only [goodQ]; repeat' (first | with_reducible rfl | contradiction | (exfalso; simp_all; done) | split)), by ((try simp only [b2i_0, b2i_1, Decidable.not_not] at *); simp only [goodQ, badS]; repeat' (first | with_reducible rfl | contradiction | (exfalso; simp_all; done) | split))⟩
def joyQ (σ : xS) (p h : Int32) : Int32 × xS := if hasIn (σ.1 2 7) p then if hasIn (σ.1 2 8) h then (jB σ 2 p h, σ) else (-2, badS σ) else (-2, badS σ)
theorem c_X5_joy (d : Nat) {E : xE} {σ : xS} {p h : Int32} : Ct E (d + 4) yX5_joy cX5_joy 3 (some .int) [.ref (E.1 0), .int p, .int h] σ (some (.int (joyQ σ p h).1)) (joyQ σ p h).2 := by
  refine Ct.of (by decide +kernel) (Nat.le_of_ble_eq_true rfl) ⟨_, rfl, rfl⟩ ?_
  show Ev E _ RX5 cX5_joy 3 _ 0 [some (.ref (E.1 0)), some (.int p), some (.int h)] [] _
  refine ev_aload_0 dX5_joy_0 ?_
  refine ev_get dX5_joy_1 fk_X5_10 (by first | assumption | decide) (by decide) rfl ?_
  refine ev_get dX5_joy_4 fk_X5_89 (by first | assumption | decide) (by decide) rfl ?_
  simp only [Nat.reduceAdd]
  refine ev_iload_1 dX5_joy_7 ?_
  refine ev_invV (ci := 4) dX5_joy_8 ml_X5_179 mt_X4_hasPromise (c_X4_hasPromise d (t := 2) town_now.1) (by first | assumption | decide) (by decide) rfl rfl rfl (rm_ok (by omega)) (Nat.le_of_ble_eq_true rfl) ?_
  refine Ev.pc 11 rfl ?_
  refine ev_if_eq 28 dX5_joy_11 rfl (fun h11 => ?_) (fun h11 => ?_)
  · refine ev_aload_0 dX5_joy_28 ?_
    refine ev_invV (ci := 5) dX5_joy_29 ml_X5_102 mt_X5_bad (c_X5_bad d) (by first | assumption | decide) (by decide) rfl rfl rfl (rm_ok (by omega)) (Nat.le_of_ble_eq_true rfl) ?_
    refine Ev.pc 32 rfl ?_
    exact ev_ireturn dX5_joy_32 ⟨by ((try simp only [b2i_0, b2i_1, Decidable.not_not] at *); simp only [joyQ]; repeat' (first | with_reducible rfl | contradiction | (exfalso; simp_all; done) | split)), by ((try simp only [b2i_0, b2i_1, Decidable.not_not] at *); simp only [joyQ, badS]; repeat' (first | with_reducible rfl | contradiction | (exfalso; simp_all; done) | split))⟩
  · refine ev_aload_0 dX5_joy_14 ?_
    refine ev_get dX5_joy_15 fk_X5_10 (by first | assumption | decide) (by decide) rfl ?_
    refine ev_get dX5_joy_18 fk_X5_89 (by first | assumption | decide) (by decide) rfl ?_
    simp only [Nat.reduceAdd]
    refine ev_iload_2 dX5_joy_21 ?_
    refine ev_invV (ci := 4) dX5_joy_22 ml_X5_200 mt_X4_hasHearer (c_X4_hasHearer d (t := 2) town_now.1) (by first | assumption | decide) (by decide) rfl rfl rfl (rm_ok (by omega)) (Nat.le_of_ble_eq_true rfl) ?_
    refine Ev.pc 25 rfl ?_
    refine ev_if_ne 33 dX5_joy_25 rfl (fun h25 => ?_) (fun h25 => ?_)
    · refine ev_aload_0 dX5_joy_33 ?_
      refine ev_get dX5_joy_34 fk_X5_10 (by first | assumption | decide) (by decide) rfl ?_
      refine ev_get dX5_joy_37 fk_X5_89 (by first | assumption | decide) (by decide) rfl ?_
      simp only [Nat.reduceAdd]
      refine ev_iload_1 dX5_joy_40 ?_
      refine ev_iload_2 dX5_joy_41 ?_
      refine Ev.pc 42 rfl ?_
      refine ev_invV (ci := 4) dX5_joy_42 ml_X5_239 mt_X4_joyTo (c_X4_joyTo d (t := 2) town_now) (by first | assumption | decide) (by decide) rfl rfl rfl (rm_ok (by omega)) (Nat.le_of_ble_eq_true rfl) ?_
      refine Ev.pc 45 rfl ?_
      exact ev_ireturn dX5_joy_45 ⟨by ((try simp only [b2i_0, b2i_1, Decidable.not_not] at *); simp only [joyQ]; repeat' (first | with_reducible rfl | contradiction | (exfalso; simp_all; done) | split)), by ((try simp only [b2i_0, b2i_1, Decidable.not_not] at *); simp only [joyQ, badS]; repeat' (first | with_reducible rfl | contradiction | (exfalso; simp_all; done) | split))⟩
    · refine ev_aload_0 dX5_joy_28 ?_
      refine ev_invV (ci := 5) dX5_joy_29 ml_X5_102 mt_X5_bad (c_X5_bad d) (by first | assumption | decide) (by decide) rfl rfl rfl (rm_ok (by omega)) (Nat.le_of_ble_eq_true rfl) ?_
      refine Ev.pc 32 rfl ?_
      exact ev_ireturn dX5_joy_32 ⟨by ((try simp only [b2i_0, b2i_1, Decidable.not_not] at *); simp only [joyQ]; repeat' (first | with_reducible rfl | contradiction | (exfalso; simp_all; done) | split)), by ((try simp only [b2i_0, b2i_1, Decidable.not_not] at *); simp only [joyQ, badS]; repeat' (first | with_reducible rfl | contradiction | (exfalso; simp_all; done) | split))⟩
def whenQ (σ : xS) (p x : Int32) : Int32 × xS := if hasIn (σ.1 2 7) p then if btw x 1 30 then (scanI (fun m => decide (x ≤ gB σ 2 p (nI m))) 61 0, σ) else (-2, badS σ) else (-2, badS σ)
theorem l_X5_when (d : Nat) {E : xE} {σ : xS} {p x : Int32} {F : Option Value → xS → Prop} :
    ∀ (n k : Nat), k + n = 61 → F (some (.int (scanI (fun m => decide (x ≤ gB σ 2 p (nI m))) n k))) σ → Ev E (rm (d + 3)) RX5 cX5_when 4 F 31 [some (.ref (E.1 0)), some (.int p), some (.int x), some (.int (nI k))] [] σ := by
  intro n
  induction n with
  | zero =>
    intro k hk hF
    refine ev_iload_3 dX5_when_31 ?_
    refine ev_bipush (60) dX5_when_32 rfl ?_
    refine ev_icmp_gt 61 dX5_when_34 rfl (fun h34 => ?_) (fun h34 => ?_)
    · refine ev_iconst_m1 dX5_when_61 ?_
      exact ev_ireturn dX5_when_62 (by exact hF)
    · exact absurd (show nI 60 < nI k from nI_lt (by omega) (by omega)) h34
  | succ n ih =>
    intro k hk hF
    refine ev_iload_3 dX5_when_31 ?_
    refine ev_bipush (60) dX5_when_32 rfl ?_
    refine ev_icmp_gt 61 dX5_when_34 rfl (fun h34 => ?_) (fun h34 => ?_)
    · exact absurd h34 (show ¬ nI 60 < nI k from nI_nlt (by omega) (by omega))
    · refine ev_aload_0 dX5_when_37 ?_
      refine ev_get dX5_when_38 fk_X5_10 (by first | assumption | decide) (by decide) rfl ?_
      refine ev_get dX5_when_41 fk_X5_89 (by first | assumption | decide) (by decide) rfl ?_
      simp only [Nat.reduceAdd]
      refine ev_iload_1 dX5_when_44 ?_
      refine ev_iload_3 dX5_when_45 ?_
      refine Ev.pc 46 rfl ?_
      refine ev_invV (ci := 4) dX5_when_46 ml_X5_224 mt_X4_goodBehind (c_X4_goodBehind d (t := 2) town_now) (by first | assumption | decide) (by decide) rfl rfl rfl (rm_ok (by omega)) (Nat.le_of_ble_eq_true rfl) ?_
      refine Ev.pc 49 rfl ?_
      refine ev_iload_2 dX5_when_49 ?_
      refine ev_icmp_lt 55 dX5_when_50 rfl (fun h50 => ?_) (fun h50 => ?_)
      · refine ev_iinc_3 (1) dX5_when_55 rfl rfl ?_
        refine ev_goto 31 dX5_when_58 rfl ?_
        rw [nI_1]
        exact ih (k + 1) (by omega) (by rw [scanI, if_neg (by simp [h50])] at hF; exact hF)
      · refine ev_iload_3 dX5_when_53 ?_
        exact ev_ireturn dX5_when_54 (by (rw [scanI, if_pos (by simpa using h50)] at hF; exact hF))
theorem c_X5_when (d : Nat) {E : xE} {σ : xS} {p x : Int32} : Ct E (d + 3) yX5_when cX5_when 4 (some .int) [.ref (E.1 0), .int p, .int x] σ (some (.int (whenQ σ p x).1)) (whenQ σ p x).2 := by
  refine Ct.of (by decide +kernel) (Nat.le_of_ble_eq_true rfl) ⟨_, rfl, rfl⟩ ?_
  show Ev E _ RX5 cX5_when 4 _ 0 [some (.ref (E.1 0)), some (.int p), some (.int x), none] [] _
  refine ev_aload_0 dX5_when_0 ?_
  refine ev_get dX5_when_1 fk_X5_10 (by first | assumption | decide) (by decide) rfl ?_
  refine ev_get dX5_when_4 fk_X5_89 (by first | assumption | decide) (by decide) rfl ?_
  simp only [Nat.reduceAdd]
  refine ev_iload_1 dX5_when_7 ?_
  refine ev_invV (ci := 4) dX5_when_8 ml_X5_179 mt_X4_hasPromise (c_X4_hasPromise d (t := 2) town_now.1) (by first | assumption | decide) (by decide) rfl rfl rfl (rm_ok (by omega)) (Nat.le_of_ble_eq_true rfl) ?_
  refine Ev.pc 11 rfl ?_
  refine ev_if_eq 24 dX5_when_11 rfl (fun h11 => ?_) (fun h11 => ?_)
  · refine ev_aload_0 dX5_when_24 ?_
    refine ev_invV (ci := 5) dX5_when_25 ml_X5_102 mt_X5_bad (c_X5_bad d) (by first | assumption | decide) (by decide) rfl rfl rfl (rm_ok (by omega)) (Nat.le_of_ble_eq_true rfl) ?_
    refine Ev.pc 28 rfl ?_
    exact ev_ireturn dX5_when_28 ⟨by ((try simp only [b2i_0, b2i_1, Decidable.not_not] at *); simp only [whenQ]; repeat' (first | with_reducible rfl | contradiction | (exfalso; simp_all; done) | split)), by ((try simp only [b2i_0, b2i_1, Decidable.not_not] at *); simp only [whenQ, badS]; repeat' (first | with_reducible rfl | contradiction | (exfalso; simp_all; done) | split))⟩
  · refine ev_iload_2 dX5_when_14 ?_
    refine ev_iconst_1 dX5_when_15 ?_
    refine ev_bipush (30) dX5_when_16 rfl ?_
    refine ev_invS dX5_when_18 ml_X5_98 mt_X5_between (c_X5_between d) rfl rfl (rm_ok (by omega)) (Nat.le_of_ble_eq_true rfl) ?_
    refine Ev.pc 21 rfl ?_
    refine ev_if_ne 29 dX5_when_21 rfl (fun h21 => ?_) (fun h21 => ?_)
    · refine ev_iconst_0 dX5_when_29 ?_
      refine ev_istore_3 dX5_when_30 rfl ?_
      exact l_X5_when d 61 0 (by omega) ⟨by ((try simp only [b2i_0, b2i_1, Decidable.not_not] at *); simp only [whenQ]; repeat' (first | with_reducible rfl | contradiction | (exfalso; simp_all; done) | split)), by ((try simp only [b2i_0, b2i_1, Decidable.not_not] at *); simp only [whenQ]; repeat' (first | with_reducible rfl | contradiction | (exfalso; simp_all; done) | split))⟩
    · refine ev_aload_0 dX5_when_24 ?_
      refine ev_invV (ci := 5) dX5_when_25 ml_X5_102 mt_X5_bad (c_X5_bad d) (by first | assumption | decide) (by decide) rfl rfl rfl (rm_ok (by omega)) (Nat.le_of_ble_eq_true rfl) ?_
      refine Ev.pc 28 rfl ?_
      exact ev_ireturn dX5_when_28 ⟨by ((try simp only [b2i_0, b2i_1, Decidable.not_not] at *); simp only [whenQ]; repeat' (first | with_reducible rfl | contradiction | (exfalso; simp_all; done) | split)), by ((try simp only [b2i_0, b2i_1, Decidable.not_not] at *); simp only [whenQ, badS]; repeat' (first | with_reducible rfl | contradiction | (exfalso; simp_all; done) | split))⟩
theorem c_X5_waits (d : Nat) {E : xE} {σ : xS} {P H : Nat} (hP : σ.1 2 7 = nI P) (hP7 : P ≤ 7) (hH : σ.1 2 8 = nI H) (hH4 : H ≤ 4) : Ct E (d + 3) yX5_waits cX5_waits 1 (some .int) [.ref (E.1 0)] σ (some (.int (mkI (fun h => decide (mkI (fun k => decide (σ.1 6 k = 10 + nI h)) P = 0)) H))) σ := by
  refine Ct.of (by decide +kernel) (Nat.le_of_ble_eq_true rfl) ⟨_, rfl, rfl⟩ ?_
  show Ev E _ RX5 cX5_waits 1 _ 0 [some (.ref (E.1 0))] [] _
  refine ev_aload_0 dX5_waits_0 ?_
  refine ev_get dX5_waits_1 fk_X5_10 (by first | assumption | decide) (by decide) rfl ?_
  refine ev_get dX5_waits_4 fk_X5_89 (by first | assumption | decide) (by decide) rfl ?_
  simp only [Nat.reduceAdd]
  refine ev_invV (ci := 4) dX5_waits_7 ml_X5_242 mt_X4_waitingBits (c_X4_waitingBits d (t := 2) (P := P) (H := H) town_now hP hP7 hH hH4) (by first | assumption | decide) (by decide) rfl rfl rfl (rm_ok (by omega)) (Nat.le_of_ble_eq_true rfl) ?_
  refine Ev.pc 10 rfl ?_
  exact ev_ireturn dX5_waits_10 ⟨by rfl, by rfl⟩
/-! hints -/
def addH (σ : xS) (i n : Nat) (w s t a : Int32) : xS := xu (xu (xu (xu (xu σ (i + 1) (4 * n) w) (i + 1) (4 * n + 1) s) (i + 1) (4 * n + 2) t) (i + 1) (4 * n + 3) a) i 2 (nI (n + 1))
def seenQ (σ : xS) (n : Nat) (d x : Int32) : Int32 × xS :=
  if btw d 0 99 then if btw x 0 30 then if 5 ≤ n then (-4, fullS σ) else (nI (n + 1), addH σ 12 n 0 0 d x) else (-2, badS σ) else (-2, badS σ)
theorem c_X5_seen (d : Nat) {E : xE} {σ : xS} {n : Nat} {a x : Int32} (hm : σ.1 12 0 = 5) (hn : σ.1 12 2 = nI n) (hn5 : n ≤ 5) : Ct E (d + 2) yX5_seen cX5_seen 3 (some .int) [.ref (E.1 0), .int a, .int x] σ (some (.int (seenQ σ n a x).1)) (seenQ σ n a x).2 := by
  have e20 : xlen 13 = 20 := by decide
  rcases Nat.lt_or_ge n 5 with q7 | q7
  ·
    have q8 : ¬ 5 ≤ n := by omega
    have q9 : ¬ σ.1 12 0 ≤ σ.1 12 2 := by rw [hm, hn]; exact (show ¬ nI 5 ≤ nI n from nI_ge q7 (by omega))
    refine Ct.of (by decide +kernel) (Nat.le_of_ble_eq_true rfl) ⟨_, rfl, rfl⟩ ?_
    show Ev E _ RX5 cX5_seen 3 _ 0 [some (.ref (E.1 0)), some (.int a), some (.int x)] [] _
    refine ev_iload_1 dX5_seen_0 ?_
    refine ev_iconst_0 dX5_seen_1 ?_
    refine ev_bipush (99) dX5_seen_2 rfl ?_
    refine ev_invS dX5_seen_4 ml_X5_98 mt_X5_between (c_X5_between d) rfl rfl (rm_ok (by omega)) (Nat.le_of_ble_eq_true rfl) ?_
    refine Ev.pc 7 rfl ?_
    refine ev_if_eq 20 dX5_seen_7 rfl (fun h7 => ?_) (fun h7 => ?_)
    · refine ev_aload_0 dX5_seen_20 ?_
      refine ev_invV (ci := 5) dX5_seen_21 ml_X5_102 mt_X5_bad (c_X5_bad d) (by first | assumption | decide) (by decide) rfl rfl rfl (rm_ok (by omega)) (Nat.le_of_ble_eq_true rfl) ?_
      refine Ev.pc 24 rfl ?_
      exact ev_ireturn dX5_seen_24 ⟨by ((try simp only [b2i_0, b2i_1, Decidable.not_not] at *); simp only [seenQ]; repeat' (first | with_reducible rfl | contradiction | (exfalso; simp_all; done) | split)), by ((try simp only [b2i_0, b2i_1, Decidable.not_not] at *); simp only [seenQ, badS, fullS, addH]; repeat' (first | with_reducible rfl | contradiction | (exfalso; simp_all; done) | split))⟩
    · refine ev_iload_2 dX5_seen_10 ?_
      refine ev_iconst_0 dX5_seen_11 ?_
      refine ev_bipush (30) dX5_seen_12 rfl ?_
      refine ev_invS dX5_seen_14 ml_X5_98 mt_X5_between (c_X5_between d) rfl rfl (rm_ok (by omega)) (Nat.le_of_ble_eq_true rfl) ?_
      refine Ev.pc 17 rfl ?_
      refine ev_if_ne 25 dX5_seen_17 rfl (fun h17 => ?_) (fun h17 => ?_)
      · refine ev_aload_0 dX5_seen_25 ?_
        refine ev_get dX5_seen_26 fk_X5_10 (by first | assumption | decide) (by decide) rfl ?_
        refine ev_get dX5_seen_29 fk_X5_273 (by first | assumption | decide) (by decide) rfl ?_
        simp only [Nat.reduceAdd]
        refine ev_invV (ci := 0) dX5_seen_32 ml_X5_277 mt_X0_isFull (c_X0_isFull d (i := 12) hint_all.1) (by first | assumption | decide) (by decide) rfl rfl rfl (rm_ok (by omega)) (Nat.le_of_ble_eq_true rfl) ?_
        refine Ev.pc 35 rfl ?_
        refine ev_if_eq 45 dX5_seen_35 rfl (fun h35 => ?_) (fun h35 => ?_)
        · refine ev_aload_0 dX5_seen_45 ?_
          refine ev_get dX5_seen_46 fk_X5_10 (by first | assumption | decide) (by decide) rfl ?_
          refine ev_get dX5_seen_49 fk_X5_273 (by first | assumption | decide) (by decide) rfl ?_
          simp only [Nat.reduceAdd]
          refine ev_iconst_0 dX5_seen_52 ?_
          refine ev_iconst_0 dX5_seen_53 ?_
          refine Ev.pc 54 rfl ?_
          refine ev_iload_1 dX5_seen_54 ?_
          refine ev_iload_2 dX5_seen_55 ?_
          refine ev_invV (ci := 0) dX5_seen_56 ml_X5_282 mt_X0_add (c_X0_add d (i := 12) (n := n) hint_all.1 hn (show 4 * n + 4 ≤ xlen 13 by omega)) (by first | assumption | decide) (by decide) rfl rfl rfl (rm_ok (by omega)) (Nat.le_of_ble_eq_true rfl) ?_
          refine Ev.pc 59 rfl ?_
          exact ev_ireturn dX5_seen_59 ⟨by ((try simp only [b2i_0, b2i_1, Decidable.not_not] at *); simp only [seenQ]; repeat' (first | with_reducible rfl | contradiction | (exfalso; simp_all; done) | split)), by ((try simp only [b2i_0, b2i_1, Decidable.not_not] at *); simp only [seenQ, badS, fullS, addH]; repeat' (first | with_reducible rfl | contradiction | (exfalso; simp_all; done) | split))⟩
        · refine ev_aload_0 dX5_seen_38 ?_
          refine ev_invV (ci := 5) dX5_seen_39 ml_X5_105 mt_X5_full (c_X5_full d) (by first | assumption | decide) (by decide) rfl rfl rfl (rm_ok (by omega)) (Nat.le_of_ble_eq_true rfl) ?_
          refine Ev.pc 42 rfl ?_
          refine ev_goto 59 dX5_seen_42 rfl ?_
          exact ev_ireturn dX5_seen_59 ⟨by ((try simp only [b2i_0, b2i_1, Decidable.not_not] at *); simp only [seenQ]; repeat' (first | with_reducible rfl | contradiction | (exfalso; simp_all; done) | split)), by ((try simp only [b2i_0, b2i_1, Decidable.not_not] at *); simp only [seenQ, badS, fullS, addH]; repeat' (first | with_reducible rfl | contradiction | (exfalso; simp_all; done) | split))⟩
      · refine ev_aload_0 dX5_seen_20 ?_
        refine ev_invV (ci := 5) dX5_seen_21 ml_X5_102 mt_X5_bad (c_X5_bad d) (by first | assumption | decide) (by decide) rfl rfl rfl (rm_ok (by omega)) (Nat.le_of_ble_eq_true rfl) ?_
        refine Ev.pc 24 rfl ?_
        exact ev_ireturn dX5_seen_24 ⟨by ((try simp only [b2i_0, b2i_1, Decidable.not_not] at *); simp only [seenQ]; repeat' (first | with_reducible rfl | contradiction | (exfalso; simp_all; done) | split)), by ((try simp only [b2i_0, b2i_1, Decidable.not_not] at *); simp only [seenQ, badS, fullS, addH]; repeat' (first | with_reducible rfl | contradiction | (exfalso; simp_all; done) | split))⟩
  ·
    have q9 : σ.1 12 0 ≤ σ.1 12 2 := by rw [hm, hn]; exact (show nI 5 ≤ nI n from nI_le q7 (by omega))
    refine Ct.of (by decide +kernel) (Nat.le_of_ble_eq_true rfl) ⟨_, rfl, rfl⟩ ?_
    show Ev E _ RX5 cX5_seen 3 _ 0 [some (.ref (E.1 0)), some (.int a), some (.int x)] [] _
    refine ev_iload_1 dX5_seen_0 ?_
    refine ev_iconst_0 dX5_seen_1 ?_
    refine ev_bipush (99) dX5_seen_2 rfl ?_
    refine ev_invS dX5_seen_4 ml_X5_98 mt_X5_between (c_X5_between d) rfl rfl (rm_ok (by omega)) (Nat.le_of_ble_eq_true rfl) ?_
    refine Ev.pc 7 rfl ?_
    refine ev_if_eq 20 dX5_seen_7 rfl (fun h7 => ?_) (fun h7 => ?_)
    · refine ev_aload_0 dX5_seen_20 ?_
      refine ev_invV (ci := 5) dX5_seen_21 ml_X5_102 mt_X5_bad (c_X5_bad d) (by first | assumption | decide) (by decide) rfl rfl rfl (rm_ok (by omega)) (Nat.le_of_ble_eq_true rfl) ?_
      refine Ev.pc 24 rfl ?_
      exact ev_ireturn dX5_seen_24 ⟨by ((try simp only [b2i_0, b2i_1, Decidable.not_not] at *); simp only [seenQ]; repeat' (first | with_reducible rfl | contradiction | (exfalso; simp_all; done) | split)), by ((try simp only [b2i_0, b2i_1, Decidable.not_not] at *); simp only [seenQ, badS, fullS, addH]; repeat' (first | with_reducible rfl | contradiction | (exfalso; simp_all; done) | split))⟩
    · refine ev_iload_2 dX5_seen_10 ?_
      refine ev_iconst_0 dX5_seen_11 ?_
      refine ev_bipush (30) dX5_seen_12 rfl ?_
      refine ev_invS dX5_seen_14 ml_X5_98 mt_X5_between (c_X5_between d) rfl rfl (rm_ok (by omega)) (Nat.le_of_ble_eq_true rfl) ?_
      refine Ev.pc 17 rfl ?_
      refine ev_if_ne 25 dX5_seen_17 rfl (fun h17 => ?_) (fun h17 => ?_)
      · refine ev_aload_0 dX5_seen_25 ?_
        refine ev_get dX5_seen_26 fk_X5_10 (by first | assumption | decide) (by decide) rfl ?_
        refine ev_get dX5_seen_29 fk_X5_273 (by first | assumption | decide) (by decide) rfl ?_
        simp only [Nat.reduceAdd]
        refine ev_invV (ci := 0) dX5_seen_32 ml_X5_277 mt_X0_isFull (c_X0_isFull d (i := 12) hint_all.1) (by first | assumption | decide) (by decide) rfl rfl rfl (rm_ok (by omega)) (Nat.le_of_ble_eq_true rfl) ?_
        refine Ev.pc 35 rfl ?_
        refine ev_if_eq 45 dX5_seen_35 rfl (fun h35 => ?_) (fun h35 => ?_)
        · exact absurd q9 (b2i_0.mp h35)
        · refine ev_aload_0 dX5_seen_38 ?_
          refine ev_invV (ci := 5) dX5_seen_39 ml_X5_105 mt_X5_full (c_X5_full d) (by first | assumption | decide) (by decide) rfl rfl rfl (rm_ok (by omega)) (Nat.le_of_ble_eq_true rfl) ?_
          refine Ev.pc 42 rfl ?_
          refine ev_goto 59 dX5_seen_42 rfl ?_
          exact ev_ireturn dX5_seen_59 ⟨by ((try simp only [b2i_0, b2i_1, Decidable.not_not] at *); simp only [seenQ]; repeat' (first | with_reducible rfl | contradiction | (exfalso; simp_all; done) | split)), by ((try simp only [b2i_0, b2i_1, Decidable.not_not] at *); simp only [seenQ, badS, fullS, addH]; repeat' (first | with_reducible rfl | contradiction | (exfalso; simp_all; done) | split))⟩
      · refine ev_aload_0 dX5_seen_20 ?_
        refine ev_invV (ci := 5) dX5_seen_21 ml_X5_102 mt_X5_bad (c_X5_bad d) (by first | assumption | decide) (by decide) rfl rfl rfl (rm_ok (by omega)) (Nat.le_of_ble_eq_true rfl) ?_
        refine Ev.pc 24 rfl ?_
        exact ev_ireturn dX5_seen_24 ⟨by ((try simp only [b2i_0, b2i_1, Decidable.not_not] at *); simp only [seenQ]; repeat' (first | with_reducible rfl | contradiction | (exfalso; simp_all; done) | split)), by ((try simp only [b2i_0, b2i_1, Decidable.not_not] at *); simp only [seenQ, badS, fullS, addH]; repeat' (first | with_reducible rfl | contradiction | (exfalso; simp_all; done) | split))⟩
def noteQ (σ : xS) (n : Nat) (p v d x : Int32) : Int32 × xS :=
  if hasIn (σ.1 2 7) p then if btw v 1 9 then if btw d 0 99 then if btw x 0 30 then if 6 ≤ n then (-4, fullS σ) else (nI (n + 1), addH σ 14 n p v d x) else (-2, badS σ) else (-2, badS σ) else (-2, badS σ) else (-2, badS σ)
theorem c_X5_note (d : Nat) {E : xE} {σ : xS} {n : Nat} {p v a x : Int32} (hm : σ.1 14 0 = 6) (hn : σ.1 14 2 = nI n) (hn5 : n ≤ 6) : Ct E (d + 2) yX5_note cX5_note 5 (some .int) [.ref (E.1 0), .int p, .int v, .int a, .int x] σ (some (.int (noteQ σ n p v a x).1)) (noteQ σ n p v a x).2 := by
  have e20 : xlen 15 = 24 := by decide
  rcases Nat.lt_or_ge n 6 with q7 | q7
  ·
    have q8 : ¬ 6 ≤ n := by omega
    have q9 : ¬ σ.1 14 0 ≤ σ.1 14 2 := by rw [hm, hn]; exact (show ¬ nI 6 ≤ nI n from nI_ge q7 (by omega))
    refine Ct.of (by decide +kernel) (Nat.le_of_ble_eq_true rfl) ⟨_, rfl, rfl⟩ ?_
    show Ev E _ RX5 cX5_note 5 _ 0 [some (.ref (E.1 0)), some (.int p), some (.int v), some (.int a), some (.int x)] [] _
    refine ev_aload_0 dX5_note_0 ?_
    refine ev_get dX5_note_1 fk_X5_10 (by first | assumption | decide) (by decide) rfl ?_
    refine ev_get dX5_note_4 fk_X5_89 (by first | assumption | decide) (by decide) rfl ?_
    simp only [Nat.reduceAdd]
    refine ev_iload_1 dX5_note_7 ?_
    refine ev_invV (ci := 4) dX5_note_8 ml_X5_179 mt_X4_hasPromise (c_X4_hasPromise d (t := 2) town_now.1) (by first | assumption | decide) (by decide) rfl rfl rfl (rm_ok (by omega)) (Nat.le_of_ble_eq_true rfl) ?_
    refine Ev.pc 11 rfl ?_
    refine ev_if_eq 24 dX5_note_11 rfl (fun h11 => ?_) (fun h11 => ?_)
    · refine ev_aload_0 dX5_note_24 ?_
      refine ev_invV (ci := 5) dX5_note_25 ml_X5_102 mt_X5_bad (c_X5_bad d) (by first | assumption | decide) (by decide) rfl rfl rfl (rm_ok (by omega)) (Nat.le_of_ble_eq_true rfl) ?_
      refine Ev.pc 28 rfl ?_
      exact ev_ireturn dX5_note_28 ⟨by ((try simp only [b2i_0, b2i_1, Decidable.not_not] at *); simp only [noteQ]; repeat' (first | with_reducible rfl | contradiction | (exfalso; simp_all; done) | split)), by ((try simp only [b2i_0, b2i_1, Decidable.not_not] at *); simp only [noteQ, badS, fullS, addH]; repeat' (first | with_reducible rfl | contradiction | (exfalso; simp_all; done) | split))⟩
    · refine ev_iload_2 dX5_note_14 ?_
      refine ev_iconst_1 dX5_note_15 ?_
      refine ev_bipush (9) dX5_note_16 rfl ?_
      refine ev_invS dX5_note_18 ml_X5_98 mt_X5_between (c_X5_between d) rfl rfl (rm_ok (by omega)) (Nat.le_of_ble_eq_true rfl) ?_
      refine Ev.pc 21 rfl ?_
      refine ev_if_ne 29 dX5_note_21 rfl (fun h21 => ?_) (fun h21 => ?_)
      · refine ev_iload_3 dX5_note_29 ?_
        refine ev_iconst_0 dX5_note_30 ?_
        refine ev_bipush (99) dX5_note_31 rfl ?_
        refine ev_invS dX5_note_33 ml_X5_98 mt_X5_between (c_X5_between d) rfl rfl (rm_ok (by omega)) (Nat.le_of_ble_eq_true rfl) ?_
        refine Ev.pc 36 rfl ?_
        refine ev_if_eq 50 dX5_note_36 rfl (fun h36 => ?_) (fun h36 => ?_)
        · refine ev_aload_0 dX5_note_50 ?_
          refine ev_invV (ci := 5) dX5_note_51 ml_X5_102 mt_X5_bad (c_X5_bad d) (by first | assumption | decide) (by decide) rfl rfl rfl (rm_ok (by omega)) (Nat.le_of_ble_eq_true rfl) ?_
          refine Ev.pc 54 rfl ?_
          exact ev_ireturn dX5_note_54 ⟨by ((try simp only [b2i_0, b2i_1, Decidable.not_not] at *); simp only [noteQ]; repeat' (first | with_reducible rfl | contradiction | (exfalso; simp_all; done) | split)), by ((try simp only [b2i_0, b2i_1, Decidable.not_not] at *); simp only [noteQ, badS, fullS, addH]; repeat' (first | with_reducible rfl | contradiction | (exfalso; simp_all; done) | split))⟩
        · refine ev_iload_4 dX5_note_39 ?_
          refine ev_iconst_0 dX5_note_41 ?_
          refine ev_bipush (30) dX5_note_42 rfl ?_
          refine ev_invS dX5_note_44 ml_X5_98 mt_X5_between (c_X5_between d) rfl rfl (rm_ok (by omega)) (Nat.le_of_ble_eq_true rfl) ?_
          refine Ev.pc 47 rfl ?_
          refine ev_if_ne 55 dX5_note_47 rfl (fun h47 => ?_) (fun h47 => ?_)
          · refine ev_aload_0 dX5_note_55 ?_
            refine ev_get dX5_note_56 fk_X5_10 (by first | assumption | decide) (by decide) rfl ?_
            refine ev_get dX5_note_59 fk_X5_295 (by first | assumption | decide) (by decide) rfl ?_
            simp only [Nat.reduceAdd]
            refine ev_invV (ci := 0) dX5_note_62 ml_X5_277 mt_X0_isFull (c_X0_isFull d (i := 14) hint_all.2.1) (by first | assumption | decide) (by decide) rfl rfl rfl (rm_ok (by omega)) (Nat.le_of_ble_eq_true rfl) ?_
            refine Ev.pc 65 rfl ?_
            refine ev_if_eq 75 dX5_note_65 rfl (fun h65 => ?_) (fun h65 => ?_)
            · refine ev_aload_0 dX5_note_75 ?_
              refine ev_get dX5_note_76 fk_X5_10 (by first | assumption | decide) (by decide) rfl ?_
              refine ev_get dX5_note_79 fk_X5_295 (by first | assumption | decide) (by decide) rfl ?_
              simp only [Nat.reduceAdd]
              refine ev_iload_1 dX5_note_82 ?_
              refine ev_iload_2 dX5_note_83 ?_
              refine Ev.pc 84 rfl ?_
              refine ev_iload_3 dX5_note_84 ?_
              refine ev_iload_4 dX5_note_85 ?_
              refine ev_invV (ci := 0) dX5_note_87 ml_X5_282 mt_X0_add (c_X0_add d (i := 14) (n := n) hint_all.2.1 hn (show 4 * n + 4 ≤ xlen 15 by omega)) (by first | assumption | decide) (by decide) rfl rfl rfl (rm_ok (by omega)) (Nat.le_of_ble_eq_true rfl) ?_
              refine Ev.pc 90 rfl ?_
              exact ev_ireturn dX5_note_90 ⟨by ((try simp only [b2i_0, b2i_1, Decidable.not_not] at *); simp only [noteQ]; repeat' (first | with_reducible rfl | contradiction | (exfalso; simp_all; done) | split)), by ((try simp only [b2i_0, b2i_1, Decidable.not_not] at *); simp only [noteQ, badS, fullS, addH]; repeat' (first | with_reducible rfl | contradiction | (exfalso; simp_all; done) | split))⟩
            · refine ev_aload_0 dX5_note_68 ?_
              refine ev_invV (ci := 5) dX5_note_69 ml_X5_105 mt_X5_full (c_X5_full d) (by first | assumption | decide) (by decide) rfl rfl rfl (rm_ok (by omega)) (Nat.le_of_ble_eq_true rfl) ?_
              refine Ev.pc 72 rfl ?_
              refine ev_goto 90 dX5_note_72 rfl ?_
              exact ev_ireturn dX5_note_90 ⟨by ((try simp only [b2i_0, b2i_1, Decidable.not_not] at *); simp only [noteQ]; repeat' (first | with_reducible rfl | contradiction | (exfalso; simp_all; done) | split)), by ((try simp only [b2i_0, b2i_1, Decidable.not_not] at *); simp only [noteQ, badS, fullS, addH]; repeat' (first | with_reducible rfl | contradiction | (exfalso; simp_all; done) | split))⟩
          · refine ev_aload_0 dX5_note_50 ?_
            refine ev_invV (ci := 5) dX5_note_51 ml_X5_102 mt_X5_bad (c_X5_bad d) (by first | assumption | decide) (by decide) rfl rfl rfl (rm_ok (by omega)) (Nat.le_of_ble_eq_true rfl) ?_
            refine Ev.pc 54 rfl ?_
            exact ev_ireturn dX5_note_54 ⟨by ((try simp only [b2i_0, b2i_1, Decidable.not_not] at *); simp only [noteQ]; repeat' (first | with_reducible rfl | contradiction | (exfalso; simp_all; done) | split)), by ((try simp only [b2i_0, b2i_1, Decidable.not_not] at *); simp only [noteQ, badS, fullS, addH]; repeat' (first | with_reducible rfl | contradiction | (exfalso; simp_all; done) | split))⟩
      · refine ev_aload_0 dX5_note_24 ?_
        refine ev_invV (ci := 5) dX5_note_25 ml_X5_102 mt_X5_bad (c_X5_bad d) (by first | assumption | decide) (by decide) rfl rfl rfl (rm_ok (by omega)) (Nat.le_of_ble_eq_true rfl) ?_
        refine Ev.pc 28 rfl ?_
        exact ev_ireturn dX5_note_28 ⟨by ((try simp only [b2i_0, b2i_1, Decidable.not_not] at *); simp only [noteQ]; repeat' (first | with_reducible rfl | contradiction | (exfalso; simp_all; done) | split)), by ((try simp only [b2i_0, b2i_1, Decidable.not_not] at *); simp only [noteQ, badS, fullS, addH]; repeat' (first | with_reducible rfl | contradiction | (exfalso; simp_all; done) | split))⟩
  ·
    have q9 : σ.1 14 0 ≤ σ.1 14 2 := by rw [hm, hn]; exact (show nI 6 ≤ nI n from nI_le q7 (by omega))
    refine Ct.of (by decide +kernel) (Nat.le_of_ble_eq_true rfl) ⟨_, rfl, rfl⟩ ?_
    show Ev E _ RX5 cX5_note 5 _ 0 [some (.ref (E.1 0)), some (.int p), some (.int v), some (.int a), some (.int x)] [] _
    refine ev_aload_0 dX5_note_0 ?_
    refine ev_get dX5_note_1 fk_X5_10 (by first | assumption | decide) (by decide) rfl ?_
    refine ev_get dX5_note_4 fk_X5_89 (by first | assumption | decide) (by decide) rfl ?_
    simp only [Nat.reduceAdd]
    refine ev_iload_1 dX5_note_7 ?_
    refine ev_invV (ci := 4) dX5_note_8 ml_X5_179 mt_X4_hasPromise (c_X4_hasPromise d (t := 2) town_now.1) (by first | assumption | decide) (by decide) rfl rfl rfl (rm_ok (by omega)) (Nat.le_of_ble_eq_true rfl) ?_
    refine Ev.pc 11 rfl ?_
    refine ev_if_eq 24 dX5_note_11 rfl (fun h11 => ?_) (fun h11 => ?_)
    · refine ev_aload_0 dX5_note_24 ?_
      refine ev_invV (ci := 5) dX5_note_25 ml_X5_102 mt_X5_bad (c_X5_bad d) (by first | assumption | decide) (by decide) rfl rfl rfl (rm_ok (by omega)) (Nat.le_of_ble_eq_true rfl) ?_
      refine Ev.pc 28 rfl ?_
      exact ev_ireturn dX5_note_28 ⟨by ((try simp only [b2i_0, b2i_1, Decidable.not_not] at *); simp only [noteQ]; repeat' (first | with_reducible rfl | contradiction | (exfalso; simp_all; done) | split)), by ((try simp only [b2i_0, b2i_1, Decidable.not_not] at *); simp only [noteQ, badS, fullS, addH]; repeat' (first | with_reducible rfl | contradiction | (exfalso; simp_all; done) | split))⟩
    · refine ev_iload_2 dX5_note_14 ?_
      refine ev_iconst_1 dX5_note_15 ?_
      refine ev_bipush (9) dX5_note_16 rfl ?_
      refine ev_invS dX5_note_18 ml_X5_98 mt_X5_between (c_X5_between d) rfl rfl (rm_ok (by omega)) (Nat.le_of_ble_eq_true rfl) ?_
      refine Ev.pc 21 rfl ?_
      refine ev_if_ne 29 dX5_note_21 rfl (fun h21 => ?_) (fun h21 => ?_)
      · refine ev_iload_3 dX5_note_29 ?_
        refine ev_iconst_0 dX5_note_30 ?_
        refine ev_bipush (99) dX5_note_31 rfl ?_
        refine ev_invS dX5_note_33 ml_X5_98 mt_X5_between (c_X5_between d) rfl rfl (rm_ok (by omega)) (Nat.le_of_ble_eq_true rfl) ?_
        refine Ev.pc 36 rfl ?_
        refine ev_if_eq 50 dX5_note_36 rfl (fun h36 => ?_) (fun h36 => ?_)
        · refine ev_aload_0 dX5_note_50 ?_
          refine ev_invV (ci := 5) dX5_note_51 ml_X5_102 mt_X5_bad (c_X5_bad d) (by first | assumption | decide) (by decide) rfl rfl rfl (rm_ok (by omega)) (Nat.le_of_ble_eq_true rfl) ?_
          refine Ev.pc 54 rfl ?_
          exact ev_ireturn dX5_note_54 ⟨by ((try simp only [b2i_0, b2i_1, Decidable.not_not] at *); simp only [noteQ]; repeat' (first | with_reducible rfl | contradiction | (exfalso; simp_all; done) | split)), by ((try simp only [b2i_0, b2i_1, Decidable.not_not] at *); simp only [noteQ, badS, fullS, addH]; repeat' (first | with_reducible rfl | contradiction | (exfalso; simp_all; done) | split))⟩
        · refine ev_iload_4 dX5_note_39 ?_
          refine ev_iconst_0 dX5_note_41 ?_
          refine ev_bipush (30) dX5_note_42 rfl ?_
          refine ev_invS dX5_note_44 ml_X5_98 mt_X5_between (c_X5_between d) rfl rfl (rm_ok (by omega)) (Nat.le_of_ble_eq_true rfl) ?_
          refine Ev.pc 47 rfl ?_
          refine ev_if_ne 55 dX5_note_47 rfl (fun h47 => ?_) (fun h47 => ?_)
          · refine ev_aload_0 dX5_note_55 ?_
            refine ev_get dX5_note_56 fk_X5_10 (by first | assumption | decide) (by decide) rfl ?_
            refine ev_get dX5_note_59 fk_X5_295 (by first | assumption | decide) (by decide) rfl ?_
            simp only [Nat.reduceAdd]
            refine ev_invV (ci := 0) dX5_note_62 ml_X5_277 mt_X0_isFull (c_X0_isFull d (i := 14) hint_all.2.1) (by first | assumption | decide) (by decide) rfl rfl rfl (rm_ok (by omega)) (Nat.le_of_ble_eq_true rfl) ?_
            refine Ev.pc 65 rfl ?_
            refine ev_if_eq 75 dX5_note_65 rfl (fun h65 => ?_) (fun h65 => ?_)
            · exact absurd q9 (b2i_0.mp h65)
            · refine ev_aload_0 dX5_note_68 ?_
              refine ev_invV (ci := 5) dX5_note_69 ml_X5_105 mt_X5_full (c_X5_full d) (by first | assumption | decide) (by decide) rfl rfl rfl (rm_ok (by omega)) (Nat.le_of_ble_eq_true rfl) ?_
              refine Ev.pc 72 rfl ?_
              refine ev_goto 90 dX5_note_72 rfl ?_
              exact ev_ireturn dX5_note_90 ⟨by ((try simp only [b2i_0, b2i_1, Decidable.not_not] at *); simp only [noteQ]; repeat' (first | with_reducible rfl | contradiction | (exfalso; simp_all; done) | split)), by ((try simp only [b2i_0, b2i_1, Decidable.not_not] at *); simp only [noteQ, badS, fullS, addH]; repeat' (first | with_reducible rfl | contradiction | (exfalso; simp_all; done) | split))⟩
          · refine ev_aload_0 dX5_note_50 ?_
            refine ev_invV (ci := 5) dX5_note_51 ml_X5_102 mt_X5_bad (c_X5_bad d) (by first | assumption | decide) (by decide) rfl rfl rfl (rm_ok (by omega)) (Nat.le_of_ble_eq_true rfl) ?_
            refine Ev.pc 54 rfl ?_
            exact ev_ireturn dX5_note_54 ⟨by ((try simp only [b2i_0, b2i_1, Decidable.not_not] at *); simp only [noteQ]; repeat' (first | with_reducible rfl | contradiction | (exfalso; simp_all; done) | split)), by ((try simp only [b2i_0, b2i_1, Decidable.not_not] at *); simp only [noteQ, badS, fullS, addH]; repeat' (first | with_reducible rfl | contradiction | (exfalso; simp_all; done) | split))⟩
      · refine ev_aload_0 dX5_note_24 ?_
        refine ev_invV (ci := 5) dX5_note_25 ml_X5_102 mt_X5_bad (c_X5_bad d) (by first | assumption | decide) (by decide) rfl rfl rfl (rm_ok (by omega)) (Nat.le_of_ble_eq_true rfl) ?_
        refine Ev.pc 28 rfl ?_
        exact ev_ireturn dX5_note_28 ⟨by ((try simp only [b2i_0, b2i_1, Decidable.not_not] at *); simp only [noteQ]; repeat' (first | with_reducible rfl | contradiction | (exfalso; simp_all; done) | split)), by ((try simp only [b2i_0, b2i_1, Decidable.not_not] at *); simp only [noteQ, badS, fullS, addH]; repeat' (first | with_reducible rfl | contradiction | (exfalso; simp_all; done) | split))⟩
def markQ (σ : xS) (n : Nat) (p v d x : Int32) : Int32 × xS :=
  if hasIn (σ.1 2 8) p then if btw v 1 9 then if btw d 0 30 then if btw x 0 20 then if 6 ≤ n then (-4, fullS σ) else (nI (n + 1), addH σ 16 n p v d x) else (-2, badS σ) else (-2, badS σ) else (-2, badS σ) else (-2, badS σ)
theorem c_X5_mark (d : Nat) {E : xE} {σ : xS} {n : Nat} {p v a x : Int32} (hm : σ.1 16 0 = 6) (hn : σ.1 16 2 = nI n) (hn5 : n ≤ 6) : Ct E (d + 2) yX5_mark cX5_mark 5 (some .int) [.ref (E.1 0), .int p, .int v, .int a, .int x] σ (some (.int (markQ σ n p v a x).1)) (markQ σ n p v a x).2 := by
  have e20 : xlen 17 = 24 := by decide
  rcases Nat.lt_or_ge n 6 with q7 | q7
  ·
    have q8 : ¬ 6 ≤ n := by omega
    have q9 : ¬ σ.1 16 0 ≤ σ.1 16 2 := by rw [hm, hn]; exact (show ¬ nI 6 ≤ nI n from nI_ge q7 (by omega))
    refine Ct.of (by decide +kernel) (Nat.le_of_ble_eq_true rfl) ⟨_, rfl, rfl⟩ ?_
    show Ev E _ RX5 cX5_mark 5 _ 0 [some (.ref (E.1 0)), some (.int p), some (.int v), some (.int a), some (.int x)] [] _
    refine ev_aload_0 dX5_mark_0 ?_
    refine ev_get dX5_mark_1 fk_X5_10 (by first | assumption | decide) (by decide) rfl ?_
    refine ev_get dX5_mark_4 fk_X5_89 (by first | assumption | decide) (by decide) rfl ?_
    simp only [Nat.reduceAdd]
    refine ev_iload_1 dX5_mark_7 ?_
    refine ev_invV (ci := 4) dX5_mark_8 ml_X5_200 mt_X4_hasHearer (c_X4_hasHearer d (t := 2) town_now.1) (by first | assumption | decide) (by decide) rfl rfl rfl (rm_ok (by omega)) (Nat.le_of_ble_eq_true rfl) ?_
    refine Ev.pc 11 rfl ?_
    refine ev_if_eq 24 dX5_mark_11 rfl (fun h11 => ?_) (fun h11 => ?_)
    · refine ev_aload_0 dX5_mark_24 ?_
      refine ev_invV (ci := 5) dX5_mark_25 ml_X5_102 mt_X5_bad (c_X5_bad d) (by first | assumption | decide) (by decide) rfl rfl rfl (rm_ok (by omega)) (Nat.le_of_ble_eq_true rfl) ?_
      refine Ev.pc 28 rfl ?_
      exact ev_ireturn dX5_mark_28 ⟨by ((try simp only [b2i_0, b2i_1, Decidable.not_not] at *); simp only [markQ]; repeat' (first | with_reducible rfl | contradiction | (exfalso; simp_all; done) | split)), by ((try simp only [b2i_0, b2i_1, Decidable.not_not] at *); simp only [markQ, badS, fullS, addH]; repeat' (first | with_reducible rfl | contradiction | (exfalso; simp_all; done) | split))⟩
    · refine ev_iload_2 dX5_mark_14 ?_
      refine ev_iconst_1 dX5_mark_15 ?_
      refine ev_bipush (9) dX5_mark_16 rfl ?_
      refine ev_invS dX5_mark_18 ml_X5_98 mt_X5_between (c_X5_between d) rfl rfl (rm_ok (by omega)) (Nat.le_of_ble_eq_true rfl) ?_
      refine Ev.pc 21 rfl ?_
      refine ev_if_ne 29 dX5_mark_21 rfl (fun h21 => ?_) (fun h21 => ?_)
      · refine ev_iload_3 dX5_mark_29 ?_
        refine ev_iconst_0 dX5_mark_30 ?_
        refine ev_bipush (30) dX5_mark_31 rfl ?_
        refine ev_invS dX5_mark_33 ml_X5_98 mt_X5_between (c_X5_between d) rfl rfl (rm_ok (by omega)) (Nat.le_of_ble_eq_true rfl) ?_
        refine Ev.pc 36 rfl ?_
        refine ev_if_eq 50 dX5_mark_36 rfl (fun h36 => ?_) (fun h36 => ?_)
        · refine ev_aload_0 dX5_mark_50 ?_
          refine ev_invV (ci := 5) dX5_mark_51 ml_X5_102 mt_X5_bad (c_X5_bad d) (by first | assumption | decide) (by decide) rfl rfl rfl (rm_ok (by omega)) (Nat.le_of_ble_eq_true rfl) ?_
          refine Ev.pc 54 rfl ?_
          exact ev_ireturn dX5_mark_54 ⟨by ((try simp only [b2i_0, b2i_1, Decidable.not_not] at *); simp only [markQ]; repeat' (first | with_reducible rfl | contradiction | (exfalso; simp_all; done) | split)), by ((try simp only [b2i_0, b2i_1, Decidable.not_not] at *); simp only [markQ, badS, fullS, addH]; repeat' (first | with_reducible rfl | contradiction | (exfalso; simp_all; done) | split))⟩
        · refine ev_iload_4 dX5_mark_39 ?_
          refine ev_iconst_0 dX5_mark_41 ?_
          refine ev_bipush (20) dX5_mark_42 rfl ?_
          refine ev_invS dX5_mark_44 ml_X5_98 mt_X5_between (c_X5_between d) rfl rfl (rm_ok (by omega)) (Nat.le_of_ble_eq_true rfl) ?_
          refine Ev.pc 47 rfl ?_
          refine ev_if_ne 55 dX5_mark_47 rfl (fun h47 => ?_) (fun h47 => ?_)
          · refine ev_aload_0 dX5_mark_55 ?_
            refine ev_get dX5_mark_56 fk_X5_10 (by first | assumption | decide) (by decide) rfl ?_
            refine ev_get dX5_mark_59 fk_X5_298 (by first | assumption | decide) (by decide) rfl ?_
            simp only [Nat.reduceAdd]
            refine ev_invV (ci := 0) dX5_mark_62 ml_X5_277 mt_X0_isFull (c_X0_isFull d (i := 16) hint_all.2.2.1) (by first | assumption | decide) (by decide) rfl rfl rfl (rm_ok (by omega)) (Nat.le_of_ble_eq_true rfl) ?_
            refine Ev.pc 65 rfl ?_
            refine ev_if_eq 75 dX5_mark_65 rfl (fun h65 => ?_) (fun h65 => ?_)
            · refine ev_aload_0 dX5_mark_75 ?_
              refine ev_get dX5_mark_76 fk_X5_10 (by first | assumption | decide) (by decide) rfl ?_
              refine ev_get dX5_mark_79 fk_X5_298 (by first | assumption | decide) (by decide) rfl ?_
              simp only [Nat.reduceAdd]
              refine ev_iload_1 dX5_mark_82 ?_
              refine ev_iload_2 dX5_mark_83 ?_
              refine Ev.pc 84 rfl ?_
              refine ev_iload_3 dX5_mark_84 ?_
              refine ev_iload_4 dX5_mark_85 ?_
              refine ev_invV (ci := 0) dX5_mark_87 ml_X5_282 mt_X0_add (c_X0_add d (i := 16) (n := n) hint_all.2.2.1 hn (show 4 * n + 4 ≤ xlen 17 by omega)) (by first | assumption | decide) (by decide) rfl rfl rfl (rm_ok (by omega)) (Nat.le_of_ble_eq_true rfl) ?_
              refine Ev.pc 90 rfl ?_
              exact ev_ireturn dX5_mark_90 ⟨by ((try simp only [b2i_0, b2i_1, Decidable.not_not] at *); simp only [markQ]; repeat' (first | with_reducible rfl | contradiction | (exfalso; simp_all; done) | split)), by ((try simp only [b2i_0, b2i_1, Decidable.not_not] at *); simp only [markQ, badS, fullS, addH]; repeat' (first | with_reducible rfl | contradiction | (exfalso; simp_all; done) | split))⟩
            · refine ev_aload_0 dX5_mark_68 ?_
              refine ev_invV (ci := 5) dX5_mark_69 ml_X5_105 mt_X5_full (c_X5_full d) (by first | assumption | decide) (by decide) rfl rfl rfl (rm_ok (by omega)) (Nat.le_of_ble_eq_true rfl) ?_
              refine Ev.pc 72 rfl ?_
              refine ev_goto 90 dX5_mark_72 rfl ?_
              exact ev_ireturn dX5_mark_90 ⟨by ((try simp only [b2i_0, b2i_1, Decidable.not_not] at *); simp only [markQ]; repeat' (first | with_reducible rfl | contradiction | (exfalso; simp_all; done) | split)), by ((try simp only [b2i_0, b2i_1, Decidable.not_not] at *); simp only [markQ, badS, fullS, addH]; repeat' (first | with_reducible rfl | contradiction | (exfalso; simp_all; done) | split))⟩
          · refine ev_aload_0 dX5_mark_50 ?_
            refine ev_invV (ci := 5) dX5_mark_51 ml_X5_102 mt_X5_bad (c_X5_bad d) (by first | assumption | decide) (by decide) rfl rfl rfl (rm_ok (by omega)) (Nat.le_of_ble_eq_true rfl) ?_
            refine Ev.pc 54 rfl ?_
            exact ev_ireturn dX5_mark_54 ⟨by ((try simp only [b2i_0, b2i_1, Decidable.not_not] at *); simp only [markQ]; repeat' (first | with_reducible rfl | contradiction | (exfalso; simp_all; done) | split)), by ((try simp only [b2i_0, b2i_1, Decidable.not_not] at *); simp only [markQ, badS, fullS, addH]; repeat' (first | with_reducible rfl | contradiction | (exfalso; simp_all; done) | split))⟩
      · refine ev_aload_0 dX5_mark_24 ?_
        refine ev_invV (ci := 5) dX5_mark_25 ml_X5_102 mt_X5_bad (c_X5_bad d) (by first | assumption | decide) (by decide) rfl rfl rfl (rm_ok (by omega)) (Nat.le_of_ble_eq_true rfl) ?_
        refine Ev.pc 28 rfl ?_
        exact ev_ireturn dX5_mark_28 ⟨by ((try simp only [b2i_0, b2i_1, Decidable.not_not] at *); simp only [markQ]; repeat' (first | with_reducible rfl | contradiction | (exfalso; simp_all; done) | split)), by ((try simp only [b2i_0, b2i_1, Decidable.not_not] at *); simp only [markQ, badS, fullS, addH]; repeat' (first | with_reducible rfl | contradiction | (exfalso; simp_all; done) | split))⟩
  ·
    have q9 : σ.1 16 0 ≤ σ.1 16 2 := by rw [hm, hn]; exact (show nI 6 ≤ nI n from nI_le q7 (by omega))
    refine Ct.of (by decide +kernel) (Nat.le_of_ble_eq_true rfl) ⟨_, rfl, rfl⟩ ?_
    show Ev E _ RX5 cX5_mark 5 _ 0 [some (.ref (E.1 0)), some (.int p), some (.int v), some (.int a), some (.int x)] [] _
    refine ev_aload_0 dX5_mark_0 ?_
    refine ev_get dX5_mark_1 fk_X5_10 (by first | assumption | decide) (by decide) rfl ?_
    refine ev_get dX5_mark_4 fk_X5_89 (by first | assumption | decide) (by decide) rfl ?_
    simp only [Nat.reduceAdd]
    refine ev_iload_1 dX5_mark_7 ?_
    refine ev_invV (ci := 4) dX5_mark_8 ml_X5_200 mt_X4_hasHearer (c_X4_hasHearer d (t := 2) town_now.1) (by first | assumption | decide) (by decide) rfl rfl rfl (rm_ok (by omega)) (Nat.le_of_ble_eq_true rfl) ?_
    refine Ev.pc 11 rfl ?_
    refine ev_if_eq 24 dX5_mark_11 rfl (fun h11 => ?_) (fun h11 => ?_)
    · refine ev_aload_0 dX5_mark_24 ?_
      refine ev_invV (ci := 5) dX5_mark_25 ml_X5_102 mt_X5_bad (c_X5_bad d) (by first | assumption | decide) (by decide) rfl rfl rfl (rm_ok (by omega)) (Nat.le_of_ble_eq_true rfl) ?_
      refine Ev.pc 28 rfl ?_
      exact ev_ireturn dX5_mark_28 ⟨by ((try simp only [b2i_0, b2i_1, Decidable.not_not] at *); simp only [markQ]; repeat' (first | with_reducible rfl | contradiction | (exfalso; simp_all; done) | split)), by ((try simp only [b2i_0, b2i_1, Decidable.not_not] at *); simp only [markQ, badS, fullS, addH]; repeat' (first | with_reducible rfl | contradiction | (exfalso; simp_all; done) | split))⟩
    · refine ev_iload_2 dX5_mark_14 ?_
      refine ev_iconst_1 dX5_mark_15 ?_
      refine ev_bipush (9) dX5_mark_16 rfl ?_
      refine ev_invS dX5_mark_18 ml_X5_98 mt_X5_between (c_X5_between d) rfl rfl (rm_ok (by omega)) (Nat.le_of_ble_eq_true rfl) ?_
      refine Ev.pc 21 rfl ?_
      refine ev_if_ne 29 dX5_mark_21 rfl (fun h21 => ?_) (fun h21 => ?_)
      · refine ev_iload_3 dX5_mark_29 ?_
        refine ev_iconst_0 dX5_mark_30 ?_
        refine ev_bipush (30) dX5_mark_31 rfl ?_
        refine ev_invS dX5_mark_33 ml_X5_98 mt_X5_between (c_X5_between d) rfl rfl (rm_ok (by omega)) (Nat.le_of_ble_eq_true rfl) ?_
        refine Ev.pc 36 rfl ?_
        refine ev_if_eq 50 dX5_mark_36 rfl (fun h36 => ?_) (fun h36 => ?_)
        · refine ev_aload_0 dX5_mark_50 ?_
          refine ev_invV (ci := 5) dX5_mark_51 ml_X5_102 mt_X5_bad (c_X5_bad d) (by first | assumption | decide) (by decide) rfl rfl rfl (rm_ok (by omega)) (Nat.le_of_ble_eq_true rfl) ?_
          refine Ev.pc 54 rfl ?_
          exact ev_ireturn dX5_mark_54 ⟨by ((try simp only [b2i_0, b2i_1, Decidable.not_not] at *); simp only [markQ]; repeat' (first | with_reducible rfl | contradiction | (exfalso; simp_all; done) | split)), by ((try simp only [b2i_0, b2i_1, Decidable.not_not] at *); simp only [markQ, badS, fullS, addH]; repeat' (first | with_reducible rfl | contradiction | (exfalso; simp_all; done) | split))⟩
        · refine ev_iload_4 dX5_mark_39 ?_
          refine ev_iconst_0 dX5_mark_41 ?_
          refine ev_bipush (20) dX5_mark_42 rfl ?_
          refine ev_invS dX5_mark_44 ml_X5_98 mt_X5_between (c_X5_between d) rfl rfl (rm_ok (by omega)) (Nat.le_of_ble_eq_true rfl) ?_
          refine Ev.pc 47 rfl ?_
          refine ev_if_ne 55 dX5_mark_47 rfl (fun h47 => ?_) (fun h47 => ?_)
          · refine ev_aload_0 dX5_mark_55 ?_
            refine ev_get dX5_mark_56 fk_X5_10 (by first | assumption | decide) (by decide) rfl ?_
            refine ev_get dX5_mark_59 fk_X5_298 (by first | assumption | decide) (by decide) rfl ?_
            simp only [Nat.reduceAdd]
            refine ev_invV (ci := 0) dX5_mark_62 ml_X5_277 mt_X0_isFull (c_X0_isFull d (i := 16) hint_all.2.2.1) (by first | assumption | decide) (by decide) rfl rfl rfl (rm_ok (by omega)) (Nat.le_of_ble_eq_true rfl) ?_
            refine Ev.pc 65 rfl ?_
            refine ev_if_eq 75 dX5_mark_65 rfl (fun h65 => ?_) (fun h65 => ?_)
            · exact absurd q9 (b2i_0.mp h65)
            · refine ev_aload_0 dX5_mark_68 ?_
              refine ev_invV (ci := 5) dX5_mark_69 ml_X5_105 mt_X5_full (c_X5_full d) (by first | assumption | decide) (by decide) rfl rfl rfl (rm_ok (by omega)) (Nat.le_of_ble_eq_true rfl) ?_
              refine Ev.pc 72 rfl ?_
              refine ev_goto 90 dX5_mark_72 rfl ?_
              exact ev_ireturn dX5_mark_90 ⟨by ((try simp only [b2i_0, b2i_1, Decidable.not_not] at *); simp only [markQ]; repeat' (first | with_reducible rfl | contradiction | (exfalso; simp_all; done) | split)), by ((try simp only [b2i_0, b2i_1, Decidable.not_not] at *); simp only [markQ, badS, fullS, addH]; repeat' (first | with_reducible rfl | contradiction | (exfalso; simp_all; done) | split))⟩
          · refine ev_aload_0 dX5_mark_50 ?_
            refine ev_invV (ci := 5) dX5_mark_51 ml_X5_102 mt_X5_bad (c_X5_bad d) (by first | assumption | decide) (by decide) rfl rfl rfl (rm_ok (by omega)) (Nat.le_of_ble_eq_true rfl) ?_
            refine Ev.pc 54 rfl ?_
            exact ev_ireturn dX5_mark_54 ⟨by ((try simp only [b2i_0, b2i_1, Decidable.not_not] at *); simp only [markQ]; repeat' (first | with_reducible rfl | contradiction | (exfalso; simp_all; done) | split)), by ((try simp only [b2i_0, b2i_1, Decidable.not_not] at *); simp only [markQ, badS, fullS, addH]; repeat' (first | with_reducible rfl | contradiction | (exfalso; simp_all; done) | split))⟩
      · refine ev_aload_0 dX5_mark_24 ?_
        refine ev_invV (ci := 5) dX5_mark_25 ml_X5_102 mt_X5_bad (c_X5_bad d) (by first | assumption | decide) (by decide) rfl rfl rfl (rm_ok (by omega)) (Nat.le_of_ble_eq_true rfl) ?_
        refine Ev.pc 28 rfl ?_
        exact ev_ireturn dX5_mark_28 ⟨by ((try simp only [b2i_0, b2i_1, Decidable.not_not] at *); simp only [markQ]; repeat' (first | with_reducible rfl | contradiction | (exfalso; simp_all; done) | split)), by ((try simp only [b2i_0, b2i_1, Decidable.not_not] at *); simp only [markQ, badS, fullS, addH]; repeat' (first | with_reducible rfl | contradiction | (exfalso; simp_all; done) | split))⟩
theorem hintId_ok (w : Int32) : HintAt (hintId w) := by
  unfold hintId
  split
  · exact hint_all.2.1
  · split
    · exact hint_all.2.2.1
    · exact hint_all.1
def forgetQ (σ : xS) (w : Int32) : Int32 × xS := if btw w 0 2 then (σ.1 (hintId w) 2, xu σ (hintId w) 2 0) else (-2, badS σ)
theorem c_X5_forget (d : Nat) {E : xE} {σ : xS} {w : Int32} : Ct E (d + 2) yX5_forget cX5_forget 4 (some .int) [.ref (E.1 0), .int w] σ (some (.int (forgetQ σ w).1)) (forgetQ σ w).2 := by
  have hh := (hintId_ok w).1
  refine Ct.of (by decide +kernel) (Nat.le_of_ble_eq_true rfl) ⟨_, rfl, rfl⟩ ?_
  show Ev E _ RX5 cX5_forget 4 _ 0 [some (.ref (E.1 0)), some (.int w), none, none] [] _
  refine ev_iload_1 dX5_forget_0 ?_
  refine ev_iconst_0 dX5_forget_1 ?_
  refine ev_iconst_2 dX5_forget_2 ?_
  refine ev_invS dX5_forget_3 ml_X5_98 mt_X5_between (c_X5_between d) rfl rfl (rm_ok (by omega)) (Nat.le_of_ble_eq_true rfl) ?_
  refine Ev.pc 6 rfl ?_
  refine ev_if_ne 14 dX5_forget_6 rfl (fun h6 => ?_) (fun h6 => ?_)
  · refine ev_aload_0 dX5_forget_14 ?_
    refine ev_get dX5_forget_15 fk_X5_10 (by first | assumption | decide) (by decide) rfl ?_
    refine ev_iload_1 dX5_forget_18 ?_
    refine ev_invV (ci := 3) dX5_forget_19 ml_X5_301 mt_X3_hintsOf (c_X3_hintsOf d) (by first | assumption | decide) (by decide) rfl rfl rfl (rm_ok (by omega)) (Nat.le_of_ble_eq_true rfl) ?_
    refine Ev.pc 22 rfl ?_
    refine ev_astore_2 dX5_forget_22 rfl ?_
    refine Ev.pc 23 rfl ?_
    refine ev_aload_2 dX5_forget_23 ?_
    refine ev_get dX5_forget_24 fk_X5_305 (by first | assumption | decide) (by decide) rfl ?_
    refine ev_istore_3 dX5_forget_27 rfl ?_
    refine ev_aload_2 dX5_forget_28 ?_
    refine ev_iconst_0 dX5_forget_29 ?_
    refine Ev.pc 30 rfl ?_
    refine ev_put dX5_forget_30 fk_X5_305 (by first | assumption | decide) (by decide) rfl ?_
    refine ev_iload_3 dX5_forget_33 ?_
    exact ev_ireturn dX5_forget_34 ⟨by ((try simp only [b2i_0, b2i_1, Decidable.not_not] at *); simp only [forgetQ]; repeat' (first | with_reducible rfl | contradiction | (exfalso; simp_all; done) | split)), by ((try simp only [b2i_0, b2i_1, Decidable.not_not] at *); simp only [forgetQ, badS]; repeat' (first | with_reducible rfl | contradiction | (exfalso; simp_all; done) | split))⟩
  · refine ev_aload_0 dX5_forget_9 ?_
    refine ev_invV (ci := 5) dX5_forget_10 ml_X5_102 mt_X5_bad (c_X5_bad d) (by first | assumption | decide) (by decide) rfl rfl rfl (rm_ok (by omega)) (Nat.le_of_ble_eq_true rfl) ?_
    refine Ev.pc 13 rfl ?_
    exact ev_ireturn dX5_forget_13 ⟨by ((try simp only [b2i_0, b2i_1, Decidable.not_not] at *); simp only [forgetQ]; repeat' (first | with_reducible rfl | contradiction | (exfalso; simp_all; done) | split)), by ((try simp only [b2i_0, b2i_1, Decidable.not_not] at *); simp only [forgetQ, badS]; repeat' (first | with_reducible rfl | contradiction | (exfalso; simp_all; done) | split))⟩
/-! counts, the digest -/
def countC (σ : xS) (P H : Nat) (w : Int32) : Int32 :=
  if w = 0 then σ.1 2 7 else if w = 1 then σ.1 2 8 else if w = 2 then σ.1 2 9 else if w = 3 then σ.1 2 10 else if w = 4 then bitCnt (mkI (fun k => decide (σ.1 6 k = 0)) P)
  else if w = 5 then smI (fun h => bitCnt (mkI (fun k => decide (σ.1 6 k = 10 + nI h)) P)) H else if w = 6 then σ.1 2 11 else if w = 7 then σ.1 12 2 else if w = 8 then σ.1 14 2 else if w = 9 then σ.1 16 2 else if w = 10 then σ.1 10 1 else σ.1 52 2
theorem c_X5_countOf (d : Nat) {E : xE} {σ : xS} {P H : Nat} {w : Int32} (hP : σ.1 2 7 = nI P) (hP7 : P ≤ 7) (hH : σ.1 2 8 = nI H) (hH4 : H ≤ 4) : Ct E (d + 3) yX5_countOf cX5_countOf 2 (some .int) [.ref (E.1 0), .int w] σ (some (.int (countC σ P H w))) σ := by
  refine Ct.of (by decide +kernel) (Nat.le_of_ble_eq_true rfl) ⟨_, rfl, rfl⟩ ?_
  show Ev E _ RX5 cX5_countOf 2 _ 0 [some (.ref (E.1 0)), some (.int w)] [] _
  refine ev_iload_1 dX5_countOf_0 ?_
  refine sw_X5_countOf_1 (fun h1 => ?_) (fun h1 => ?_) (fun h1 => ?_) (fun h1 => ?_) (fun h1 => ?_) (fun h1 => ?_) (fun h1 => ?_) (fun h1 => ?_) (fun h1 => ?_) (fun h1 => ?_) (fun h1 => ?_) (fun h1_0 h1_1 h1_2 h1_3 h1_4 h1_5 h1_6 h1_7 h1_8 h1_9 h1_10 => ?_)
  · refine ev_aload_0 dX5_countOf_60 ?_
    refine ev_get dX5_countOf_61 fk_X5_10 (by first | assumption | decide) (by decide) rfl ?_
    refine ev_get dX5_countOf_64 fk_X5_89 (by first | assumption | decide) (by decide) rfl ?_
    simp only [Nat.reduceAdd]
    refine ev_get dX5_countOf_67 fk_X5_92 (by first | assumption | decide) (by decide) rfl ?_
    exact ev_ireturn dX5_countOf_70 ⟨by ((try simp only [b2i_0, b2i_1, Decidable.not_not] at *); simp only [countC]; repeat' (first | with_reducible rfl | contradiction | (exfalso; simp_all; done) | split)), by rfl⟩
  · refine ev_aload_0 dX5_countOf_71 ?_
    refine ev_get dX5_countOf_72 fk_X5_10 (by first | assumption | decide) (by decide) rfl ?_
    refine ev_get dX5_countOf_75 fk_X5_89 (by first | assumption | decide) (by decide) rfl ?_
    simp only [Nat.reduceAdd]
    refine ev_get dX5_countOf_78 fk_X5_120 (by first | assumption | decide) (by decide) rfl ?_
    exact ev_ireturn dX5_countOf_81 ⟨by ((try simp only [b2i_0, b2i_1, Decidable.not_not] at *); simp only [countC]; repeat' (first | with_reducible rfl | contradiction | (exfalso; simp_all; done) | split)), by rfl⟩
  · refine ev_aload_0 dX5_countOf_82 ?_
    refine ev_get dX5_countOf_83 fk_X5_10 (by first | assumption | decide) (by decide) rfl ?_
    refine ev_get dX5_countOf_86 fk_X5_89 (by first | assumption | decide) (by decide) rfl ?_
    simp only [Nat.reduceAdd]
    refine ev_get dX5_countOf_89 fk_X5_126 (by first | assumption | decide) (by decide) rfl ?_
    exact ev_ireturn dX5_countOf_92 ⟨by ((try simp only [b2i_0, b2i_1, Decidable.not_not] at *); simp only [countC]; repeat' (first | with_reducible rfl | contradiction | (exfalso; simp_all; done) | split)), by rfl⟩
  · refine ev_aload_0 dX5_countOf_93 ?_
    refine ev_get dX5_countOf_94 fk_X5_10 (by first | assumption | decide) (by decide) rfl ?_
    refine ev_get dX5_countOf_97 fk_X5_89 (by first | assumption | decide) (by decide) rfl ?_
    simp only [Nat.reduceAdd]
    refine ev_get dX5_countOf_100 fk_X5_168 (by first | assumption | decide) (by decide) rfl ?_
    exact ev_ireturn dX5_countOf_103 ⟨by ((try simp only [b2i_0, b2i_1, Decidable.not_not] at *); simp only [countC]; repeat' (first | with_reducible rfl | contradiction | (exfalso; simp_all; done) | split)), by rfl⟩
  · refine ev_aload_0 dX5_countOf_104 ?_
    refine ev_get dX5_countOf_105 fk_X5_10 (by first | assumption | decide) (by decide) rfl ?_
    refine ev_get dX5_countOf_108 fk_X5_89 (by first | assumption | decide) (by decide) rfl ?_
    simp only [Nat.reduceAdd]
    refine ev_iconst_0 dX5_countOf_111 ?_
    refine ev_invV (ci := 4) dX5_countOf_112 ml_X5_236 mt_X4_bitsAt (c_X4_bitsAt d (t := 2) (P := P) town_now hP hP7) (by first | assumption | decide) (by decide) rfl rfl rfl (rm_ok (by omega)) (Nat.le_of_ble_eq_true rfl) ?_
    refine Ev.pc 115 rfl ?_
    refine ev_invS dX5_countOf_115 ml_X5_380 mt_J6_bitCount_0f7a4 (c_J6_bitCount_0f7a4 d) rfl rfl (rm_ok (by omega)) (Nat.le_of_ble_eq_true rfl) ?_
    refine Ev.pc 118 rfl ?_
    exact ev_ireturn dX5_countOf_118 ⟨by ((try simp only [b2i_0, b2i_1, Decidable.not_not] at *); simp only [countC]; repeat' (first | with_reducible rfl | contradiction | (exfalso; simp_all; done) | split)), by rfl⟩
  · refine ev_aload_0 dX5_countOf_119 ?_
    refine ev_get dX5_countOf_120 fk_X5_10 (by first | assumption | decide) (by decide) rfl ?_
    refine ev_get dX5_countOf_123 fk_X5_89 (by first | assumption | decide) (by decide) rfl ?_
    simp only [Nat.reduceAdd]
    refine ev_invV (ci := 4) dX5_countOf_126 ml_X5_385 mt_X4_keptCount (c_X4_keptCount d (t := 2) (P := P) (H := H) town_now hP hP7 hH hH4) (by first | assumption | decide) (by decide) rfl rfl rfl (rm_ok (by omega)) (Nat.le_of_ble_eq_true rfl) ?_
    refine Ev.pc 129 rfl ?_
    exact ev_ireturn dX5_countOf_129 ⟨by ((try simp only [b2i_0, b2i_1, Decidable.not_not] at *); simp only [countC]; repeat' (first | with_reducible rfl | contradiction | (exfalso; simp_all; done) | split)), by rfl⟩
  · refine ev_aload_0 dX5_countOf_130 ?_
    refine ev_get dX5_countOf_131 fk_X5_10 (by first | assumption | decide) (by decide) rfl ?_
    refine ev_get dX5_countOf_134 fk_X5_89 (by first | assumption | decide) (by decide) rfl ?_
    simp only [Nat.reduceAdd]
    refine ev_get dX5_countOf_137 fk_X5_363 (by first | assumption | decide) (by decide) rfl ?_
    exact ev_ireturn dX5_countOf_140 ⟨by ((try simp only [b2i_0, b2i_1, Decidable.not_not] at *); simp only [countC]; repeat' (first | with_reducible rfl | contradiction | (exfalso; simp_all; done) | split)), by rfl⟩
  · refine ev_aload_0 dX5_countOf_141 ?_
    refine ev_get dX5_countOf_142 fk_X5_10 (by first | assumption | decide) (by decide) rfl ?_
    refine ev_get dX5_countOf_145 fk_X5_273 (by first | assumption | decide) (by decide) rfl ?_
    simp only [Nat.reduceAdd]
    refine ev_get dX5_countOf_148 fk_X5_305 (by first | assumption | decide) (by decide) rfl ?_
    exact ev_ireturn dX5_countOf_151 ⟨by ((try simp only [b2i_0, b2i_1, Decidable.not_not] at *); simp only [countC]; repeat' (first | with_reducible rfl | contradiction | (exfalso; simp_all; done) | split)), by rfl⟩
  · refine ev_aload_0 dX5_countOf_152 ?_
    refine ev_get dX5_countOf_153 fk_X5_10 (by first | assumption | decide) (by decide) rfl ?_
    refine ev_get dX5_countOf_156 fk_X5_295 (by first | assumption | decide) (by decide) rfl ?_
    simp only [Nat.reduceAdd]
    refine ev_get dX5_countOf_159 fk_X5_305 (by first | assumption | decide) (by decide) rfl ?_
    exact ev_ireturn dX5_countOf_162 ⟨by ((try simp only [b2i_0, b2i_1, Decidable.not_not] at *); simp only [countC]; repeat' (first | with_reducible rfl | contradiction | (exfalso; simp_all; done) | split)), by rfl⟩
  · refine ev_aload_0 dX5_countOf_163 ?_
    refine ev_get dX5_countOf_164 fk_X5_10 (by first | assumption | decide) (by decide) rfl ?_
    refine ev_get dX5_countOf_167 fk_X5_298 (by first | assumption | decide) (by decide) rfl ?_
    simp only [Nat.reduceAdd]
    refine ev_get dX5_countOf_170 fk_X5_305 (by first | assumption | decide) (by decide) rfl ?_
    exact ev_ireturn dX5_countOf_173 ⟨by ((try simp only [b2i_0, b2i_1, Decidable.not_not] at *); simp only [countC]; repeat' (first | with_reducible rfl | contradiction | (exfalso; simp_all; done) | split)), by rfl⟩
  · refine ev_aload_0 dX5_countOf_174 ?_
    refine ev_get dX5_countOf_175 fk_X5_10 (by first | assumption | decide) (by decide) rfl ?_
    refine ev_get dX5_countOf_178 fk_X5_108 (by first | assumption | decide) (by decide) rfl ?_
    simp only [Nat.reduceAdd]
    refine ev_get dX5_countOf_181 fk_X5_112 (by first | assumption | decide) (by decide) rfl ?_
    exact ev_ireturn dX5_countOf_184 ⟨by ((try simp only [b2i_0, b2i_1, Decidable.not_not] at *); simp only [countC]; repeat' (first | with_reducible rfl | contradiction | (exfalso; simp_all; done) | split)), by rfl⟩
  · refine ev_aload_0 dX5_countOf_185 ?_
    refine ev_get dX5_countOf_186 fk_X5_25 (by first | assumption | decide) (by decide) rfl ?_
    refine ev_get dX5_countOf_189 fk_X5_132 (by first | assumption | decide) (by decide) rfl ?_
    exact ev_ireturn dX5_countOf_192 ⟨by ((try simp only [b2i_0, b2i_1, Decidable.not_not] at *); simp only [countC]; repeat' (first | with_reducible rfl | contradiction | (exfalso; simp_all; done) | split)), by rfl⟩
def countQ (σ : xS) (P H : Nat) (w : Int32) : Int32 × xS := if btw w 0 11 then (countC σ P H w, σ) else (-2, badS σ)
theorem c_X5_count (d : Nat) {E : xE} {σ : xS} {P H : Nat} {w : Int32} (hP : σ.1 2 7 = nI P) (hP7 : P ≤ 7) (hH : σ.1 2 8 = nI H) (hH4 : H ≤ 4) : Ct E (d + 4) yX5_count cX5_count 2 (some .int) [.ref (E.1 0), .int w] σ (some (.int (countQ σ P H w).1)) (countQ σ P H w).2 := by
  refine Ct.of (by decide +kernel) (Nat.le_of_ble_eq_true rfl) ⟨_, rfl, rfl⟩ ?_
  show Ev E _ RX5 cX5_count 2 _ 0 [some (.ref (E.1 0)), some (.int w)] [] _
  refine ev_iload_1 dX5_count_0 ?_
  refine ev_iconst_0 dX5_count_1 ?_
  refine ev_bipush (11) dX5_count_2 rfl ?_
  refine ev_invS dX5_count_4 ml_X5_98 mt_X5_between (c_X5_between d) rfl rfl (rm_ok (by omega)) (Nat.le_of_ble_eq_true rfl) ?_
  refine Ev.pc 7 rfl ?_
  refine ev_if_eq 18 dX5_count_7 rfl (fun h7 => ?_) (fun h7 => ?_)
  · refine ev_aload_0 dX5_count_18 ?_
    refine ev_invV (ci := 5) dX5_count_19 ml_X5_102 mt_X5_bad (c_X5_bad d) (by first | assumption | decide) (by decide) rfl rfl rfl (rm_ok (by omega)) (Nat.le_of_ble_eq_true rfl) ?_
    refine Ev.pc 22 rfl ?_
    exact ev_ireturn dX5_count_22 ⟨by ((try simp only [b2i_0, b2i_1, Decidable.not_not] at *); simp only [countQ]; repeat' (first | with_reducible rfl | contradiction | (exfalso; simp_all; done) | split)), by ((try simp only [b2i_0, b2i_1, Decidable.not_not] at *); simp only [countQ, badS]; repeat' (first | with_reducible rfl | contradiction | (exfalso; simp_all; done) | split))⟩
  · refine ev_aload_0 dX5_count_10 ?_
    refine ev_iload_1 dX5_count_11 ?_
    refine ev_invV (ci := 5) dX5_count_12 ml_X5_377 mt_X5_countOf (c_X5_countOf d hP hP7 hH hH4) (by first | assumption | decide) (by decide) rfl rfl rfl (rm_ok (by omega)) (Nat.le_of_ble_eq_true rfl) ?_
    refine Ev.pc 15 rfl ?_
    refine ev_goto 22 dX5_count_15 rfl ?_
    exact ev_ireturn dX5_count_22 ⟨by ((try simp only [b2i_0, b2i_1, Decidable.not_not] at *); simp only [countQ]; repeat' (first | with_reducible rfl | contradiction | (exfalso; simp_all; done) | split)), by ((try simp only [b2i_0, b2i_1, Decidable.not_not] at *); simp only [countQ, badS]; repeat' (first | with_reducible rfl | contradiction | (exfalso; simp_all; done) | split))⟩
def statusQ (σ : xS) (w : Int32) : Int32 × xS := if w = 0 then (σ.1 0 10, σ) else if w = 1 then (σ.1 0 11, σ) else if w = 2 then (σ.1 0 12, σ) else (-1, badS σ)
theorem c_X5_status (d : Nat) {E : xE} {σ : xS} {w : Int32} : Ct E (d + 1) yX5_status cX5_status 2 (some .int) [.ref (E.1 0), .int w] σ (some (.int (statusQ σ w).1)) (statusQ σ w).2 := by
  refine Ct.of (by decide +kernel) (Nat.le_of_ble_eq_true rfl) ⟨_, rfl, rfl⟩ ?_
  show Ev E _ RX5 cX5_status 2 _ 0 [some (.ref (E.1 0)), some (.int w)] [] _
  refine ev_iload_1 dX5_status_0 ?_
  refine sw_X5_status_1 (fun h1 => ?_) (fun h1 => ?_) (fun h1 => ?_) (fun h1_0 h1_1 h1_2 => ?_)
  · refine ev_aload_0 dX5_status_28 ?_
    refine ev_get dX5_status_29 fk_X5_53 (by first | assumption | decide) (by decide) rfl ?_
    exact ev_ireturn dX5_status_32 ⟨by ((try simp only [b2i_0, b2i_1, Decidable.not_not] at *); simp only [statusQ]; repeat' (first | with_reducible rfl | contradiction | (exfalso; simp_all; done) | split)), by ((try simp only [b2i_0, b2i_1, Decidable.not_not] at *); simp only [statusQ, badS]; repeat' (first | with_reducible rfl | contradiction | (exfalso; simp_all; done) | split))⟩
  · refine ev_aload_0 dX5_status_33 ?_
    refine ev_get dX5_status_34 fk_X5_57 (by first | assumption | decide) (by decide) rfl ?_
    exact ev_ireturn dX5_status_37 ⟨by ((try simp only [b2i_0, b2i_1, Decidable.not_not] at *); simp only [statusQ]; repeat' (first | with_reducible rfl | contradiction | (exfalso; simp_all; done) | split)), by ((try simp only [b2i_0, b2i_1, Decidable.not_not] at *); simp only [statusQ, badS]; repeat' (first | with_reducible rfl | contradiction | (exfalso; simp_all; done) | split))⟩
  · refine ev_aload_0 dX5_status_38 ?_
    refine ev_get dX5_status_39 fk_X5_60 (by first | assumption | decide) (by decide) rfl ?_
    exact ev_ireturn dX5_status_42 ⟨by ((try simp only [b2i_0, b2i_1, Decidable.not_not] at *); simp only [statusQ]; repeat' (first | with_reducible rfl | contradiction | (exfalso; simp_all; done) | split)), by ((try simp only [b2i_0, b2i_1, Decidable.not_not] at *); simp only [statusQ, badS]; repeat' (first | with_reducible rfl | contradiction | (exfalso; simp_all; done) | split))⟩
  · refine ev_aload_0 dX5_status_43 ?_
    refine ev_iconst_m1 dX5_status_44 ?_
    refine ev_invV (ci := 5) dX5_status_45 ml_X5_73 mt_X5_bad_ (c_X5_bad_ d) (by first | assumption | decide) (by decide) rfl rfl rfl (rm_ok (by omega)) (Nat.le_of_ble_eq_true rfl) ?_
    refine Ev.pc 48 rfl ?_
    exact ev_ireturn dX5_status_48 ⟨by ((try simp only [b2i_0, b2i_1, Decidable.not_not] at *); simp only [statusQ]; repeat' (first | with_reducible rfl | contradiction | (exfalso; simp_all; done) | split)), by ((try simp only [b2i_0, b2i_1, Decidable.not_not] at *); simp only [statusQ, badS]; repeat' (first | with_reducible rfl | contradiction | (exfalso; simp_all; done) | split))⟩
def partQ (σ : xS) (w : Int32) : Int64 × xS := if w = 0 then (σ.2 0 8, σ) else if w = 1 then (σ.2 0 9, σ) else (-2, badS σ)
theorem c_X5_part (d : Nat) {E : xE} {σ : xS} {w : Int32} : Ct E (d + 2) yX5_part cX5_part 2 (some .long) [.ref (E.1 0), .int w] σ (some (.long (partQ σ w).1)) (partQ σ w).2 := by
  refine Ct.of (by decide +kernel) (Nat.le_of_ble_eq_true rfl) rfl ?_
  show Ev E _ RX5 cX5_part 2 _ 0 [some (.ref (E.1 0)), some (.int w)] [] _
  refine ev_iload_1 dX5_part_0 ?_
  refine sw_X5_part_1 (fun h1 => ?_) (fun h1 => ?_) (fun h1_0 h1_1 => ?_)
  · refine ev_aload_0 dX5_part_28 ?_
    refine ev_get dX5_part_29 fk_X5_46 (by first | assumption | decide) (by decide) rfl ?_
    exact ev_lreturn dX5_part_32 ⟨by ((try simp only [b2i_0, b2i_1, Decidable.not_not] at *); simp only [partQ]; repeat' (first | with_reducible rfl | contradiction | (exfalso; simp_all; done) | split)), by ((try simp only [b2i_0, b2i_1, Decidable.not_not] at *); simp only [partQ, badS]; repeat' (first | with_reducible rfl | contradiction | (exfalso; simp_all; done) | split))⟩
  · refine ev_aload_0 dX5_part_33 ?_
    refine ev_get dX5_part_34 fk_X5_50 (by first | assumption | decide) (by decide) rfl ?_
    exact ev_lreturn dX5_part_37 ⟨by ((try simp only [b2i_0, b2i_1, Decidable.not_not] at *); simp only [partQ]; repeat' (first | with_reducible rfl | contradiction | (exfalso; simp_all; done) | split)), by ((try simp only [b2i_0, b2i_1, Decidable.not_not] at *); simp only [partQ, badS]; repeat' (first | with_reducible rfl | contradiction | (exfalso; simp_all; done) | split))⟩
  · refine ev_aload_0 dX5_part_38 ?_
    refine ev_invV (ci := 5) dX5_part_39 ml_X5_102 mt_X5_bad (c_X5_bad d) (by first | assumption | decide) (by decide) rfl rfl rfl (rm_ok (by omega)) (Nat.le_of_ble_eq_true rfl) ?_
    refine Ev.pc 42 rfl ?_
    refine ev_i2l dX5_part_42 ?_
    exact ev_lreturn dX5_part_43 ⟨by (simp only [partQ, if_neg h1_0, if_neg h1_1]; exact congrArg (fun z => some (Value.long z)) (by decide)), by ((try simp only [b2i_0, b2i_1, Decidable.not_not] at *); simp only [partQ, badS]; repeat' (first | with_reducible rfl | contradiction | (exfalso; simp_all; done) | split))⟩
def imgId (i : Int32) : Nat := if i = 0 then 18 else 35
theorem imgId_ok (i : Int32) : ShopAt (imgId i) := by
  unfold imgId
  split
  · exact shop_18
  · exact shop_35
theorem c_X5_imageOf (d : Nat) {E : xE} {σ : xS} {i : Int32} : Ct E d yX5_imageOf cX5_imageOf 2 (some (.object "PledgeWindow$Shop")) [.ref (E.1 0), .int i] σ (some (.ref (E.1 (imgId i)))) σ := by
  refine Ct.of (by decide +kernel) (Nat.le_of_ble_eq_true rfl) ⟨_, rfl, Or.inl ⟨_, rfl⟩⟩ ?_
  show Ev E _ RX5 cX5_imageOf 2 _ 0 [some (.ref (E.1 0)), some (.int i)] [] _
  refine ev_iload_1 dX5_imageOf_0 ?_
  refine ev_if_ne 11 dX5_imageOf_1 rfl (fun h1 => ?_) (fun h1 => ?_)
  · refine ev_aload_0 dX5_imageOf_11 ?_
    refine ev_get dX5_imageOf_12 fk_X5_19 (by first | assumption | decide) (by decide) rfl ?_
    exact ev_areturn dX5_imageOf_15 ⟨by ((try simp only [b2i_0, b2i_1, Decidable.not_not] at *); simp only [imgId]; repeat' (first | with_reducible rfl | contradiction | (exfalso; simp_all; done) | split)), by rfl⟩
  · refine ev_aload_0 dX5_imageOf_4 ?_
    refine ev_get dX5_imageOf_5 fk_X5_16 (by first | assumption | decide) (by decide) rfl ?_
    refine ev_goto 15 dX5_imageOf_8 rfl ?_
    exact ev_areturn dX5_imageOf_15 ⟨by ((try simp only [b2i_0, b2i_1, Decidable.not_not] at *); simp only [imgId]; repeat' (first | with_reducible rfl | contradiction | (exfalso; simp_all; done) | split)), by rfl⟩
def imageQ (σ : xS) (i : Int32) : Int32 × xS := if btw i 0 1 then (1, xu (cpShop σ (imgId i) 1) (imgId i) 5 1) else (-2, badS σ)
theorem c_X5_image (d : Nat) {E : xE} {σ : xS} {i : Int32} : Ct E (d + 5) yX5_image cX5_image 3 (some .int) [.ref (E.1 0), .int i] σ (some (.int (imageQ σ i).1)) (imageQ σ i).2 := by
  have hh := (imgId_ok i).1
  refine Ct.of (by decide +kernel) (Nat.le_of_ble_eq_true rfl) ⟨_, rfl, rfl⟩ ?_
  show Ev E _ RX5 cX5_image 3 _ 0 [some (.ref (E.1 0)), some (.int i), none] [] _
  refine ev_iload_1 dX5_image_0 ?_
  refine ev_iconst_0 dX5_image_1 ?_
  refine ev_iconst_1 dX5_image_2 ?_
  refine ev_invS dX5_image_3 ml_X5_98 mt_X5_between (c_X5_between d) rfl rfl (rm_ok (by omega)) (Nat.le_of_ble_eq_true rfl) ?_
  refine Ev.pc 6 rfl ?_
  refine ev_if_ne 14 dX5_image_6 rfl (fun h6 => ?_) (fun h6 => ?_)
  · refine ev_aload_0 dX5_image_14 ?_
    refine ev_iload_1 dX5_image_15 ?_
    refine ev_invV (ci := 5) dX5_image_16 ml_X5_366 mt_X5_imageOf (c_X5_imageOf d) (by first | assumption | decide) (by decide) rfl rfl rfl (rm_ok (by omega)) (Nat.le_of_ble_eq_true rfl) ?_
    refine Ev.pc 19 rfl ?_
    refine ev_astore_2 dX5_image_19 rfl ?_
    refine ev_aload_2 dX5_image_20 ?_
    refine Ev.pc 21 rfl ?_
    refine ev_aload_0 dX5_image_21 ?_
    refine ev_get dX5_image_22 fk_X5_10 (by first | assumption | decide) (by decide) rfl ?_
    refine ev_invV (ci := 3) dX5_image_25 ml_X5_370 mt_X3_take (c_X3_take d (b := imgId i) (c := 1) (imgId_ok i) shop_1) (by first | assumption | decide) (by decide) rfl rfl rfl (rm_ok (by omega)) (Nat.le_of_ble_eq_true rfl) ?_
    refine Ev.pc 28 rfl ?_
    refine ev_aload_2 dX5_image_28 ?_
    refine ev_iconst_1 dX5_image_29 ?_
    refine Ev.pc 30 rfl ?_
    refine ev_putZ dX5_image_30 fk_X5_373 (by first | assumption | decide) (by decide) rfl (by decide) ?_
    refine ev_iconst_1 dX5_image_33 ?_
    exact ev_ireturn dX5_image_34 ⟨by ((try simp only [b2i_0, b2i_1, Decidable.not_not] at *); simp only [imageQ]; repeat' (first | with_reducible rfl | contradiction | (exfalso; simp_all; done) | split)), by ((try simp only [b2i_0, b2i_1, Decidable.not_not] at *); simp only [imageQ, badS]; repeat' (first | with_reducible rfl | contradiction | (exfalso; simp_all; done) | split))⟩
  · refine ev_aload_0 dX5_image_9 ?_
    refine ev_invV (ci := 5) dX5_image_10 ml_X5_102 mt_X5_bad (c_X5_bad d) (by first | assumption | decide) (by decide) rfl rfl rfl (rm_ok (by omega)) (Nat.le_of_ble_eq_true rfl) ?_
    refine Ev.pc 13 rfl ?_
    exact ev_ireturn dX5_image_13 ⟨by ((try simp only [b2i_0, b2i_1, Decidable.not_not] at *); simp only [imageQ]; repeat' (first | with_reducible rfl | contradiction | (exfalso; simp_all; done) | split)), by ((try simp only [b2i_0, b2i_1, Decidable.not_not] at *); simp only [imageQ, badS]; repeat' (first | with_reducible rfl | contradiction | (exfalso; simp_all; done) | split))⟩
def fromQ (σ : xS) (i : Int32) : Int32 × xS := if btw i 0 1 then if σ.1 (imgId i) 5 = 0 then (-3, noS σ) else (1, cpShop σ 1 (imgId i)) else (-2, badS σ)
theorem c_X5_from (d : Nat) {E : xE} {σ : xS} {i : Int32} : Ct E (d + 5) yX5_from cX5_from 3 (some .int) [.ref (E.1 0), .int i] σ (some (.int (fromQ σ i).1)) (fromQ σ i).2 := by
  have hh := (imgId_ok i).1
  refine Ct.of (by decide +kernel) (Nat.le_of_ble_eq_true rfl) ⟨_, rfl, rfl⟩ ?_
  show Ev E _ RX5 cX5_from 3 _ 0 [some (.ref (E.1 0)), some (.int i), none] [] _
  refine ev_iload_1 dX5_from_0 ?_
  refine ev_iconst_0 dX5_from_1 ?_
  refine ev_iconst_1 dX5_from_2 ?_
  refine ev_invS dX5_from_3 ml_X5_98 mt_X5_between (c_X5_between d) rfl rfl (rm_ok (by omega)) (Nat.le_of_ble_eq_true rfl) ?_
  refine Ev.pc 6 rfl ?_
  refine ev_if_ne 14 dX5_from_6 rfl (fun h6 => ?_) (fun h6 => ?_)
  · refine ev_aload_0 dX5_from_14 ?_
    refine ev_iload_1 dX5_from_15 ?_
    refine ev_invV (ci := 5) dX5_from_16 ml_X5_366 mt_X5_imageOf (c_X5_imageOf d) (by first | assumption | decide) (by decide) rfl rfl rfl (rm_ok (by omega)) (Nat.le_of_ble_eq_true rfl) ?_
    refine Ev.pc 19 rfl ?_
    refine ev_astore_2 dX5_from_19 rfl ?_
    refine ev_aload_2 dX5_from_20 ?_
    refine Ev.pc 21 rfl ?_
    refine ev_get dX5_from_21 fk_X5_373 (by first | assumption | decide) (by decide) rfl ?_
    refine ev_if_ne 32 dX5_from_24 rfl (fun h24 => ?_) (fun h24 => ?_)
    · refine ev_aload_0 dX5_from_32 ?_
      refine ev_get dX5_from_33 fk_X5_10 (by first | assumption | decide) (by decide) rfl ?_
      refine ev_aload_2 dX5_from_36 ?_
      refine ev_invV (ci := 3) dX5_from_37 ml_X5_370 mt_X3_take (c_X3_take d (b := 1) (c := imgId i) shop_1 (imgId_ok i)) (by first | assumption | decide) (by decide) rfl rfl rfl (rm_ok (by omega)) (Nat.le_of_ble_eq_true rfl) ?_
      refine Ev.pc 40 rfl ?_
      refine ev_iconst_1 dX5_from_40 ?_
      refine Ev.pc 41 rfl ?_
      exact ev_ireturn dX5_from_41 ⟨by ((try simp only [b2i_0, b2i_1, Decidable.not_not] at *); simp only [fromQ]; repeat' (first | with_reducible rfl | contradiction | (exfalso; simp_all; done) | split)), by ((try simp only [b2i_0, b2i_1, Decidable.not_not] at *); simp only [fromQ, badS, noS]; repeat' (first | with_reducible rfl | contradiction | (exfalso; simp_all; done) | split))⟩
    · refine ev_aload_0 dX5_from_27 ?_
      refine ev_invV (ci := 5) dX5_from_28 ml_X5_186 mt_X5_no (c_X5_no d) (by first | assumption | decide) (by decide) rfl rfl rfl (rm_ok (by omega)) (Nat.le_of_ble_eq_true rfl) ?_
      refine Ev.pc 31 rfl ?_
      exact ev_ireturn dX5_from_31 ⟨by ((try simp only [b2i_0, b2i_1, Decidable.not_not] at *); simp only [fromQ]; repeat' (first | with_reducible rfl | contradiction | (exfalso; simp_all; done) | split)), by ((try simp only [b2i_0, b2i_1, Decidable.not_not] at *); simp only [fromQ, badS, noS]; repeat' (first | with_reducible rfl | contradiction | (exfalso; simp_all; done) | split))⟩
  · refine ev_aload_0 dX5_from_9 ?_
    refine ev_invV (ci := 5) dX5_from_10 ml_X5_102 mt_X5_bad (c_X5_bad d) (by first | assumption | decide) (by decide) rfl rfl rfl (rm_ok (by omega)) (Nat.le_of_ble_eq_true rfl) ?_
    refine Ev.pc 13 rfl ?_
    exact ev_ireturn dX5_from_13 ⟨by ((try simp only [b2i_0, b2i_1, Decidable.not_not] at *); simp only [fromQ]; repeat' (first | with_reducible rfl | contradiction | (exfalso; simp_all; done) | split)), by ((try simp only [b2i_0, b2i_1, Decidable.not_not] at *); simp only [fromQ, badS, noS]; repeat' (first | with_reducible rfl | contradiction | (exfalso; simp_all; done) | split))⟩
