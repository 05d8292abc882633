/-! the reference: a town, good, joy, days -/
def mZero (f : Nat → Int32) (n : Nat) : Nat → Int32 := fun k => if k < n then 0 else f k
theorem mZero_s (f : Nat → Int32) (n : Nat) : upd (mZero f n) n 0 = mZero f (n + 1) := by
  funext k
  by_cases h : k = n
  · subst h; simp [upd, mZero]
  · simp [upd, mZero, h, show k < n + 1 ↔ k < n by omega]
theorem mZero_0 (f : Nat → Int32) : mZero f 0 = f := by funext k; simp [mZero]
theorem c_X6_begin (d : Nat) {E : xE} {σ : xS} {r : Nat} (hr : r < xN ∧ xcls r = 7) (hl : 106 ≤ xlen r) : Ct E d yX6_begin cX6_begin 2 none [.ref (E.1 r)] σ none (xrow σ r (mZero (σ.1 r) 106)) := by
  have loop : ∀ (n k : Nat), k + n = 106 → Ev E (rm d) RX6 cX6_begin 2 (fun v t => v = none ∧ t = xrow σ r (mZero (σ.1 r) 106)) 2 [some (.ref (E.1 r)), some (.int (nI k))] [] (xrow σ r (mZero (σ.1 r) k)) := by
    intro n
    induction n with
    | zero =>
      intro k hk
      refine ev_iload_1 dX6_begin_2 ?_
      refine ev_bipush (106) dX6_begin_3 rfl ?_
      refine ev_icmp_ge 18 dX6_begin_5 rfl (fun h5 => ?_) (fun h5 => ?_)
      · exact ev_return dX6_begin_18 ⟨by rfl, by (rw [show k = 106 by omega])⟩
      · exact absurd (show nI 106 ≤ nI k from nI_le (by omega) (by omega)) h5
    | succ n ih =>
      intro k hk
      refine ev_iload_1 dX6_begin_2 ?_
      refine ev_bipush (106) dX6_begin_3 rfl ?_
      refine ev_icmp_ge 18 dX6_begin_5 rfl (fun h5 => ?_) (fun h5 => ?_)
      · exact absurd h5 (show ¬ nI 106 ≤ nI k from nI_ge (by omega) (by omega))
      · refine ev_aload_0 dX6_begin_8 ?_
        refine ev_iload_1 dX6_begin_9 ?_
        refine ev_iconst_0 dX6_begin_10 ?_
        refine ev_astV dX6_begin_11 (by first | assumption | decide) (by have := xls; omega) ?_
        refine ev_iinc_1 (1) dX6_begin_12 rfl rfl ?_
        refine Ev.pc 15 rfl ?_
        refine ev_goto 2 dX6_begin_15 rfl ?_
        rw [nI_1, xrow_at, xrow_row, mZero_s]
        exact ih (k + 1) (by omega)
  refine Ct.of (by decide +kernel) (Nat.le_of_ble_eq_true rfl) rfl ?_
  show Ev E _ RX6 cX6_begin 2 _ 0 [some (.ref (E.1 r)), none] [] _
  refine ev_iconst_0 dX6_begin_0 ?_
  refine ev_istore_1 dX6_begin_1 rfl ?_
  have h := loop 106 0 (by omega)
  rw [mZero_0, xrow_id] at h
  exact h
theorem c_X6_town (d : Nat) {E : xE} {σ : xS} : Ct E (d + 1) yX6_town cX6_town 2 (some .int) [.ref (E.1 73)] σ (some (.int (σ.1 74 0))) (xrow σ 74 (mZero (σ.1 74) 106)) := by
  refine Ct.of (by decide +kernel) (Nat.le_of_ble_eq_true rfl) ⟨_, rfl, rfl⟩ ?_
  show Ev E _ RX6 cX6_town 2 _ 0 [some (.ref (E.1 73)), none] [] _
  refine ev_aload_0 dX6_town_0 ?_
  refine ev_invV (ci := 6) dX6_town_1 ml_X6_52 mt_X6_many (c_X6_many d) (by first | assumption | decide) (by decide) rfl rfl rfl (rm_ok (by omega)) (Nat.le_of_ble_eq_true rfl) ?_
  refine Ev.pc 4 rfl ?_
  refine ev_istore_1 dX6_town_4 rfl ?_
  refine ev_aload_0 dX6_town_5 ?_
  refine ev_get dX6_town_6 fk_X6_7 (by first | assumption | decide) (by decide) rfl ?_
  refine Ev.pc 9 rfl ?_
  refine ev_invS dX6_town_9 ml_X6_48 mt_X6_begin (c_X6_begin d (by first | assumption | decide) (by have := xls; omega)) rfl rfl (rm_ok (by omega)) (Nat.le_of_ble_eq_true rfl) ?_
  refine Ev.pc 12 rfl ?_
  refine ev_iload_1 dX6_town_12 ?_
  exact ev_ireturn dX6_town_13 ⟨by rfl, by rfl⟩
def mLay (f : Nat → Int32) (P : Nat) (k w : Int32) : Nat → Int32 := upd (upd (upd (upd (upd f (26 + P) k) (33 + P) w) (7 + P) 0) (14 + P) 0) 0 (nI (P + 1))
theorem c_X6_layPromise (d : Nat) {E : xE} {σ : xS} {r P : Nat} {k w : Int32} (hr : r < xN ∧ xcls r = 7) (hl : 106 ≤ xlen r) (hP : σ.1 r 0 = nI P) (hP7 : P < 7) : Ct E d yX6_layPromise cX6_layPromise 4 none [.ref (E.1 r), .int k, .int w] σ none (xrow σ r (mLay (σ.1 r) P k w)) := by
  refine Ct.of (by decide +kernel) (Nat.le_of_ble_eq_true rfl) rfl ?_
  show Ev E _ RX6 cX6_layPromise 4 _ 0 [some (.ref (E.1 r)), some (.int k), some (.int w), none] [] _
  refine ev_aload_0 dX6_layPromise_0 ?_
  refine ev_iconst_0 dX6_layPromise_1 ?_
  refine ev_aldL (n := 0) dX6_layPromise_2 (by first | assumption | decide) (by have := xls; omega) ?_
  rw [hP]
  refine ev_istore_3 dX6_layPromise_3 rfl ?_
  refine ev_aload_0 dX6_layPromise_4 ?_
  refine Ev.pc 5 rfl ?_
  refine ev_bipush (26) dX6_layPromise_5 rfl ?_
  refine ev_iload_3 dX6_layPromise_7 ?_
  refine ev_iadd dX6_layPromise_8 ?_
  refine ev_iload_1 dX6_layPromise_9 ?_
  refine ev_astA (n := 26) dX6_layPromise_10 (by first | assumption | decide) (by have := xls; omega) ?_
  refine Ev.pc 11 rfl ?_
  refine ev_aload_0 dX6_layPromise_11 ?_
  refine ev_bipush (33) dX6_layPromise_12 rfl ?_
  refine ev_iload_3 dX6_layPromise_14 ?_
  refine ev_iadd dX6_layPromise_15 ?_
  refine ev_iload_2 dX6_layPromise_16 ?_
  refine Ev.pc 17 rfl ?_
  refine ev_astA (n := 33) dX6_layPromise_17 (by first | assumption | decide) (by have := xls; omega) ?_
  refine ev_aload_0 dX6_layPromise_18 ?_
  refine ev_bipush (7) dX6_layPromise_19 rfl ?_
  refine ev_iload_3 dX6_layPromise_21 ?_
  refine ev_iadd dX6_layPromise_22 ?_
  refine Ev.pc 23 rfl ?_
  refine ev_iconst_0 dX6_layPromise_23 ?_
  refine ev_astA (n := 7) dX6_layPromise_24 (by first | assumption | decide) (by have := xls; omega) ?_
  refine ev_aload_0 dX6_layPromise_25 ?_
  refine ev_bipush (14) dX6_layPromise_26 rfl ?_
  refine ev_iload_3 dX6_layPromise_28 ?_
  refine Ev.pc 29 rfl ?_
  refine ev_iadd dX6_layPromise_29 ?_
  refine ev_iconst_0 dX6_layPromise_30 ?_
  refine ev_astA (n := 14) dX6_layPromise_31 (by first | assumption | decide) (by have := xls; omega) ?_
  refine ev_aload_0 dX6_layPromise_32 ?_
  refine ev_iconst_0 dX6_layPromise_33 ?_
  refine Ev.pc 34 rfl ?_
  refine ev_dup2 dX6_layPromise_34 rfl rfl ?_
  refine ev_aldL (n := 0) dX6_layPromise_35 (by first | assumption | decide) (by have := xls; omega) ?_
  refine ev_iconst_1 dX6_layPromise_36 ?_
  refine ev_iadd dX6_layPromise_37 ?_
  refine ev_astL (n := 0) dX6_layPromise_38 (by first | assumption | decide) (by have := xls; omega) ?_
  refine Ev.pc 39 rfl ?_
  exact ev_return dX6_layPromise_39 ⟨by rfl, by (simp only [xrow_at, xrow_row]; rw [upd_ne _ _ (by omega), upd_ne _ _ (by omega), upd_ne _ _ (by omega), upd_ne _ _ (by omega), hP, nI_1]; rfl)⟩
def mPromise (σ : xS) (P : Nat) (k w : Int32) : Int32 × xS :=
  if btw k 0 5 then (if btw w 1 9 then (if P = 7 then (-4, mFull σ) else (nI P, xrow σ 74 (upd (mLay (σ.1 74) P k w) 6 0))) else (-2, mBad σ)) else (-2, mBad σ)
theorem c_X6_promise (d : Nat) {E : xE} {σ : xS} {P : Nat} {k w : Int32} (hP : σ.1 74 0 = nI P) (hP7 : P ≤ 7) : Ct E (d + 2) yX6_promise cX6_promise 3 (some .int) [.ref (E.1 73), .int k, .int w] σ (some (.int (mPromise σ P k w).1)) (mPromise σ P k w).2 := by
  by_cases q7 : P = 7
  ·
    refine Ct.of (by decide +kernel) (Nat.le_of_ble_eq_true rfl) ⟨_, rfl, rfl⟩ ?_
    show Ev E _ RX6 cX6_promise 3 _ 0 [some (.ref (E.1 73)), some (.int k), some (.int w)] [] _
    refine ev_iload_1 dX6_promise_0 ?_
    refine ev_invS dX6_promise_1 ml_X6_64 mt_X6_isKind (c_X6_isKind d) rfl rfl (rm_ok (by omega)) (Nat.le_of_ble_eq_true rfl) ?_
    refine Ev.pc 4 rfl ?_
    refine ev_if_eq 14 dX6_promise_4 rfl (fun h4 => ?_) (fun h4 => ?_)
    · refine ev_aload_0 dX6_promise_14 ?_
      refine ev_bipush (-2) dX6_promise_15 rfl ?_
      refine ev_invV (ci := 6) dX6_promise_17 ml_X6_71 mt_X6_bad (c_X6_bad d) (by first | assumption | decide) (by decide) rfl rfl rfl (rm_ok (by omega)) (Nat.le_of_ble_eq_true rfl) ?_
      refine Ev.pc 20 rfl ?_
      exact ev_ireturn dX6_promise_20 ⟨by ((try simp only [b2i_0, b2i_1, Decidable.not_not] at *); simp only [mPromise]; repeat' (first | with_reducible rfl | contradiction | (exfalso; simp_all; done) | split)), by ((try simp only [b2i_0, b2i_1, Decidable.not_not] at *); simp only [mPromise]; repeat' (first | with_reducible rfl | contradiction | (exfalso; simp_all; done) | split))⟩
    · refine ev_iload_2 dX6_promise_7 ?_
      refine ev_invS dX6_promise_8 ml_X6_68 mt_X6_isNine (c_X6_isNine d) rfl rfl (rm_ok (by omega)) (Nat.le_of_ble_eq_true rfl) ?_
      refine Ev.pc 11 rfl ?_
      refine ev_if_ne 21 dX6_promise_11 rfl (fun h11 => ?_) (fun h11 => ?_)
      · refine ev_aload_0 dX6_promise_21 ?_
        refine ev_invV (ci := 6) dX6_promise_22 ml_X6_52 mt_X6_many (c_X6_many d) (by first | assumption | decide) (by decide) rfl rfl rfl (rm_ok (by omega)) (Nat.le_of_ble_eq_true rfl) ?_
        refine Ev.pc 25 rfl ?_
        refine ev_bipush (7) dX6_promise_25 rfl ?_
        refine ev_icmp_ne 35 dX6_promise_27 rfl (fun h27 => ?_) (fun h27 => ?_)
        · exact absurd (show σ.1 74 0 = 7 by rw [hP, q7]; rfl) h27
        · refine ev_aload_0 dX6_promise_30 ?_
          refine ev_invV (ci := 6) dX6_promise_31 ml_X6_75 mt_X6_full (c_X6_full d) (by first | assumption | decide) (by decide) rfl rfl rfl (rm_ok (by omega)) (Nat.le_of_ble_eq_true rfl) ?_
          refine Ev.pc 34 rfl ?_
          exact ev_ireturn dX6_promise_34 ⟨by ((try simp only [b2i_0, b2i_1, Decidable.not_not] at *); simp only [mPromise]; repeat' (first | with_reducible rfl | contradiction | (exfalso; simp_all; done) | split)), by ((try simp only [b2i_0, b2i_1, Decidable.not_not] at *); simp only [mPromise]; repeat' (first | with_reducible rfl | contradiction | (exfalso; simp_all; done) | split))⟩
      · refine ev_aload_0 dX6_promise_14 ?_
        refine ev_bipush (-2) dX6_promise_15 rfl ?_
        refine ev_invV (ci := 6) dX6_promise_17 ml_X6_71 mt_X6_bad (c_X6_bad d) (by first | assumption | decide) (by decide) rfl rfl rfl (rm_ok (by omega)) (Nat.le_of_ble_eq_true rfl) ?_
        refine Ev.pc 20 rfl ?_
        exact ev_ireturn dX6_promise_20 ⟨by ((try simp only [b2i_0, b2i_1, Decidable.not_not] at *); simp only [mPromise]; repeat' (first | with_reducible rfl | contradiction | (exfalso; simp_all; done) | split)), by ((try simp only [b2i_0, b2i_1, Decidable.not_not] at *); simp only [mPromise]; repeat' (first | with_reducible rfl | contradiction | (exfalso; simp_all; done) | split))⟩
  ·
    refine Ct.of (by decide +kernel) (Nat.le_of_ble_eq_true rfl) ⟨_, rfl, rfl⟩ ?_
    show Ev E _ RX6 cX6_promise 3 _ 0 [some (.ref (E.1 73)), some (.int k), some (.int w)] [] _
    refine ev_iload_1 dX6_promise_0 ?_
    refine ev_invS dX6_promise_1 ml_X6_64 mt_X6_isKind (c_X6_isKind d) rfl rfl (rm_ok (by omega)) (Nat.le_of_ble_eq_true rfl) ?_
    refine Ev.pc 4 rfl ?_
    refine ev_if_eq 14 dX6_promise_4 rfl (fun h4 => ?_) (fun h4 => ?_)
    · refine ev_aload_0 dX6_promise_14 ?_
      refine ev_bipush (-2) dX6_promise_15 rfl ?_
      refine ev_invV (ci := 6) dX6_promise_17 ml_X6_71 mt_X6_bad (c_X6_bad d) (by first | assumption | decide) (by decide) rfl rfl rfl (rm_ok (by omega)) (Nat.le_of_ble_eq_true rfl) ?_
      refine Ev.pc 20 rfl ?_
      exact ev_ireturn dX6_promise_20 ⟨by ((try simp only [b2i_0, b2i_1, Decidable.not_not] at *); simp only [mPromise]; repeat' (first | with_reducible rfl | contradiction | (exfalso; simp_all; done) | split)), by ((try simp only [b2i_0, b2i_1, Decidable.not_not] at *); simp only [mPromise]; repeat' (first | with_reducible rfl | contradiction | (exfalso; simp_all; done) | split))⟩
    · refine ev_iload_2 dX6_promise_7 ?_
      refine ev_invS dX6_promise_8 ml_X6_68 mt_X6_isNine (c_X6_isNine d) rfl rfl (rm_ok (by omega)) (Nat.le_of_ble_eq_true rfl) ?_
      refine Ev.pc 11 rfl ?_
      refine ev_if_ne 21 dX6_promise_11 rfl (fun h11 => ?_) (fun h11 => ?_)
      · refine ev_aload_0 dX6_promise_21 ?_
        refine ev_invV (ci := 6) dX6_promise_22 ml_X6_52 mt_X6_many (c_X6_many d) (by first | assumption | decide) (by decide) rfl rfl rfl (rm_ok (by omega)) (Nat.le_of_ble_eq_true rfl) ?_
        refine Ev.pc 25 rfl ?_
        refine ev_bipush (7) dX6_promise_25 rfl ?_
        refine ev_icmp_ne 35 dX6_promise_27 rfl (fun h27 => ?_) (fun h27 => ?_)
        · refine ev_aload_0 dX6_promise_35 ?_
          refine ev_get dX6_promise_36 fk_X6_7 (by first | assumption | decide) (by decide) rfl ?_
          refine ev_iload_1 dX6_promise_39 ?_
          refine ev_iload_2 dX6_promise_40 ?_
          refine ev_invS dX6_promise_41 ml_X6_78 mt_X6_layPromise (c_X6_layPromise d (r := 74) (P := P) (by decide) (by have := xls; omega) hP (by omega)) rfl rfl (rm_ok (by omega)) (Nat.le_of_ble_eq_true rfl) ?_
          refine Ev.pc 44 rfl ?_
          refine ev_aload_0 dX6_promise_44 ?_
          refine ev_get dX6_promise_45 fk_X6_7 (by first | assumption | decide) (by decide) rfl ?_
          refine ev_bipush (6) dX6_promise_48 rfl ?_
          refine ev_iconst_0 dX6_promise_50 ?_
          refine ev_astL (n := 6) dX6_promise_51 (by first | assumption | decide) (by have := xls; omega) ?_
          refine Ev.pc 52 rfl ?_
          refine ev_aload_0 dX6_promise_52 ?_
          refine ev_invV (ci := 6) dX6_promise_53 ml_X6_52 mt_X6_many (c_X6_many d) (by first | assumption | decide) (by decide) rfl rfl rfl (rm_ok (by omega)) (Nat.le_of_ble_eq_true rfl) ?_
          rw [show (xrow (xrow σ 74 (mLay (σ.1 74) P k w)) 74 (upd ((xrow σ 74 (mLay (σ.1 74) P k w)).1 74) 6 0)).1 74 0 = nI (P + 1) by simp [xrow, upd, mLay]]
          refine Ev.pc 56 rfl ?_
          refine ev_iconst_1 dX6_promise_56 ?_
          refine ev_isub dX6_promise_57 ?_
          exact ev_ireturn dX6_promise_58 ⟨by (rw [nI_pred]; ((try simp only [b2i_0, b2i_1, Decidable.not_not] at *); simp only [mPromise]; repeat' (first | with_reducible rfl | contradiction | (exfalso; simp_all; done) | split))), by (rw [xrow_row, xrow_at]; ((try simp only [b2i_0, b2i_1, Decidable.not_not] at *); simp only [mPromise]; repeat' (first | with_reducible rfl | contradiction | (exfalso; simp_all; done) | split)))⟩
        · exact absurd ((nI_eq (a := P) (b := 7) (by omega) (by omega)).mp (by rw [← hP]; exact h27)) q7
      · refine ev_aload_0 dX6_promise_14 ?_
        refine ev_bipush (-2) dX6_promise_15 rfl ?_
        refine ev_invV (ci := 6) dX6_promise_17 ml_X6_71 mt_X6_bad (c_X6_bad d) (by first | assumption | decide) (by decide) rfl rfl rfl (rm_ok (by omega)) (Nat.le_of_ble_eq_true rfl) ?_
        refine Ev.pc 20 rfl ?_
        exact ev_ireturn dX6_promise_20 ⟨by ((try simp only [b2i_0, b2i_1, Decidable.not_not] at *); simp only [mPromise]; repeat' (first | with_reducible rfl | contradiction | (exfalso; simp_all; done) | split)), by ((try simp only [b2i_0, b2i_1, Decidable.not_not] at *); simp only [mPromise]; repeat' (first | with_reducible rfl | contradiction | (exfalso; simp_all; done) | split))⟩
def mHearer (σ : xS) (H : Nat) (k w : Int32) : Int32 × xS :=
  if btw k 0 5 then (if btw w 1 9 then (if H = 4 then (-4, mFull σ) else (nI H, xrow σ 74 (upd (upd (upd (upd (σ.1 74) (40 + H) k) (44 + H) w) 1 (nI (H + 1))) 6 0))) else (-2, mBad σ)) else (-2, mBad σ)
theorem c_X6_hearer (d : Nat) {E : xE} {σ : xS} {H : Nat} {k w : Int32} (hH : σ.1 74 1 = nI H) (hH4 : H ≤ 4) : Ct E (d + 2) yX6_hearer cX6_hearer 3 (some .int) [.ref (E.1 73), .int k, .int w] σ (some (.int (mHearer σ H k w).1)) (mHearer σ H k w).2 := by
  by_cases q7 : H = 4
  ·
    refine Ct.of (by decide +kernel) (Nat.le_of_ble_eq_true rfl) ⟨_, rfl, rfl⟩ ?_
    show Ev E _ RX6 cX6_hearer 3 _ 0 [some (.ref (E.1 73)), some (.int k), some (.int w)] [] _
    refine ev_iload_1 dX6_hearer_0 ?_
    refine ev_invS dX6_hearer_1 ml_X6_64 mt_X6_isKind (c_X6_isKind d) rfl rfl (rm_ok (by omega)) (Nat.le_of_ble_eq_true rfl) ?_
    refine Ev.pc 4 rfl ?_
    refine ev_if_eq 14 dX6_hearer_4 rfl (fun h4 => ?_) (fun h4 => ?_)
    · refine ev_aload_0 dX6_hearer_14 ?_
      refine ev_bipush (-2) dX6_hearer_15 rfl ?_
      refine ev_invV (ci := 6) dX6_hearer_17 ml_X6_71 mt_X6_bad (c_X6_bad d) (by first | assumption | decide) (by decide) rfl rfl rfl (rm_ok (by omega)) (Nat.le_of_ble_eq_true rfl) ?_
      refine Ev.pc 20 rfl ?_
      exact ev_ireturn dX6_hearer_20 ⟨by ((try simp only [b2i_0, b2i_1, Decidable.not_not] at *); simp only [mHearer]; repeat' (first | with_reducible rfl | contradiction | (exfalso; simp_all; done) | split)), by ((try simp only [b2i_0, b2i_1, Decidable.not_not] at *); simp only [mHearer]; repeat' (first | with_reducible rfl | contradiction | (exfalso; simp_all; done) | split))⟩
    · refine ev_iload_2 dX6_hearer_7 ?_
      refine ev_invS dX6_hearer_8 ml_X6_68 mt_X6_isNine (c_X6_isNine d) rfl rfl (rm_ok (by omega)) (Nat.le_of_ble_eq_true rfl) ?_
      refine Ev.pc 11 rfl ?_
      refine ev_if_ne 21 dX6_hearer_11 rfl (fun h11 => ?_) (fun h11 => ?_)
      · refine ev_aload_0 dX6_hearer_21 ?_
        refine ev_get dX6_hearer_22 fk_X6_7 (by first | assumption | decide) (by decide) rfl ?_
        refine ev_iconst_1 dX6_hearer_25 ?_
        refine ev_aldL (n := 1) dX6_hearer_26 (by first | assumption | decide) (by have := xls; omega) ?_
        refine ev_iconst_4 dX6_hearer_27 ?_
        refine Ev.pc 28 rfl ?_
        refine ev_icmp_ne 36 dX6_hearer_28 rfl (fun h28 => ?_) (fun h28 => ?_)
        · exact absurd (show σ.1 74 1 = 4 by rw [hH, q7]; rfl) h28
        · refine ev_aload_0 dX6_hearer_31 ?_
          refine ev_invV (ci := 6) dX6_hearer_32 ml_X6_75 mt_X6_full (c_X6_full d) (by first | assumption | decide) (by decide) rfl rfl rfl (rm_ok (by omega)) (Nat.le_of_ble_eq_true rfl) ?_
          refine Ev.pc 35 rfl ?_
          exact ev_ireturn dX6_hearer_35 ⟨by ((try simp only [b2i_0, b2i_1, Decidable.not_not] at *); simp only [mHearer]; repeat' (first | with_reducible rfl | contradiction | (exfalso; simp_all; done) | split)), by ((try simp only [b2i_0, b2i_1, Decidable.not_not] at *); simp only [mHearer]; repeat' (first | with_reducible rfl | contradiction | (exfalso; simp_all; done) | split))⟩
      · refine ev_aload_0 dX6_hearer_14 ?_
        refine ev_bipush (-2) dX6_hearer_15 rfl ?_
        refine ev_invV (ci := 6) dX6_hearer_17 ml_X6_71 mt_X6_bad (c_X6_bad d) (by first | assumption | decide) (by decide) rfl rfl rfl (rm_ok (by omega)) (Nat.le_of_ble_eq_true rfl) ?_
        refine Ev.pc 20 rfl ?_
        exact ev_ireturn dX6_hearer_20 ⟨by ((try simp only [b2i_0, b2i_1, Decidable.not_not] at *); simp only [mHearer]; repeat' (first | with_reducible rfl | contradiction | (exfalso; simp_all; done) | split)), by ((try simp only [b2i_0, b2i_1, Decidable.not_not] at *); simp only [mHearer]; repeat' (first | with_reducible rfl | contradiction | (exfalso; simp_all; done) | split))⟩
  ·
    refine Ct.of (by decide +kernel) (Nat.le_of_ble_eq_true rfl) ⟨_, rfl, rfl⟩ ?_
    show Ev E _ RX6 cX6_hearer 3 _ 0 [some (.ref (E.1 73)), some (.int k), some (.int w)] [] _
    refine ev_iload_1 dX6_hearer_0 ?_
    refine ev_invS dX6_hearer_1 ml_X6_64 mt_X6_isKind (c_X6_isKind d) rfl rfl (rm_ok (by omega)) (Nat.le_of_ble_eq_true rfl) ?_
    refine Ev.pc 4 rfl ?_
    refine ev_if_eq 14 dX6_hearer_4 rfl (fun h4 => ?_) (fun h4 => ?_)
    · refine ev_aload_0 dX6_hearer_14 ?_
      refine ev_bipush (-2) dX6_hearer_15 rfl ?_
      refine ev_invV (ci := 6) dX6_hearer_17 ml_X6_71 mt_X6_bad (c_X6_bad d) (by first | assumption | decide) (by decide) rfl rfl rfl (rm_ok (by omega)) (Nat.le_of_ble_eq_true rfl) ?_
      refine Ev.pc 20 rfl ?_
      exact ev_ireturn dX6_hearer_20 ⟨by ((try simp only [b2i_0, b2i_1, Decidable.not_not] at *); simp only [mHearer]; repeat' (first | with_reducible rfl | contradiction | (exfalso; simp_all; done) | split)), by ((try simp only [b2i_0, b2i_1, Decidable.not_not] at *); simp only [mHearer]; repeat' (first | with_reducible rfl | contradiction | (exfalso; simp_all; done) | split))⟩
    · refine ev_iload_2 dX6_hearer_7 ?_
      refine ev_invS dX6_hearer_8 ml_X6_68 mt_X6_isNine (c_X6_isNine d) rfl rfl (rm_ok (by omega)) (Nat.le_of_ble_eq_true rfl) ?_
      refine Ev.pc 11 rfl ?_
      refine ev_if_ne 21 dX6_hearer_11 rfl (fun h11 => ?_) (fun h11 => ?_)
      · refine ev_aload_0 dX6_hearer_21 ?_
        refine ev_get dX6_hearer_22 fk_X6_7 (by first | assumption | decide) (by decide) rfl ?_
        refine ev_iconst_1 dX6_hearer_25 ?_
        refine ev_aldL (n := 1) dX6_hearer_26 (by first | assumption | decide) (by have := xls; omega) ?_
        refine ev_iconst_4 dX6_hearer_27 ?_
        refine Ev.pc 28 rfl ?_
        refine ev_icmp_ne 36 dX6_hearer_28 rfl (fun h28 => ?_) (fun h28 => ?_)
        · refine ev_aload_0 dX6_hearer_36 ?_
          refine ev_get dX6_hearer_37 fk_X6_7 (by first | assumption | decide) (by decide) rfl ?_
          refine ev_bipush (40) dX6_hearer_40 rfl ?_
          refine ev_aload_0 dX6_hearer_42 ?_
          refine ev_get dX6_hearer_43 fk_X6_7 (by first | assumption | decide) (by decide) rfl ?_
          refine Ev.pc 46 rfl ?_
          refine ev_iconst_1 dX6_hearer_46 ?_
          refine ev_aldL (n := 1) dX6_hearer_47 (by first | assumption | decide) (by have := xls; omega) ?_
          rw [hH]
          refine ev_iadd dX6_hearer_48 ?_
          refine ev_iload_1 dX6_hearer_49 ?_
          refine ev_astA (n := 40) dX6_hearer_50 (by first | assumption | decide) (by have := xls; omega) ?_
          refine Ev.pc 51 rfl ?_
          refine ev_aload_0 dX6_hearer_51 ?_
          refine ev_get dX6_hearer_52 fk_X6_7 (by first | assumption | decide) (by decide) rfl ?_
          refine ev_bipush (44) dX6_hearer_55 rfl ?_
          refine ev_aload_0 dX6_hearer_57 ?_
          refine ev_get dX6_hearer_58 fk_X6_7 (by first | assumption | decide) (by decide) rfl ?_
          refine Ev.pc 61 rfl ?_
          refine ev_iconst_1 dX6_hearer_61 ?_
          refine ev_aldL (n := 1) dX6_hearer_62 (by first | assumption | decide) (by have := xls; omega) ?_
          rw [xrow_at, upd_ne _ _ (by omega), hH]
          refine ev_iadd dX6_hearer_63 ?_
          refine ev_iload_2 dX6_hearer_64 ?_
          refine ev_astA (n := 44) dX6_hearer_65 (by first | assumption | decide) (by have := xls; omega) ?_
          refine Ev.pc 66 rfl ?_
          refine ev_aload_0 dX6_hearer_66 ?_
          refine ev_get dX6_hearer_67 fk_X6_7 (by first | assumption | decide) (by decide) rfl ?_
          refine ev_iconst_1 dX6_hearer_70 ?_
          refine ev_dup2 dX6_hearer_71 rfl rfl ?_
          refine ev_aldL (n := 1) dX6_hearer_72 (by first | assumption | decide) (by have := xls; omega) ?_
          refine Ev.pc 73 rfl ?_
          simp only [xrow_row, xrow_at]
          rw [upd_ne _ _ (by omega), upd_ne _ _ (by omega), hH]
          refine ev_iconst_1 dX6_hearer_73 ?_
          refine ev_iadd dX6_hearer_74 ?_
          rw [nI_1]
          refine ev_astL (n := 1) dX6_hearer_75 (by first | assumption | decide) (by have := xls; omega) ?_
          simp only [xrow_row, xrow_at]
          refine ev_aload_0 dX6_hearer_76 ?_
          refine ev_get dX6_hearer_77 fk_X6_7 (by first | assumption | decide) (by decide) rfl ?_
          refine Ev.pc 80 rfl ?_
          refine ev_bipush (6) dX6_hearer_80 rfl ?_
          refine ev_iconst_0 dX6_hearer_82 ?_
          refine ev_astL (n := 6) dX6_hearer_83 (by first | assumption | decide) (by have := xls; omega) ?_
          simp only [xrow_row, xrow_at]
          refine ev_aload_0 dX6_hearer_84 ?_
          refine ev_get dX6_hearer_85 fk_X6_7 (by first | assumption | decide) (by decide) rfl ?_
          refine Ev.pc 88 rfl ?_
          refine ev_iconst_1 dX6_hearer_88 ?_
          refine ev_aldL (n := 1) dX6_hearer_89 (by first | assumption | decide) (by have := xls; omega) ?_
          rw [xrow_at, upd_ne _ _ (by omega), upd_at]
          refine ev_iconst_1 dX6_hearer_90 ?_
          refine ev_isub dX6_hearer_91 ?_
          exact ev_ireturn dX6_hearer_92 ⟨by (rw [nI_pred]; ((try simp only [b2i_0, b2i_1, Decidable.not_not] at *); simp only [mHearer]; repeat' (first | with_reducible rfl | contradiction | (exfalso; simp_all; done) | split))), by ((try simp only [b2i_0, b2i_1, Decidable.not_not] at *); simp only [mHearer]; repeat' (first | with_reducible rfl | contradiction | (exfalso; simp_all; done) | split))⟩
        · exact absurd ((nI_eq (a := H) (b := 4) (by omega) (by omega)).mp (by rw [← hH]; exact h28)) q7
      · refine ev_aload_0 dX6_hearer_14 ?_
        refine ev_bipush (-2) dX6_hearer_15 rfl ?_
        refine ev_invV (ci := 6) dX6_hearer_17 ml_X6_71 mt_X6_bad (c_X6_bad d) (by first | assumption | decide) (by decide) rfl rfl rfl (rm_ok (by omega)) (Nat.le_of_ble_eq_true rfl) ?_
        refine Ev.pc 20 rfl ?_
        exact ev_ireturn dX6_hearer_20 ⟨by ((try simp only [b2i_0, b2i_1, Decidable.not_not] at *); simp only [mHearer]; repeat' (first | with_reducible rfl | contradiction | (exfalso; simp_all; done) | split)), by ((try simp only [b2i_0, b2i_1, Decidable.not_not] at *); simp only [mHearer]; repeat' (first | with_reducible rfl | contradiction | (exfalso; simp_all; done) | split))⟩
