/-! the class's calls: a town, days -/
def badS (σ : xS) : xS := xu σ 0 10 (σ.1 0 10 + 1)
def noS (σ : xS) : xS := xu σ 0 11 (σ.1 0 11 + 1)
def fullS (σ : xS) : xS := xu σ 0 12 (σ.1 0 12 + 1)
abbrev btw (v a b : Int32) : Prop := a ≤ v ∧ v ≤ b
theorem c_X5_town (d : Nat) {E : xE} {σ : xS} : Ct E (d + 2) yX5_town cX5_town 2 (some .int) [.ref (E.1 0)] σ (some (.int (σ.1 2 7))) (emptyS σ) := by
  refine Ct.of (by decide +kernel) (Nat.le_of_ble_eq_true rfl) ⟨_, rfl, rfl⟩ ?_
  show Ev E _ RX5 cX5_town 2 _ 0 [some (.ref (E.1 0)), none] [] _
  refine ev_aload_0 dX5_town_0 ?_
  refine ev_get dX5_town_1 fk_X5_10 (by first | assumption | decide) (by decide) rfl ?_
  refine ev_get dX5_town_4 fk_X5_89 (by first | assumption | decide) (by decide) rfl ?_
  simp only [Nat.reduceAdd]
  refine ev_get dX5_town_7 fk_X5_92 (by first | assumption | decide) (by decide) rfl ?_
  refine ev_istore_1 dX5_town_10 rfl ?_
  refine Ev.pc 11 rfl ?_
  refine ev_aload_0 dX5_town_11 ?_
  refine ev_get dX5_town_12 fk_X5_10 (by first | assumption | decide) (by decide) rfl ?_
  refine ev_invV (ci := 3) dX5_town_15 ml_X5_95 mt_X3_empty (c_X3_empty d) (by first | assumption | decide) (by decide) rfl rfl rfl (rm_ok (by omega)) (Nat.le_of_ble_eq_true rfl) ?_
  refine Ev.pc 18 rfl ?_
  refine ev_iload_1 dX5_town_18 ?_
  exact ev_ireturn dX5_town_19 ⟨by rfl, by rfl⟩
def promiseC (σ : xS) (P : Nat) (k w : Int32) : Int32 × xS :=
  if btw k 0 5 then (if btw w 1 9 then (if 7 ≤ P then (-4, fullS σ) else (nI P, xu (xu (xu (xu (xu (xu σ 10 1 0) 3 P k) 4 P w) 5 P 0) 6 P 0) 2 7 (nI (P + 1)))) else (-2, badS σ)) else (-2, badS σ)
theorem c_X5_promise (d : Nat) {E : xE} {σ : xS} {P : Nat} {k w : Int32} (hP : σ.1 2 7 = nI P) (hP7 : P ≤ 7) : Ct E (d + 2) yX5_promise cX5_promise 3 (some .int) [.ref (E.1 0), .int k, .int w] σ (some (.int (promiseC σ P k w).1)) (promiseC σ P k w).2 := by
  rcases Nat.lt_or_ge P 7 with q7 | q7
  ·
    have h77 : ¬ 7 ≤ P := by omega
    refine Ct.of (by decide +kernel) (Nat.le_of_ble_eq_true rfl) ⟨_, rfl, rfl⟩ ?_
    show Ev E _ RX5 cX5_promise 3 _ 0 [some (.ref (E.1 0)), some (.int k), some (.int w)] [] _
    refine ev_iload_1 dX5_promise_0 ?_
    refine ev_iconst_0 dX5_promise_1 ?_
    refine ev_iconst_5 dX5_promise_2 ?_
    refine ev_invS dX5_promise_3 ml_X5_98 mt_X5_between (c_X5_between d) rfl rfl (rm_ok (by omega)) (Nat.le_of_ble_eq_true rfl) ?_
    refine Ev.pc 6 rfl ?_
    refine ev_if_eq 19 dX5_promise_6 rfl (fun h6 => ?_) (fun h6 => ?_)
    · refine ev_aload_0 dX5_promise_19 ?_
      refine ev_invV (ci := 5) dX5_promise_20 ml_X5_102 mt_X5_bad (c_X5_bad d) (by first | assumption | decide) (by decide) rfl rfl rfl (rm_ok (by omega)) (Nat.le_of_ble_eq_true rfl) ?_
      refine Ev.pc 23 rfl ?_
      exact ev_ireturn dX5_promise_23 ⟨by ((try simp only [b2i_0, b2i_1, Decidable.not_not, btw] at *); simp only [promiseC, btw, Nat.reduceAdd, *, not_true_eq_false, not_false_eq_true, and_true, and_false, true_and, false_and, and_self, if_true, if_false, reduceIte] <;> (first | rfl | (simp; done))), by ((try simp only [b2i_0, b2i_1, Decidable.not_not, btw] at *); simp only [promiseC, badS, btw, Nat.reduceAdd, *, not_true_eq_false, not_false_eq_true, and_true, and_false, true_and, false_and, and_self, if_true, if_false, reduceIte] <;> (first | rfl | (simp; done)))⟩
    · refine ev_iload_2 dX5_promise_9 ?_
      refine ev_iconst_1 dX5_promise_10 ?_
      refine ev_bipush (9) dX5_promise_11 rfl ?_
      refine ev_invS dX5_promise_13 ml_X5_98 mt_X5_between (c_X5_between d) rfl rfl (rm_ok (by omega)) (Nat.le_of_ble_eq_true rfl) ?_
      refine Ev.pc 16 rfl ?_
      refine ev_if_ne 24 dX5_promise_16 rfl (fun h16 => ?_) (fun h16 => ?_)
      · refine ev_aload_0 dX5_promise_24 ?_
        refine ev_get dX5_promise_25 fk_X5_10 (by first | assumption | decide) (by decide) rfl ?_
        refine ev_get dX5_promise_28 fk_X5_89 (by first | assumption | decide) (by decide) rfl ?_
        simp only [Nat.reduceAdd]
        refine ev_get dX5_promise_31 fk_X5_92 (by first | assumption | decide) (by decide) rfl ?_
        refine ev_bipush (7) dX5_promise_34 rfl ?_
        refine Ev.pc 36 rfl ?_
        refine ev_icmp_lt 44 dX5_promise_36 rfl (fun h36 => ?_) (fun h36 => ?_)
        · refine ev_aload_0 dX5_promise_44 ?_
          refine ev_get dX5_promise_45 fk_X5_10 (by first | assumption | decide) (by decide) rfl ?_
          refine ev_get dX5_promise_48 fk_X5_108 (by first | assumption | decide) (by decide) rfl ?_
          simp only [Nat.reduceAdd]
          refine ev_iconst_0 dX5_promise_51 ?_
          refine ev_put dX5_promise_52 fk_X5_112 (by first | assumption | decide) (by decide) rfl ?_
          refine Ev.pc 55 rfl ?_
          refine ev_aload_0 dX5_promise_55 ?_
          refine ev_get dX5_promise_56 fk_X5_10 (by first | assumption | decide) (by decide) rfl ?_
          refine ev_get dX5_promise_59 fk_X5_89 (by first | assumption | decide) (by decide) rfl ?_
          simp only [Nat.reduceAdd]
          refine ev_iload_1 dX5_promise_62 ?_
          refine ev_iload_2 dX5_promise_63 ?_
          refine Ev.pc 64 rfl ?_
          refine ev_invV (ci := 4) dX5_promise_64 ml_X5_117 mt_X4_addPromise (c_X4_addPromise d (t := 2) (P := P) town_now (by simp [xu, hP]) q7) (by first | assumption | decide) (by decide) rfl rfl rfl (rm_ok (by omega)) (Nat.le_of_ble_eq_true rfl) ?_
          refine Ev.pc 67 rfl ?_
          exact ev_ireturn dX5_promise_67 ⟨by ((try simp only [b2i_0, b2i_1, Decidable.not_not, btw] at *); simp only [promiseC, btw, Nat.reduceAdd, *, not_true_eq_false, not_false_eq_true, and_true, and_false, true_and, false_and, and_self, if_true, if_false, reduceIte] <;> (first | rfl | (simp; done))), by ((try simp only [b2i_0, b2i_1, Decidable.not_not, btw] at *); simp only [promiseC, badS, btw, Nat.reduceAdd, *, not_true_eq_false, not_false_eq_true, and_true, and_false, true_and, false_and, and_self, if_true, if_false, reduceIte] <;> (first | rfl | (simp; done)))⟩
        · exact absurd (by rw [hP]; exact (show nI P < nI 7 from nI_lt q7 (by omega))) h36
      · refine ev_aload_0 dX5_promise_19 ?_
        refine ev_invV (ci := 5) dX5_promise_20 ml_X5_102 mt_X5_bad (c_X5_bad d) (by first | assumption | decide) (by decide) rfl rfl rfl (rm_ok (by omega)) (Nat.le_of_ble_eq_true rfl) ?_
        refine Ev.pc 23 rfl ?_
        exact ev_ireturn dX5_promise_23 ⟨by ((try simp only [b2i_0, b2i_1, Decidable.not_not, btw] at *); simp only [promiseC, btw, Nat.reduceAdd, *, not_true_eq_false, not_false_eq_true, and_true, and_false, true_and, false_and, and_self, if_true, if_false, reduceIte] <;> (first | rfl | (simp; done))), by ((try simp only [b2i_0, b2i_1, Decidable.not_not, btw] at *); simp only [promiseC, badS, btw, Nat.reduceAdd, *, not_true_eq_false, not_false_eq_true, and_true, and_false, true_and, false_and, and_self, if_true, if_false, reduceIte] <;> (first | rfl | (simp; done)))⟩
  ·
    refine Ct.of (by decide +kernel) (Nat.le_of_ble_eq_true rfl) ⟨_, rfl, rfl⟩ ?_
    show Ev E _ RX5 cX5_promise 3 _ 0 [some (.ref (E.1 0)), some (.int k), some (.int w)] [] _
    refine ev_iload_1 dX5_promise_0 ?_
    refine ev_iconst_0 dX5_promise_1 ?_
    refine ev_iconst_5 dX5_promise_2 ?_
    refine ev_invS dX5_promise_3 ml_X5_98 mt_X5_between (c_X5_between d) rfl rfl (rm_ok (by omega)) (Nat.le_of_ble_eq_true rfl) ?_
    refine Ev.pc 6 rfl ?_
    refine ev_if_eq 19 dX5_promise_6 rfl (fun h6 => ?_) (fun h6 => ?_)
    · refine ev_aload_0 dX5_promise_19 ?_
      refine ev_invV (ci := 5) dX5_promise_20 ml_X5_102 mt_X5_bad (c_X5_bad d) (by first | assumption | decide) (by decide) rfl rfl rfl (rm_ok (by omega)) (Nat.le_of_ble_eq_true rfl) ?_
      refine Ev.pc 23 rfl ?_
      exact ev_ireturn dX5_promise_23 ⟨by ((try simp only [b2i_0, b2i_1, Decidable.not_not, btw] at *); simp only [promiseC, btw, Nat.reduceAdd, *, not_true_eq_false, not_false_eq_true, and_true, and_false, true_and, false_and, and_self, if_true, if_false, reduceIte] <;> (first | rfl | (simp; done))), by ((try simp only [b2i_0, b2i_1, Decidable.not_not, btw] at *); simp only [promiseC, badS, fullS, btw, Nat.reduceAdd, *, not_true_eq_false, not_false_eq_true, and_true, and_false, true_and, false_and, and_self, if_true, if_false, reduceIte] <;> (first | rfl | (simp; done)))⟩
    · refine ev_iload_2 dX5_promise_9 ?_
      refine ev_iconst_1 dX5_promise_10 ?_
      refine ev_bipush (9) dX5_promise_11 rfl ?_
      refine ev_invS dX5_promise_13 ml_X5_98 mt_X5_between (c_X5_between d) rfl rfl (rm_ok (by omega)) (Nat.le_of_ble_eq_true rfl) ?_
      refine Ev.pc 16 rfl ?_
      refine ev_if_ne 24 dX5_promise_16 rfl (fun h16 => ?_) (fun h16 => ?_)
      · refine ev_aload_0 dX5_promise_24 ?_
        refine ev_get dX5_promise_25 fk_X5_10 (by first | assumption | decide) (by decide) rfl ?_
        refine ev_get dX5_promise_28 fk_X5_89 (by first | assumption | decide) (by decide) rfl ?_
        simp only [Nat.reduceAdd]
        refine ev_get dX5_promise_31 fk_X5_92 (by first | assumption | decide) (by decide) rfl ?_
        refine ev_bipush (7) dX5_promise_34 rfl ?_
        refine Ev.pc 36 rfl ?_
        refine ev_icmp_lt 44 dX5_promise_36 rfl (fun h36 => ?_) (fun h36 => ?_)
        · exact absurd h36 (by rw [hP]; exact (show ¬ nI P < nI 7 from nI_nlt q7 (by omega)))
        · refine ev_aload_0 dX5_promise_39 ?_
          refine ev_invV (ci := 5) dX5_promise_40 ml_X5_105 mt_X5_full (c_X5_full d) (by first | assumption | decide) (by decide) rfl rfl rfl (rm_ok (by omega)) (Nat.le_of_ble_eq_true rfl) ?_
          refine Ev.pc 43 rfl ?_
          exact ev_ireturn dX5_promise_43 ⟨by ((try simp only [b2i_0, b2i_1, Decidable.not_not, btw] at *); simp only [promiseC, btw, Nat.reduceAdd, *, not_true_eq_false, not_false_eq_true, and_true, and_false, true_and, false_and, and_self, if_true, if_false, reduceIte] <;> (first | rfl | (simp; done))), by ((try simp only [b2i_0, b2i_1, Decidable.not_not, btw] at *); simp only [promiseC, badS, fullS, btw, Nat.reduceAdd, *, not_true_eq_false, not_false_eq_true, and_true, and_false, true_and, false_and, and_self, if_true, if_false, reduceIte] <;> (first | rfl | (simp; done)))⟩
      · refine ev_aload_0 dX5_promise_19 ?_
        refine ev_invV (ci := 5) dX5_promise_20 ml_X5_102 mt_X5_bad (c_X5_bad d) (by first | assumption | decide) (by decide) rfl rfl rfl (rm_ok (by omega)) (Nat.le_of_ble_eq_true rfl) ?_
        refine Ev.pc 23 rfl ?_
        exact ev_ireturn dX5_promise_23 ⟨by ((try simp only [b2i_0, b2i_1, Decidable.not_not, btw] at *); simp only [promiseC, btw, Nat.reduceAdd, *, not_true_eq_false, not_false_eq_true, and_true, and_false, true_and, false_and, and_self, if_true, if_false, reduceIte] <;> (first | rfl | (simp; done))), by ((try simp only [b2i_0, b2i_1, Decidable.not_not, btw] at *); simp only [promiseC, badS, fullS, btw, Nat.reduceAdd, *, not_true_eq_false, not_false_eq_true, and_true, and_false, true_and, false_and, and_self, if_true, if_false, reduceIte] <;> (first | rfl | (simp; done)))⟩
theorem saveC_o (σ : xS) (u : Nat) {a : Nat} (b : Nat) (h1 : a ≠ 10) (h2 : a ≠ 11) : (saveC σ u).1 a b = σ.1 a b := by
  unfold saveC
  split <;> simp [saveAt, xu, xrow, h1, h2]
theorem xat_o {σ σ' : xS} {a : Nat} (h : σ'.1 a = σ.1 a) (i : Int32) : xat σ' a i = xat σ a i := by simp [xat, h]
theorem saveC_f (σ : xS) (u : Nat) {a : Nat} (h1 : a ≠ 10) (h2 : a ≠ 11) : (saveC σ u).1 a = σ.1 a := by funext b; exact saveC_o σ u b h1 h2
def hearerC (σ : xS) (H : Nat) (k w : Int32) : Int32 × xS :=
  if btw k 0 5 then (if btw w 1 9 then (if 4 ≤ H then (-4, fullS σ) else (nI H, xu (xu (xu (xu σ 10 1 0) 7 H k) 8 H w) 2 8 (nI (H + 1)))) else (-2, badS σ)) else (-2, badS σ)
theorem c_X5_hearer (d : Nat) {E : xE} {σ : xS} {H : Nat} {k w : Int32} (hH : σ.1 2 8 = nI H) (hH4 : H ≤ 4) : Ct E (d + 2) yX5_hearer cX5_hearer 3 (some .int) [.ref (E.1 0), .int k, .int w] σ (some (.int (hearerC σ H k w).1)) (hearerC σ H k w).2 := by
  rcases Nat.lt_or_ge H 4 with q7 | q7
  ·
    have h77 : ¬ 4 ≤ H := by omega
    refine Ct.of (by decide +kernel) (Nat.le_of_ble_eq_true rfl) ⟨_, rfl, rfl⟩ ?_
    show Ev E _ RX5 cX5_hearer 3 _ 0 [some (.ref (E.1 0)), some (.int k), some (.int w)] [] _
    refine ev_iload_1 dX5_hearer_0 ?_
    refine ev_iconst_0 dX5_hearer_1 ?_
    refine ev_iconst_5 dX5_hearer_2 ?_
    refine ev_invS dX5_hearer_3 ml_X5_98 mt_X5_between (c_X5_between d) rfl rfl (rm_ok (by omega)) (Nat.le_of_ble_eq_true rfl) ?_
    refine Ev.pc 6 rfl ?_
    refine ev_if_eq 19 dX5_hearer_6 rfl (fun h6 => ?_) (fun h6 => ?_)
    · refine ev_aload_0 dX5_hearer_19 ?_
      refine ev_invV (ci := 5) dX5_hearer_20 ml_X5_102 mt_X5_bad (c_X5_bad d) (by first | assumption | decide) (by decide) rfl rfl rfl (rm_ok (by omega)) (Nat.le_of_ble_eq_true rfl) ?_
      refine Ev.pc 23 rfl ?_
      exact ev_ireturn dX5_hearer_23 ⟨by ((try simp only [b2i_0, b2i_1, Decidable.not_not, btw] at *); simp only [hearerC, btw, Nat.reduceAdd, *, not_true_eq_false, not_false_eq_true, and_true, and_false, true_and, false_and, and_self, if_true, if_false, reduceIte] <;> (first | rfl | (simp; done))), by ((try simp only [b2i_0, b2i_1, Decidable.not_not, btw] at *); simp only [hearerC, badS, btw, Nat.reduceAdd, *, not_true_eq_false, not_false_eq_true, and_true, and_false, true_and, false_and, and_self, if_true, if_false, reduceIte] <;> (first | rfl | (simp; done)))⟩
    · refine ev_iload_2 dX5_hearer_9 ?_
      refine ev_iconst_1 dX5_hearer_10 ?_
      refine ev_bipush (9) dX5_hearer_11 rfl ?_
      refine ev_invS dX5_hearer_13 ml_X5_98 mt_X5_between (c_X5_between d) rfl rfl (rm_ok (by omega)) (Nat.le_of_ble_eq_true rfl) ?_
      refine Ev.pc 16 rfl ?_
      refine ev_if_ne 24 dX5_hearer_16 rfl (fun h16 => ?_) (fun h16 => ?_)
      · refine ev_aload_0 dX5_hearer_24 ?_
        refine ev_get dX5_hearer_25 fk_X5_10 (by first | assumption | decide) (by decide) rfl ?_
        refine ev_get dX5_hearer_28 fk_X5_89 (by first | assumption | decide) (by decide) rfl ?_
        simp only [Nat.reduceAdd]
        refine ev_get dX5_hearer_31 fk_X5_120 (by first | assumption | decide) (by decide) rfl ?_
        refine ev_iconst_4 dX5_hearer_34 ?_
        refine Ev.pc 35 rfl ?_
        refine ev_icmp_lt 43 dX5_hearer_35 rfl (fun h35 => ?_) (fun h35 => ?_)
        · refine ev_aload_0 dX5_hearer_43 ?_
          refine ev_get dX5_hearer_44 fk_X5_10 (by first | assumption | decide) (by decide) rfl ?_
          refine ev_get dX5_hearer_47 fk_X5_108 (by first | assumption | decide) (by decide) rfl ?_
          simp only [Nat.reduceAdd]
          refine ev_iconst_0 dX5_hearer_50 ?_
          refine ev_put dX5_hearer_51 fk_X5_112 (by first | assumption | decide) (by decide) rfl ?_
          refine Ev.pc 54 rfl ?_
          refine ev_aload_0 dX5_hearer_54 ?_
          refine ev_get dX5_hearer_55 fk_X5_10 (by first | assumption | decide) (by decide) rfl ?_
          refine ev_get dX5_hearer_58 fk_X5_89 (by first | assumption | decide) (by decide) rfl ?_
          simp only [Nat.reduceAdd]
          refine ev_iload_1 dX5_hearer_61 ?_
          refine ev_iload_2 dX5_hearer_62 ?_
          refine Ev.pc 63 rfl ?_
          refine ev_invV (ci := 4) dX5_hearer_63 ml_X5_123 mt_X4_addHearer (c_X4_addHearer d (t := 2) (P := H) town_now (by simp [xu, hH]) q7) (by first | assumption | decide) (by decide) rfl rfl rfl (rm_ok (by omega)) (Nat.le_of_ble_eq_true rfl) ?_
          refine Ev.pc 66 rfl ?_
          exact ev_ireturn dX5_hearer_66 ⟨by ((try simp only [b2i_0, b2i_1, Decidable.not_not, btw] at *); simp only [hearerC, btw, Nat.reduceAdd, *, not_true_eq_false, not_false_eq_true, and_true, and_false, true_and, false_and, and_self, if_true, if_false, reduceIte] <;> (first | rfl | (simp; done))), by ((try simp only [b2i_0, b2i_1, Decidable.not_not, btw] at *); simp only [hearerC, badS, btw, Nat.reduceAdd, *, not_true_eq_false, not_false_eq_true, and_true, and_false, true_and, false_and, and_self, if_true, if_false, reduceIte] <;> (first | rfl | (simp; done)))⟩
        · exact absurd (by rw [hH]; exact (show nI H < nI 4 from nI_lt q7 (by omega))) h35
      · refine ev_aload_0 dX5_hearer_19 ?_
        refine ev_invV (ci := 5) dX5_hearer_20 ml_X5_102 mt_X5_bad (c_X5_bad d) (by first | assumption | decide) (by decide) rfl rfl rfl (rm_ok (by omega)) (Nat.le_of_ble_eq_true rfl) ?_
        refine Ev.pc 23 rfl ?_
        exact ev_ireturn dX5_hearer_23 ⟨by ((try simp only [b2i_0, b2i_1, Decidable.not_not, btw] at *); simp only [hearerC, btw, Nat.reduceAdd, *, not_true_eq_false, not_false_eq_true, and_true, and_false, true_and, false_and, and_self, if_true, if_false, reduceIte] <;> (first | rfl | (simp; done))), by ((try simp only [b2i_0, b2i_1, Decidable.not_not, btw] at *); simp only [hearerC, badS, btw, Nat.reduceAdd, *, not_true_eq_false, not_false_eq_true, and_true, and_false, true_and, false_and, and_self, if_true, if_false, reduceIte] <;> (first | rfl | (simp; done)))⟩
  ·
    refine Ct.of (by decide +kernel) (Nat.le_of_ble_eq_true rfl) ⟨_, rfl, rfl⟩ ?_
    show Ev E _ RX5 cX5_hearer 3 _ 0 [some (.ref (E.1 0)), some (.int k), some (.int w)] [] _
    refine ev_iload_1 dX5_hearer_0 ?_
    refine ev_iconst_0 dX5_hearer_1 ?_
    refine ev_iconst_5 dX5_hearer_2 ?_
    refine ev_invS dX5_hearer_3 ml_X5_98 mt_X5_between (c_X5_between d) rfl rfl (rm_ok (by omega)) (Nat.le_of_ble_eq_true rfl) ?_
    refine Ev.pc 6 rfl ?_
    refine ev_if_eq 19 dX5_hearer_6 rfl (fun h6 => ?_) (fun h6 => ?_)
    · refine ev_aload_0 dX5_hearer_19 ?_
      refine ev_invV (ci := 5) dX5_hearer_20 ml_X5_102 mt_X5_bad (c_X5_bad d) (by first | assumption | decide) (by decide) rfl rfl rfl (rm_ok (by omega)) (Nat.le_of_ble_eq_true rfl) ?_
      refine Ev.pc 23 rfl ?_
      exact ev_ireturn dX5_hearer_23 ⟨by ((try simp only [b2i_0, b2i_1, Decidable.not_not, btw] at *); simp only [hearerC, btw, Nat.reduceAdd, *, not_true_eq_false, not_false_eq_true, and_true, and_false, true_and, false_and, and_self, if_true, if_false, reduceIte] <;> (first | rfl | (simp; done))), by ((try simp only [b2i_0, b2i_1, Decidable.not_not, btw] at *); simp only [hearerC, badS, fullS, btw, Nat.reduceAdd, *, not_true_eq_false, not_false_eq_true, and_true, and_false, true_and, false_and, and_self, if_true, if_false, reduceIte] <;> (first | rfl | (simp; done)))⟩
    · refine ev_iload_2 dX5_hearer_9 ?_
      refine ev_iconst_1 dX5_hearer_10 ?_
      refine ev_bipush (9) dX5_hearer_11 rfl ?_
      refine ev_invS dX5_hearer_13 ml_X5_98 mt_X5_between (c_X5_between d) rfl rfl (rm_ok (by omega)) (Nat.le_of_ble_eq_true rfl) ?_
      refine Ev.pc 16 rfl ?_
      refine ev_if_ne 24 dX5_hearer_16 rfl (fun h16 => ?_) (fun h16 => ?_)
      · refine ev_aload_0 dX5_hearer_24 ?_
        refine ev_get dX5_hearer_25 fk_X5_10 (by first | assumption | decide) (by decide) rfl ?_
        refine ev_get dX5_hearer_28 fk_X5_89 (by first | assumption | decide) (by decide) rfl ?_
        simp only [Nat.reduceAdd]
        refine ev_get dX5_hearer_31 fk_X5_120 (by first | assumption | decide) (by decide) rfl ?_
        refine ev_iconst_4 dX5_hearer_34 ?_
        refine Ev.pc 35 rfl ?_
        refine ev_icmp_lt 43 dX5_hearer_35 rfl (fun h35 => ?_) (fun h35 => ?_)
        · exact absurd h35 (by rw [hH]; exact (show ¬ nI H < nI 4 from nI_nlt q7 (by omega)))
        · refine ev_aload_0 dX5_hearer_38 ?_
          refine ev_invV (ci := 5) dX5_hearer_39 ml_X5_105 mt_X5_full (c_X5_full d) (by first | assumption | decide) (by decide) rfl rfl rfl (rm_ok (by omega)) (Nat.le_of_ble_eq_true rfl) ?_
          refine Ev.pc 42 rfl ?_
          exact ev_ireturn dX5_hearer_42 ⟨by ((try simp only [b2i_0, b2i_1, Decidable.not_not, btw] at *); simp only [hearerC, btw, Nat.reduceAdd, *, not_true_eq_false, not_false_eq_true, and_true, and_false, true_and, false_and, and_self, if_true, if_false, reduceIte] <;> (first | rfl | (simp; done))), by ((try simp only [b2i_0, b2i_1, Decidable.not_not, btw] at *); simp only [hearerC, badS, fullS, btw, Nat.reduceAdd, *, not_true_eq_false, not_false_eq_true, and_true, and_false, true_and, false_and, and_self, if_true, if_false, reduceIte] <;> (first | rfl | (simp; done)))⟩
      · refine ev_aload_0 dX5_hearer_19 ?_
        refine ev_invV (ci := 5) dX5_hearer_20 ml_X5_102 mt_X5_bad (c_X5_bad d) (by first | assumption | decide) (by decide) rfl rfl rfl (rm_ok (by omega)) (Nat.le_of_ble_eq_true rfl) ?_
        refine Ev.pc 23 rfl ?_
        exact ev_ireturn dX5_hearer_23 ⟨by ((try simp only [b2i_0, b2i_1, Decidable.not_not, btw] at *); simp only [hearerC, btw, Nat.reduceAdd, *, not_true_eq_false, not_false_eq_true, and_true, and_false, true_and, false_and, and_self, if_true, if_false, reduceIte] <;> (first | rfl | (simp; done))), by ((try simp only [b2i_0, b2i_1, Decidable.not_not, btw] at *); simp only [hearerC, badS, fullS, btw, Nat.reduceAdd, *, not_true_eq_false, not_false_eq_true, and_true, and_false, true_and, false_and, and_self, if_true, if_false, reduceIte] <;> (first | rfl | (simp; done)))⟩
def buyerC (σ : xS) (B : Nat) (k : Int32) : Int32 × xS :=
  if btw k 0 999 then (if 3 ≤ B then (-4, fullS σ) else (nI B, xu (xu (xu σ 10 1 0) 9 B k) 2 9 (nI (B + 1)))) else (-2, badS σ)
theorem c_X5_buyer (d : Nat) {E : xE} {σ : xS} {B : Nat} {k : Int32} (hB : σ.1 2 9 = nI B) (hB3 : B ≤ 3) : Ct E (d + 2) yX5_buyer cX5_buyer 2 (some .int) [.ref (E.1 0), .int k] σ (some (.int (buyerC σ B k).1)) (buyerC σ B k).2 := by
  rcases Nat.lt_or_ge B 3 with q7 | q7
  ·
    have h77 : ¬ 3 ≤ B := by omega
    refine Ct.of (by decide +kernel) (Nat.le_of_ble_eq_true rfl) ⟨_, rfl, rfl⟩ ?_
    show Ev E _ RX5 cX5_buyer 2 _ 0 [some (.ref (E.1 0)), some (.int k)] [] _
    refine ev_iload_1 dX5_buyer_0 ?_
    refine ev_iconst_0 dX5_buyer_1 ?_
    refine ev_sipush (999) dX5_buyer_2 rfl ?_
    refine ev_invS dX5_buyer_5 ml_X5_98 mt_X5_between (c_X5_between d) rfl rfl (rm_ok (by omega)) (Nat.le_of_ble_eq_true rfl) ?_
    refine Ev.pc 8 rfl ?_
    refine ev_if_ne 16 dX5_buyer_8 rfl (fun h8 => ?_) (fun h8 => ?_)
    · refine ev_aload_0 dX5_buyer_16 ?_
      refine ev_get dX5_buyer_17 fk_X5_10 (by first | assumption | decide) (by decide) rfl ?_
      refine ev_get dX5_buyer_20 fk_X5_89 (by first | assumption | decide) (by decide) rfl ?_
      simp only [Nat.reduceAdd]
      refine ev_get dX5_buyer_23 fk_X5_126 (by first | assumption | decide) (by decide) rfl ?_
      refine ev_iconst_3 dX5_buyer_26 ?_
      refine Ev.pc 27 rfl ?_
      refine ev_icmp_lt 35 dX5_buyer_27 rfl (fun h27 => ?_) (fun h27 => ?_)
      · refine ev_aload_0 dX5_buyer_35 ?_
        refine ev_get dX5_buyer_36 fk_X5_10 (by first | assumption | decide) (by decide) rfl ?_
        refine ev_get dX5_buyer_39 fk_X5_108 (by first | assumption | decide) (by decide) rfl ?_
        simp only [Nat.reduceAdd]
        refine ev_iconst_0 dX5_buyer_42 ?_
        refine ev_put dX5_buyer_43 fk_X5_112 (by first | assumption | decide) (by decide) rfl ?_
        refine Ev.pc 46 rfl ?_
        refine ev_aload_0 dX5_buyer_46 ?_
        refine ev_get dX5_buyer_47 fk_X5_10 (by first | assumption | decide) (by decide) rfl ?_
        refine ev_get dX5_buyer_50 fk_X5_89 (by first | assumption | decide) (by decide) rfl ?_
        simp only [Nat.reduceAdd]
        refine ev_iload_1 dX5_buyer_53 ?_
        refine ev_invV (ci := 4) dX5_buyer_54 ml_X5_129 mt_X4_addBuyer (c_X4_addBuyer d (t := 2) (P := B) town_now (by simp [xu, hB]) q7) (by first | assumption | decide) (by decide) rfl rfl rfl (rm_ok (by omega)) (Nat.le_of_ble_eq_true rfl) ?_
        refine Ev.pc 57 rfl ?_
        exact ev_ireturn dX5_buyer_57 ⟨by ((try simp only [b2i_0, b2i_1, Decidable.not_not, btw] at *); simp only [buyerC, btw, Nat.reduceAdd, *, not_true_eq_false, not_false_eq_true, and_true, and_false, true_and, false_and, and_self, if_true, if_false, reduceIte] <;> (first | rfl | (simp; done))), by ((try simp only [b2i_0, b2i_1, Decidable.not_not, btw] at *); simp only [buyerC, badS, btw, Nat.reduceAdd, *, not_true_eq_false, not_false_eq_true, and_true, and_false, true_and, false_and, and_self, if_true, if_false, reduceIte] <;> (first | rfl | (simp; done)))⟩
      · exact absurd (by rw [hB]; exact (show nI B < nI 3 from nI_lt q7 (by omega))) h27
    · refine ev_aload_0 dX5_buyer_11 ?_
      refine ev_invV (ci := 5) dX5_buyer_12 ml_X5_102 mt_X5_bad (c_X5_bad d) (by first | assumption | decide) (by decide) rfl rfl rfl (rm_ok (by omega)) (Nat.le_of_ble_eq_true rfl) ?_
      refine Ev.pc 15 rfl ?_
      exact ev_ireturn dX5_buyer_15 ⟨by ((try simp only [b2i_0, b2i_1, Decidable.not_not, btw] at *); simp only [buyerC, btw, Nat.reduceAdd, *, not_true_eq_false, not_false_eq_true, and_true, and_false, true_and, false_and, and_self, if_true, if_false, reduceIte] <;> (first | rfl | (simp; done))), by ((try simp only [b2i_0, b2i_1, Decidable.not_not, btw] at *); simp only [buyerC, badS, btw, Nat.reduceAdd, *, not_true_eq_false, not_false_eq_true, and_true, and_false, true_and, false_and, and_self, if_true, if_false, reduceIte] <;> (first | rfl | (simp; done)))⟩
  ·
    refine Ct.of (by decide +kernel) (Nat.le_of_ble_eq_true rfl) ⟨_, rfl, rfl⟩ ?_
    show Ev E _ RX5 cX5_buyer 2 _ 0 [some (.ref (E.1 0)), some (.int k)] [] _
    refine ev_iload_1 dX5_buyer_0 ?_
    refine ev_iconst_0 dX5_buyer_1 ?_
    refine ev_sipush (999) dX5_buyer_2 rfl ?_
    refine ev_invS dX5_buyer_5 ml_X5_98 mt_X5_between (c_X5_between d) rfl rfl (rm_ok (by omega)) (Nat.le_of_ble_eq_true rfl) ?_
    refine Ev.pc 8 rfl ?_
    refine ev_if_ne 16 dX5_buyer_8 rfl (fun h8 => ?_) (fun h8 => ?_)
    · refine ev_aload_0 dX5_buyer_16 ?_
      refine ev_get dX5_buyer_17 fk_X5_10 (by first | assumption | decide) (by decide) rfl ?_
      refine ev_get dX5_buyer_20 fk_X5_89 (by first | assumption | decide) (by decide) rfl ?_
      simp only [Nat.reduceAdd]
      refine ev_get dX5_buyer_23 fk_X5_126 (by first | assumption | decide) (by decide) rfl ?_
      refine ev_iconst_3 dX5_buyer_26 ?_
      refine Ev.pc 27 rfl ?_
      refine ev_icmp_lt 35 dX5_buyer_27 rfl (fun h27 => ?_) (fun h27 => ?_)
      · exact absurd h27 (by rw [hB]; exact (show ¬ nI B < nI 3 from nI_nlt q7 (by omega)))
      · refine ev_aload_0 dX5_buyer_30 ?_
        refine ev_invV (ci := 5) dX5_buyer_31 ml_X5_105 mt_X5_full (c_X5_full d) (by first | assumption | decide) (by decide) rfl rfl rfl (rm_ok (by omega)) (Nat.le_of_ble_eq_true rfl) ?_
        refine Ev.pc 34 rfl ?_
        exact ev_ireturn dX5_buyer_34 ⟨by ((try simp only [b2i_0, b2i_1, Decidable.not_not, btw] at *); simp only [buyerC, btw, Nat.reduceAdd, *, not_true_eq_false, not_false_eq_true, and_true, and_false, true_and, false_and, and_self, if_true, if_false, reduceIte] <;> (first | rfl | (simp; done))), by ((try simp only [b2i_0, b2i_1, Decidable.not_not, btw] at *); simp only [buyerC, badS, fullS, btw, Nat.reduceAdd, *, not_true_eq_false, not_false_eq_true, and_true, and_false, true_and, false_and, and_self, if_true, if_false, reduceIte] <;> (first | rfl | (simp; done)))⟩
    · refine ev_aload_0 dX5_buyer_11 ?_
      refine ev_invV (ci := 5) dX5_buyer_12 ml_X5_102 mt_X5_bad (c_X5_bad d) (by first | assumption | decide) (by decide) rfl rfl rfl (rm_ok (by omega)) (Nat.le_of_ble_eq_true rfl) ?_
      refine Ev.pc 15 rfl ?_
      exact ev_ireturn dX5_buyer_15 ⟨by ((try simp only [b2i_0, b2i_1, Decidable.not_not, btw] at *); simp only [buyerC, btw, Nat.reduceAdd, *, not_true_eq_false, not_false_eq_true, and_true, and_false, true_and, false_and, and_self, if_true, if_false, reduceIte] <;> (first | rfl | (simp; done))), by ((try simp only [b2i_0, b2i_1, Decidable.not_not, btw] at *); simp only [buyerC, badS, fullS, btw, Nat.reduceAdd, *, not_true_eq_false, not_false_eq_true, and_true, and_false, true_and, false_and, and_self, if_true, if_false, reduceIte] <;> (first | rfl | (simp; done)))⟩
def typeC (σ : xS) (T : Nat) (c : Int32) : Int32 × xS :=
  if btw c 0 127 then (if 150 ≤ T then (-4, fullS σ) else (nI (T + 1), xu (xu σ 53 T c) 52 2 (nI (T + 1)))) else (-2, badS σ)
theorem c_X5_type (d : Nat) {E : xE} {σ : xS} {T : Nat} {c : Int32} (hT : σ.1 52 2 = nI T) (hT1 : T ≤ 150) : Ct E (d + 2) yX5_type cX5_type 2 (some .int) [.ref (E.1 0), .int c] σ (some (.int (typeC σ T c).1)) (typeC σ T c).2 := by
  have e53 : xlen 53 = 150 := by decide
  rcases Nat.lt_or_ge T 150 with q7 | q7
  ·
    have h77 : ¬ 150 ≤ T := by omega
    refine Ct.of (by decide +kernel) (Nat.le_of_ble_eq_true rfl) ⟨_, rfl, rfl⟩ ?_
    show Ev E _ RX5 cX5_type 2 _ 0 [some (.ref (E.1 0)), some (.int c)] [] _
    refine ev_iload_1 dX5_type_0 ?_
    refine ev_iconst_0 dX5_type_1 ?_
    refine ev_bipush (127) dX5_type_2 rfl ?_
    refine ev_invS dX5_type_4 ml_X5_98 mt_X5_between (c_X5_between d) rfl rfl (rm_ok (by omega)) (Nat.le_of_ble_eq_true rfl) ?_
    refine Ev.pc 7 rfl ?_
    refine ev_if_ne 15 dX5_type_7 rfl (fun h7 => ?_) (fun h7 => ?_)
    · refine ev_aload_0 dX5_type_15 ?_
      refine ev_get dX5_type_16 fk_X5_25 (by first | assumption | decide) (by decide) rfl ?_
      refine ev_get dX5_type_19 fk_X5_132 (by first | assumption | decide) (by decide) rfl ?_
      refine ev_sipush (150) dX5_type_22 rfl ?_
      refine ev_icmp_lt 33 dX5_type_25 rfl (fun h25 => ?_) (fun h25 => ?_)
      · refine ev_aload_0 dX5_type_33 ?_
        refine ev_get dX5_type_34 fk_X5_25 (by first | assumption | decide) (by decide) rfl ?_
        refine ev_get dX5_type_37 fk_X5_135 (by first | assumption | decide) (by decide) rfl ?_
        simp only [Nat.reduceAdd]
        refine ev_aload_0 dX5_type_40 ?_
        refine ev_get dX5_type_41 fk_X5_25 (by first | assumption | decide) (by decide) rfl ?_
        refine Ev.pc 44 rfl ?_
        refine ev_get dX5_type_44 fk_X5_132 (by first | assumption | decide) (by decide) rfl ?_
        refine ev_iload_1 dX5_type_47 ?_
        refine ev_invS dX5_type_48 ml_X5_138 mt_X5_put (c_X5_put d (by first | assumption | decide)) rfl rfl (rm_ok (by omega)) (Nat.le_of_ble_eq_true rfl) ?_
        rw [xput_eq (r := 53) (k := T) hT (by omega)]
        refine Ev.pc 51 rfl ?_
        refine ev_aload_0 dX5_type_51 ?_
        refine ev_get dX5_type_52 fk_X5_25 (by first | assumption | decide) (by decide) rfl ?_
        refine Ev.pc 55 rfl ?_
        refine ev_dup dX5_type_55 rfl ?_
        refine ev_get dX5_type_56 fk_X5_132 (by first | assumption | decide) (by decide) rfl ?_
        refine ev_iconst_1 dX5_type_59 ?_
        refine ev_iadd dX5_type_60 ?_
        refine ev_put dX5_type_61 fk_X5_132 (by first | assumption | decide) (by decide) rfl ?_
        refine Ev.pc 64 rfl ?_
        refine ev_aload_0 dX5_type_64 ?_
        refine ev_get dX5_type_65 fk_X5_25 (by first | assumption | decide) (by decide) rfl ?_
        refine ev_get dX5_type_68 fk_X5_132 (by first | assumption | decide) (by decide) rfl ?_
        exact ev_ireturn dX5_type_71 ⟨by ((try simp only [b2i_0, b2i_1, Decidable.not_not, btw] at *); simp [typeC, btw, xu_1, nI_1, *]), by ((try simp only [b2i_0, b2i_1, Decidable.not_not, btw] at *); simp [typeC, btw, xu_1, badS, nI_1, *])⟩
      · exact absurd (by rw [hT]; exact (show nI T < nI 150 from nI_lt q7 (by omega))) h25
    · refine ev_aload_0 dX5_type_10 ?_
      refine ev_invV (ci := 5) dX5_type_11 ml_X5_102 mt_X5_bad (c_X5_bad d) (by first | assumption | decide) (by decide) rfl rfl rfl (rm_ok (by omega)) (Nat.le_of_ble_eq_true rfl) ?_
      refine Ev.pc 14 rfl ?_
      exact ev_ireturn dX5_type_14 ⟨by ((try simp only [b2i_0, b2i_1, Decidable.not_not, btw] at *); simp [typeC, btw, xu_1, nI_1, *]), by ((try simp only [b2i_0, b2i_1, Decidable.not_not, btw] at *); simp [typeC, btw, xu_1, badS, nI_1, *])⟩
  ·
    refine Ct.of (by decide +kernel) (Nat.le_of_ble_eq_true rfl) ⟨_, rfl, rfl⟩ ?_
    show Ev E _ RX5 cX5_type 2 _ 0 [some (.ref (E.1 0)), some (.int c)] [] _
    refine ev_iload_1 dX5_type_0 ?_
    refine ev_iconst_0 dX5_type_1 ?_
    refine ev_bipush (127) dX5_type_2 rfl ?_
    refine ev_invS dX5_type_4 ml_X5_98 mt_X5_between (c_X5_between d) rfl rfl (rm_ok (by omega)) (Nat.le_of_ble_eq_true rfl) ?_
    refine Ev.pc 7 rfl ?_
    refine ev_if_ne 15 dX5_type_7 rfl (fun h7 => ?_) (fun h7 => ?_)
    · refine ev_aload_0 dX5_type_15 ?_
      refine ev_get dX5_type_16 fk_X5_25 (by first | assumption | decide) (by decide) rfl ?_
      refine ev_get dX5_type_19 fk_X5_132 (by first | assumption | decide) (by decide) rfl ?_
      refine ev_sipush (150) dX5_type_22 rfl ?_
      refine ev_icmp_lt 33 dX5_type_25 rfl (fun h25 => ?_) (fun h25 => ?_)
      · exact absurd h25 (by rw [hT]; exact (show ¬ nI T < nI 150 from nI_nlt q7 (by omega)))
      · refine ev_aload_0 dX5_type_28 ?_
        refine ev_invV (ci := 5) dX5_type_29 ml_X5_105 mt_X5_full (c_X5_full d) (by first | assumption | decide) (by decide) rfl rfl rfl (rm_ok (by omega)) (Nat.le_of_ble_eq_true rfl) ?_
        refine Ev.pc 32 rfl ?_
        exact ev_ireturn dX5_type_32 ⟨by ((try simp only [b2i_0, b2i_1, Decidable.not_not, btw] at *); simp only [typeC, btw, Nat.reduceAdd, *, not_true_eq_false, not_false_eq_true, and_true, and_false, true_and, false_and, and_self, if_true, if_false, reduceIte] <;> (first | rfl | (simp; done))), by ((try simp only [b2i_0, b2i_1, Decidable.not_not, btw] at *); simp only [typeC, badS, fullS, btw, Nat.reduceAdd, *, not_true_eq_false, not_false_eq_true, and_true, and_false, true_and, false_and, and_self, if_true, if_false, reduceIte] <;> (first | rfl | (simp; done)))⟩
    · refine ev_aload_0 dX5_type_10 ?_
      refine ev_invV (ci := 5) dX5_type_11 ml_X5_102 mt_X5_bad (c_X5_bad d) (by first | assumption | decide) (by decide) rfl rfl rfl (rm_ok (by omega)) (Nat.le_of_ble_eq_true rfl) ?_
      refine Ev.pc 14 rfl ?_
      exact ev_ireturn dX5_type_14 ⟨by ((try simp only [b2i_0, b2i_1, Decidable.not_not, btw] at *); simp only [typeC, btw, Nat.reduceAdd, *, not_true_eq_false, not_false_eq_true, and_true, and_false, true_and, false_and, and_self, if_true, if_false, reduceIte] <;> (first | rfl | (simp; done))), by ((try simp only [b2i_0, b2i_1, Decidable.not_not, btw] at *); simp only [typeC, badS, fullS, btw, Nat.reduceAdd, *, not_true_eq_false, not_false_eq_true, and_true, and_false, true_and, false_and, and_self, if_true, if_false, reduceIte] <;> (first | rfl | (simp; done)))⟩
theorem c_X5_clear (d : Nat) {E : xE} {σ : xS} : Ct E d yX5_clear cX5_clear 2 (some .int) [.ref (E.1 0)] σ (some (.int (σ.1 52 2))) (xu σ 52 2 0) := by
  refine Ct.of (by decide +kernel) (Nat.le_of_ble_eq_true rfl) ⟨_, rfl, rfl⟩ ?_
  show Ev E _ RX5 cX5_clear 2 _ 0 [some (.ref (E.1 0)), none] [] _
  refine ev_aload_0 dX5_clear_0 ?_
  refine ev_get dX5_clear_1 fk_X5_25 (by first | assumption | decide) (by decide) rfl ?_
  refine ev_get dX5_clear_4 fk_X5_132 (by first | assumption | decide) (by decide) rfl ?_
  refine ev_istore_1 dX5_clear_7 rfl ?_
  refine ev_aload_0 dX5_clear_8 ?_
  refine Ev.pc 9 rfl ?_
  refine ev_get dX5_clear_9 fk_X5_25 (by first | assumption | decide) (by decide) rfl ?_
  refine ev_iconst_0 dX5_clear_12 ?_
  refine ev_put dX5_clear_13 fk_X5_132 (by first | assumption | decide) (by decide) rfl ?_
  refine ev_iload_1 dX5_clear_16 ?_
  exact ev_ireturn dX5_clear_17 ⟨by rfl, by rfl⟩
def daysC (σ : xS) (P u : Nat) (n : Int32) : Int32 × xS :=
  if btw n 1 99 then
    (σ.1 2 10 + xmin n (9999 - σ.1 2 10), xu (daysTo (saveC σ u) 2 P (xmin n (9999 - σ.1 2 10))) 2 10 (σ.1 2 10 + xmin n (9999 - σ.1 2 10)))
  else (-2, badS σ)
theorem c_X5_days (d : Nat) {E : xE} {σ : xS} {P u : Nat} {n : Int32} (hP : σ.1 2 7 = nI P) (hP7 : P ≤ 7) (hu : σ.1 10 1 = nI u) (hu8 : u ≤ 8) : Ct E (d + 4) yX5_days cX5_days 2 (some .int) [.ref (E.1 0), .int n] σ (some (.int (daysC σ P u n).1)) (daysC σ P u n).2 := by
  have e1 : (saveC σ u).1 2 10 = σ.1 2 10 := saveC_o σ u 10 (by decide) (by decide)
  refine Ct.of (by decide +kernel) (Nat.le_of_ble_eq_true rfl) ⟨_, rfl, rfl⟩ ?_
  show Ev E _ RX5 cX5_days 2 _ 0 [some (.ref (E.1 0)), some (.int n)] [] _
  refine ev_iload_1 dX5_days_0 ?_
  refine ev_iconst_1 dX5_days_1 ?_
  refine ev_bipush (99) dX5_days_2 rfl ?_
  refine ev_invS dX5_days_4 ml_X5_98 mt_X5_between (c_X5_between d) rfl rfl (rm_ok (by omega)) (Nat.le_of_ble_eq_true rfl) ?_
  refine Ev.pc 7 rfl ?_
  refine ev_if_ne 15 dX5_days_7 rfl (fun h7 => ?_) (fun h7 => ?_)
  · refine ev_aload_0 dX5_days_15 ?_
    refine ev_get dX5_days_16 fk_X5_10 (by first | assumption | decide) (by decide) rfl ?_
    refine ev_get dX5_days_19 fk_X5_108 (by first | assumption | decide) (by decide) rfl ?_
    simp only [Nat.reduceAdd]
    refine ev_aload_0 dX5_days_22 ?_
    refine ev_get dX5_days_23 fk_X5_10 (by first | assumption | decide) (by decide) rfl ?_
    refine Ev.pc 26 rfl ?_
    refine ev_get dX5_days_26 fk_X5_89 (by first | assumption | decide) (by decide) rfl ?_
    simp only [Nat.reduceAdd]
    refine ev_invV (ci := 1) dX5_days_29 ml_X5_165 mt_X1_save (c_X1_save d hu hu8) (by first | assumption | decide) (by decide) rfl rfl rfl (rm_ok (by omega)) (Nat.le_of_ble_eq_true rfl) ?_
    refine Ev.pc 32 rfl ?_
    refine ev_aload_0 dX5_days_32 ?_
    refine ev_get dX5_days_33 fk_X5_10 (by first | assumption | decide) (by decide) rfl ?_
    refine ev_get dX5_days_36 fk_X5_89 (by first | assumption | decide) (by decide) rfl ?_
    simp only [Nat.reduceAdd]
    refine Ev.pc 39 rfl ?_
    refine ev_iload_1 dX5_days_39 ?_
    refine ev_sipush (9999) dX5_days_40 rfl ?_
    refine ev_aload_0 dX5_days_43 ?_
    refine ev_get dX5_days_44 fk_X5_10 (by first | assumption | decide) (by decide) rfl ?_
    refine ev_get dX5_days_47 fk_X5_89 (by first | assumption | decide) (by decide) rfl ?_
    simp only [Nat.reduceAdd]
    refine Ev.pc 50 rfl ?_
    refine ev_get dX5_days_50 fk_X5_168 (by first | assumption | decide) (by decide) rfl ?_
    refine ev_isub dX5_days_53 ?_
    refine ev_mmin dX5_days_54 mm_X5_77 (rm_okm (by omega)) (Nat.le_of_ble_eq_true rfl) ?_
    refine Ev.pc 57 rfl ?_
    refine ev_invV (ci := 4) dX5_days_57 ml_X5_171 mt_X4_passDays (c_X4_passDays d (t := 2) (P := P) town_now ((saveC_o σ u 7 (by decide) (by decide)).trans hP) hP7) (by first | assumption | decide) (by decide) rfl rfl rfl (rm_ok (by omega)) (Nat.le_of_ble_eq_true rfl) ?_
    refine Ev.pc 60 rfl ?_
    refine ev_aload_0 dX5_days_60 ?_
    refine Ev.pc 61 rfl ?_
    refine ev_get dX5_days_61 fk_X5_10 (by first | assumption | decide) (by decide) rfl ?_
    refine ev_get dX5_days_64 fk_X5_89 (by first | assumption | decide) (by decide) rfl ?_
    simp only [Nat.reduceAdd]
    refine ev_get dX5_days_67 fk_X5_168 (by first | assumption | decide) (by decide) rfl ?_
    exact ev_ireturn dX5_days_70 ⟨by ((try simp only [b2i_0, b2i_1, Decidable.not_not, btw] at *); rw [e1]; simp [xu_1, btw, daysC, xmin, *]), by ((try simp only [b2i_0, b2i_1, Decidable.not_not, btw] at *); rw [e1]; simp [daysC, btw, xmin, *])⟩
  · refine ev_aload_0 dX5_days_10 ?_
    refine ev_invV (ci := 5) dX5_days_11 ml_X5_102 mt_X5_bad (c_X5_bad d) (by first | assumption | decide) (by decide) rfl rfl rfl (rm_ok (by omega)) (Nat.le_of_ble_eq_true rfl) ?_
    refine Ev.pc 14 rfl ?_
    exact ev_ireturn dX5_days_14 ⟨by ((try simp only [b2i_0, b2i_1, Decidable.not_not, btw] at *); simp only [daysC, btw, Nat.reduceAdd, *, not_true_eq_false, not_false_eq_true, and_true, and_false, true_and, false_and, and_self, if_true, if_false, reduceIte] <;> (first | rfl | (simp; done))), by ((try simp only [b2i_0, b2i_1, Decidable.not_not, btw] at *); simp only [daysC, badS, btw, Nat.reduceAdd, *, not_true_eq_false, not_false_eq_true, and_true, and_false, true_and, false_and, and_self, if_true, if_false, reduceIte] <;> (first | rfl | (simp; done)))⟩
def buysC (σ : xS) (u : Nat) (b p : Int32) : Int32 × xS :=
  if hasIn (σ.1 2 9) b then if hasIn (σ.1 2 7) p then if canB σ 2 b p then
    (let s := xput (xput (saveC σ u) 9 b (xat (saveC σ u) 9 b - prB (saveC σ u) 2 p)) 6 p (1 + b); (xat s 9 b, s))
  else (-3, noS σ) else (-2, badS σ) else (-2, badS σ)
theorem c_X5_buys (d : Nat) {E : xE} {σ : xS} {u : Nat} {b p : Int32} (hu : σ.1 10 1 = nI u) (hu8 : u ≤ 8) : Ct E (d + 5) yX5_buys cX5_buys 4 (some .int) [.ref (E.1 0), .int b, .int p] σ (some (.int (buysC σ u b p).1)) (buysC σ u b p).2 := by
  refine Ct.of (by decide +kernel) (Nat.le_of_ble_eq_true rfl) ⟨_, rfl, rfl⟩ ?_
  show Ev E _ RX5 cX5_buys 4 _ 0 [some (.ref (E.1 0)), some (.int b), some (.int p), none] [] _
  refine ev_aload_0 dX5_buys_0 ?_
  refine ev_get dX5_buys_1 fk_X5_10 (by first | assumption | decide) (by decide) rfl ?_
  refine ev_get dX5_buys_4 fk_X5_89 (by first | assumption | decide) (by decide) rfl ?_
  simp only [Nat.reduceAdd]
  refine ev_astore_3 dX5_buys_7 rfl ?_
  refine ev_aload_3 dX5_buys_8 ?_
  refine Ev.pc 9 rfl ?_
  refine ev_iload_1 dX5_buys_9 ?_
  refine ev_invV (ci := 4) dX5_buys_10 ml_X5_175 mt_X4_hasBuyer (c_X4_hasBuyer d (t := 2) town_now.1) (by first | assumption | decide) (by decide) rfl rfl rfl (rm_ok (by omega)) (Nat.le_of_ble_eq_true rfl) ?_
  refine Ev.pc 13 rfl ?_
  refine ev_if_eq 24 dX5_buys_13 rfl (fun h13 => ?_) (fun h13 => ?_)
  · refine ev_aload_0 dX5_buys_24 ?_
    refine ev_invV (ci := 5) dX5_buys_25 ml_X5_102 mt_X5_bad (c_X5_bad d) (by first | assumption | decide) (by decide) rfl rfl rfl (rm_ok (by omega)) (Nat.le_of_ble_eq_true rfl) ?_
    refine Ev.pc 28 rfl ?_
    exact ev_ireturn dX5_buys_28 ⟨by ((try simp only [b2i_0, b2i_1, Decidable.not_not] at *); simp only [buysC]; repeat' (first | with_reducible rfl | contradiction | (exfalso; simp_all; done) | split)), by ((try simp only [b2i_0, b2i_1, Decidable.not_not] at *); simp only [buysC, badS, noS]; repeat' (first | with_reducible rfl | contradiction | (exfalso; simp_all; done) | split))⟩
  · refine ev_aload_3 dX5_buys_16 ?_
    refine ev_iload_2 dX5_buys_17 ?_
    refine ev_invV (ci := 4) dX5_buys_18 ml_X5_179 mt_X4_hasPromise (c_X4_hasPromise d (t := 2) town_now.1) (by first | assumption | decide) (by decide) rfl rfl rfl (rm_ok (by omega)) (Nat.le_of_ble_eq_true rfl) ?_
    refine Ev.pc 21 rfl ?_
    refine ev_if_ne 29 dX5_buys_21 rfl (fun h21 => ?_) (fun h21 => ?_)
    · refine ev_aload_3 dX5_buys_29 ?_
      refine ev_iload_1 dX5_buys_30 ?_
      refine ev_iload_2 dX5_buys_31 ?_
      refine ev_invV (ci := 4) dX5_buys_32 ml_X5_182 mt_X4_canSell (c_X4_canSell d (t := 2) town_now) (by first | assumption | decide) (by decide) rfl rfl rfl (rm_ok (by omega)) (Nat.le_of_ble_eq_true rfl) ?_
      refine Ev.pc 35 rfl ?_
      refine ev_if_ne 43 dX5_buys_35 rfl (fun h35 => ?_) (fun h35 => ?_)
      · refine ev_aload_0 dX5_buys_43 ?_
        refine ev_get dX5_buys_44 fk_X5_10 (by first | assumption | decide) (by decide) rfl ?_
        refine ev_get dX5_buys_47 fk_X5_108 (by first | assumption | decide) (by decide) rfl ?_
        simp only [Nat.reduceAdd]
        refine ev_aload_3 dX5_buys_50 ?_
        refine ev_invV (ci := 1) dX5_buys_51 ml_X5_165 mt_X1_save (c_X1_save d hu hu8) (by first | assumption | decide) (by decide) rfl rfl rfl (rm_ok (by omega)) (Nat.le_of_ble_eq_true rfl) ?_
        refine Ev.pc 54 rfl ?_
        refine ev_aload_3 dX5_buys_54 ?_
        refine ev_iload_1 dX5_buys_55 ?_
        refine ev_iload_2 dX5_buys_56 ?_
        refine ev_invV (ci := 4) dX5_buys_57 ml_X5_189 mt_X4_sell (c_X4_sell d (t := 2) town_now) (by first | assumption | decide) (by decide) rfl rfl rfl (rm_ok (by omega)) (Nat.le_of_ble_eq_true rfl) ?_
        refine Ev.pc 60 rfl ?_
        refine ev_aload_3 dX5_buys_60 ?_
        refine Ev.pc 61 rfl ?_
        refine ev_get dX5_buys_61 fk_X5_193 (by first | assumption | decide) (by decide) rfl ?_
        simp only [Nat.reduceAdd]
        refine ev_iload_1 dX5_buys_64 ?_
        refine ev_invS dX5_buys_65 ml_X5_196 mt_X5_at (c_X5_at d (by first | assumption | decide)) rfl rfl (rm_ok (by omega)) (Nat.le_of_ble_eq_true rfl) ?_
        refine Ev.pc 68 rfl ?_
        exact ev_ireturn dX5_buys_68 ⟨by ((try simp only [b2i_0, b2i_1, Decidable.not_not] at *); simp only [buysC]; repeat' (first | with_reducible rfl | contradiction | (exfalso; simp_all; done) | split)), by ((try simp only [b2i_0, b2i_1, Decidable.not_not] at *); simp only [buysC, badS, noS]; repeat' (first | with_reducible rfl | contradiction | (exfalso; simp_all; done) | split))⟩
      · refine ev_aload_0 dX5_buys_38 ?_
        refine ev_invV (ci := 5) dX5_buys_39 ml_X5_186 mt_X5_no (c_X5_no d) (by first | assumption | decide) (by decide) rfl rfl rfl (rm_ok (by omega)) (Nat.le_of_ble_eq_true rfl) ?_
        refine Ev.pc 42 rfl ?_
        exact ev_ireturn dX5_buys_42 ⟨by ((try simp only [b2i_0, b2i_1, Decidable.not_not] at *); simp only [buysC]; repeat' (first | with_reducible rfl | contradiction | (exfalso; simp_all; done) | split)), by ((try simp only [b2i_0, b2i_1, Decidable.not_not] at *); simp only [buysC, badS, noS]; repeat' (first | with_reducible rfl | contradiction | (exfalso; simp_all; done) | split))⟩
    · refine ev_aload_0 dX5_buys_24 ?_
      refine ev_invV (ci := 5) dX5_buys_25 ml_X5_102 mt_X5_bad (c_X5_bad d) (by first | assumption | decide) (by decide) rfl rfl rfl (rm_ok (by omega)) (Nat.le_of_ble_eq_true rfl) ?_
      refine Ev.pc 28 rfl ?_
      exact ev_ireturn dX5_buys_28 ⟨by ((try simp only [b2i_0, b2i_1, Decidable.not_not] at *); simp only [buysC]; repeat' (first | with_reducible rfl | contradiction | (exfalso; simp_all; done) | split)), by ((try simp only [b2i_0, b2i_1, Decidable.not_not] at *); simp only [buysC, badS, noS]; repeat' (first | with_reducible rfl | contradiction | (exfalso; simp_all; done) | split))⟩
def keepsC (σ : xS) (u : Nat) (p h : Int32) : Int32 × xS :=
  if hasIn (σ.1 2 7) p then if hasIn (σ.1 2 8) h then if held σ 2 p then
    (jB (saveC σ u) 2 p h, xput (xu (saveC σ u) 2 11 ((saveC σ u).1 2 11 + jB (saveC σ u) 2 p h)) 6 p (10 + h))
  else (-3, noS σ) else (-2, badS σ) else (-2, badS σ)
theorem c_X5_keeps (d : Nat) {E : xE} {σ : xS} {u : Nat} {p h : Int32} (hu : σ.1 10 1 = nI u) (hu8 : u ≤ 8) : Ct E (d + 5) yX5_keeps cX5_keeps 4 (some .int) [.ref (E.1 0), .int p, .int h] σ (some (.int (keepsC σ u p h).1)) (keepsC σ u p h).2 := by
  refine Ct.of (by decide +kernel) (Nat.le_of_ble_eq_true rfl) ⟨_, rfl, rfl⟩ ?_
  show Ev E _ RX5 cX5_keeps 4 _ 0 [some (.ref (E.1 0)), some (.int p), some (.int h), none] [] _
  refine ev_aload_0 dX5_keeps_0 ?_
  refine ev_get dX5_keeps_1 fk_X5_10 (by first | assumption | decide) (by decide) rfl ?_
  refine ev_get dX5_keeps_4 fk_X5_89 (by first | assumption | decide) (by decide) rfl ?_
  simp only [Nat.reduceAdd]
  refine ev_astore_3 dX5_keeps_7 rfl ?_
  refine ev_aload_3 dX5_keeps_8 ?_
  refine Ev.pc 9 rfl ?_
  refine ev_iload_1 dX5_keeps_9 ?_
  refine ev_invV (ci := 4) dX5_keeps_10 ml_X5_179 mt_X4_hasPromise (c_X4_hasPromise d (t := 2) town_now.1) (by first | assumption | decide) (by decide) rfl rfl rfl (rm_ok (by omega)) (Nat.le_of_ble_eq_true rfl) ?_
  refine Ev.pc 13 rfl ?_
  refine ev_if_eq 24 dX5_keeps_13 rfl (fun h13 => ?_) (fun h13 => ?_)
  · refine ev_aload_0 dX5_keeps_24 ?_
    refine ev_invV (ci := 5) dX5_keeps_25 ml_X5_102 mt_X5_bad (c_X5_bad d) (by first | assumption | decide) (by decide) rfl rfl rfl (rm_ok (by omega)) (Nat.le_of_ble_eq_true rfl) ?_
    refine Ev.pc 28 rfl ?_
    exact ev_ireturn dX5_keeps_28 ⟨by ((try simp only [b2i_0, b2i_1, Decidable.not_not] at *); simp only [keepsC]; repeat' (first | with_reducible rfl | contradiction | (exfalso; simp_all; done) | split)), by ((try simp only [b2i_0, b2i_1, Decidable.not_not] at *); simp only [keepsC, badS, noS]; repeat' (first | with_reducible rfl | contradiction | (exfalso; simp_all; done) | split))⟩
  · refine ev_aload_3 dX5_keeps_16 ?_
    refine ev_iload_2 dX5_keeps_17 ?_
    refine ev_invV (ci := 4) dX5_keeps_18 ml_X5_200 mt_X4_hasHearer (c_X4_hasHearer d (t := 2) town_now.1) (by first | assumption | decide) (by decide) rfl rfl rfl (rm_ok (by omega)) (Nat.le_of_ble_eq_true rfl) ?_
    refine Ev.pc 21 rfl ?_
    refine ev_if_ne 29 dX5_keeps_21 rfl (fun h21 => ?_) (fun h21 => ?_)
    · refine ev_aload_3 dX5_keeps_29 ?_
      refine ev_iload_1 dX5_keeps_30 ?_
      refine ev_invV (ci := 4) dX5_keeps_31 ml_X5_203 mt_X4_isHeld (c_X4_isHeld d (t := 2) town_now) (by first | assumption | decide) (by decide) rfl rfl rfl (rm_ok (by omega)) (Nat.le_of_ble_eq_true rfl) ?_
      refine Ev.pc 34 rfl ?_
      refine ev_if_ne 42 dX5_keeps_34 rfl (fun h34 => ?_) (fun h34 => ?_)
      · refine ev_aload_0 dX5_keeps_42 ?_
        refine ev_get dX5_keeps_43 fk_X5_10 (by first | assumption | decide) (by decide) rfl ?_
        refine ev_get dX5_keeps_46 fk_X5_108 (by first | assumption | decide) (by decide) rfl ?_
        simp only [Nat.reduceAdd]
        refine ev_aload_3 dX5_keeps_49 ?_
        refine ev_invV (ci := 1) dX5_keeps_50 ml_X5_165 mt_X1_save (c_X1_save d hu hu8) (by first | assumption | decide) (by decide) rfl rfl rfl (rm_ok (by omega)) (Nat.le_of_ble_eq_true rfl) ?_
        refine Ev.pc 53 rfl ?_
        refine ev_aload_3 dX5_keeps_53 ?_
        refine ev_iload_1 dX5_keeps_54 ?_
        refine ev_iload_2 dX5_keeps_55 ?_
        refine ev_invV (ci := 4) dX5_keeps_56 ml_X5_206 mt_X4_give (c_X4_give d (t := 2) town_now) (by first | assumption | decide) (by decide) rfl rfl rfl (rm_ok (by omega)) (Nat.le_of_ble_eq_true rfl) ?_
        refine Ev.pc 59 rfl ?_
        exact ev_ireturn dX5_keeps_59 ⟨by ((try simp only [b2i_0, b2i_1, Decidable.not_not] at *); simp only [keepsC]; repeat' (first | with_reducible rfl | contradiction | (exfalso; simp_all; done) | split)), by ((try simp only [b2i_0, b2i_1, Decidable.not_not] at *); simp only [keepsC, badS, noS]; repeat' (first | with_reducible rfl | contradiction | (exfalso; simp_all; done) | split))⟩
      · refine ev_aload_0 dX5_keeps_37 ?_
        refine ev_invV (ci := 5) dX5_keeps_38 ml_X5_186 mt_X5_no (c_X5_no d) (by first | assumption | decide) (by decide) rfl rfl rfl (rm_ok (by omega)) (Nat.le_of_ble_eq_true rfl) ?_
        refine Ev.pc 41 rfl ?_
        exact ev_ireturn dX5_keeps_41 ⟨by ((try simp only [b2i_0, b2i_1, Decidable.not_not] at *); simp only [keepsC]; repeat' (first | with_reducible rfl | contradiction | (exfalso; simp_all; done) | split)), by ((try simp only [b2i_0, b2i_1, Decidable.not_not] at *); simp only [keepsC, badS, noS]; repeat' (first | with_reducible rfl | contradiction | (exfalso; simp_all; done) | split))⟩
    · refine ev_aload_0 dX5_keeps_24 ?_
      refine ev_invV (ci := 5) dX5_keeps_25 ml_X5_102 mt_X5_bad (c_X5_bad d) (by first | assumption | decide) (by decide) rfl rfl rfl (rm_ok (by omega)) (Nat.le_of_ble_eq_true rfl) ?_
      refine Ev.pc 28 rfl ?_
      exact ev_ireturn dX5_keeps_28 ⟨by ((try simp only [b2i_0, b2i_1, Decidable.not_not] at *); simp only [keepsC]; repeat' (first | with_reducible rfl | contradiction | (exfalso; simp_all; done) | split)), by ((try simp only [b2i_0, b2i_1, Decidable.not_not] at *); simp only [keepsC, badS, noS]; repeat' (first | with_reducible rfl | contradiction | (exfalso; simp_all; done) | split))⟩
def undoC (σ : xS) : Nat → Int32 × xS
  | 0 => (-3, noS σ)
  | u + 1 => ((backAt σ u).1 2 10, backAt σ u)
theorem c_X5_undo (d : Nat) {E : xE} {σ : xS} {u : Nat} (hu : σ.1 10 1 = nI u) (hu8 : u ≤ 8) : Ct E (d + 3) yX5_undo cX5_undo 1 (some .int) [.ref (E.1 0)] σ (some (.int (undoC σ u).1)) (undoC σ u).2 := by
  cases u with
  | zero =>
    refine Ct.of (by decide +kernel) (Nat.le_of_ble_eq_true rfl) ⟨_, rfl, rfl⟩ ?_
    show Ev E _ RX5 cX5_undo 1 _ 0 [some (.ref (E.1 0))] [] _
    refine ev_aload_0 dX5_undo_0 ?_
    refine ev_get dX5_undo_1 fk_X5_10 (by first | assumption | decide) (by decide) rfl ?_
    refine ev_get dX5_undo_4 fk_X5_108 (by first | assumption | decide) (by decide) rfl ?_
    simp only [Nat.reduceAdd]
    refine ev_get dX5_undo_7 fk_X5_112 (by first | assumption | decide) (by decide) rfl ?_
    refine ev_if_ne 18 dX5_undo_10 rfl (fun h10 => ?_) (fun h10 => ?_)
    · exact absurd hu h10
    · refine ev_aload_0 dX5_undo_13 ?_
      refine ev_invV (ci := 5) dX5_undo_14 ml_X5_186 mt_X5_no (c_X5_no d) (by first | assumption | decide) (by decide) rfl rfl rfl (rm_ok (by omega)) (Nat.le_of_ble_eq_true rfl) ?_
      refine Ev.pc 17 rfl ?_
      exact ev_ireturn dX5_undo_17 ⟨by rfl, by rfl⟩
  | succ u =>
    refine Ct.of (by decide +kernel) (Nat.le_of_ble_eq_true rfl) ⟨_, rfl, rfl⟩ ?_
    show Ev E _ RX5 cX5_undo 1 _ 0 [some (.ref (E.1 0))] [] _
    refine ev_aload_0 dX5_undo_0 ?_
    refine ev_get dX5_undo_1 fk_X5_10 (by first | assumption | decide) (by decide) rfl ?_
    refine ev_get dX5_undo_4 fk_X5_108 (by first | assumption | decide) (by decide) rfl ?_
    simp only [Nat.reduceAdd]
    refine ev_get dX5_undo_7 fk_X5_112 (by first | assumption | decide) (by decide) rfl ?_
    refine ev_if_ne 18 dX5_undo_10 rfl (fun h10 => ?_) (fun h10 => ?_)
    · refine ev_aload_0 dX5_undo_18 ?_
      refine ev_get dX5_undo_19 fk_X5_10 (by first | assumption | decide) (by decide) rfl ?_
      refine ev_get dX5_undo_22 fk_X5_108 (by first | assumption | decide) (by decide) rfl ?_
      simp only [Nat.reduceAdd]
      refine ev_aload_0 dX5_undo_25 ?_
      refine ev_get dX5_undo_26 fk_X5_10 (by first | assumption | decide) (by decide) rfl ?_
      refine Ev.pc 29 rfl ?_
      refine ev_get dX5_undo_29 fk_X5_89 (by first | assumption | decide) (by decide) rfl ?_
      simp only [Nat.reduceAdd]
      refine ev_invV (ci := 1) dX5_undo_32 ml_X5_209 mt_X1_restore (c_X1_restore d hu (by omega)) (by first | assumption | decide) (by decide) rfl rfl rfl (rm_ok (by omega)) (Nat.le_of_ble_eq_true rfl) ?_
      refine Ev.pc 35 rfl ?_
      refine ev_aload_0 dX5_undo_35 ?_
      refine ev_get dX5_undo_36 fk_X5_10 (by first | assumption | decide) (by decide) rfl ?_
      refine ev_get dX5_undo_39 fk_X5_89 (by first | assumption | decide) (by decide) rfl ?_
      simp only [Nat.reduceAdd]
      refine Ev.pc 42 rfl ?_
      refine ev_get dX5_undo_42 fk_X5_168 (by first | assumption | decide) (by decide) rfl ?_
      exact ev_ireturn dX5_undo_45 ⟨by rfl, by rfl⟩
    · exact absurd (hu ▸ h10) (nI_ne0 (by omega) (by omega))
def ofC (σ : xS) (p w : Int32) : Int32 × xS :=
  if hasIn (σ.1 2 7) p then if w = 0 then (xat σ 3 p, σ) else if w = 1 then (xat σ 4 p, σ) else if w = 2 then (xat σ 5 p, σ) else if w = 3 then (xat σ 6 p, σ) else if w = 4 then (gB σ 2 p 0, σ) else if w = 5 then (prB σ 2 p, σ) else (-2, badS σ) else (-2, badS σ)
theorem c_X5_of (d : Nat) {E : xE} {σ : xS} {p w : Int32} : Ct E (d + 4) yX5_of cX5_of 4 (some .int) [.ref (E.1 0), .int p, .int w] σ (some (.int (ofC σ p w).1)) (ofC σ p w).2 := by
  refine Ct.of (by decide +kernel) (Nat.le_of_ble_eq_true rfl) ⟨_, rfl, rfl⟩ ?_
  show Ev E _ RX5 cX5_of 4 _ 0 [some (.ref (E.1 0)), some (.int p), some (.int w), none] [] _
  refine ev_aload_0 dX5_of_0 ?_
  refine ev_get dX5_of_1 fk_X5_10 (by first | assumption | decide) (by decide) rfl ?_
  refine ev_get dX5_of_4 fk_X5_89 (by first | assumption | decide) (by decide) rfl ?_
  simp only [Nat.reduceAdd]
  refine ev_astore_3 dX5_of_7 rfl ?_
  refine ev_aload_3 dX5_of_8 ?_
  refine Ev.pc 9 rfl ?_
  refine ev_iload_1 dX5_of_9 ?_
  refine ev_invV (ci := 4) dX5_of_10 ml_X5_179 mt_X4_hasPromise (c_X4_hasPromise d (t := 2) town_now.1) (by first | assumption | decide) (by decide) rfl rfl rfl (rm_ok (by omega)) (Nat.le_of_ble_eq_true rfl) ?_
  refine Ev.pc 13 rfl ?_
  refine ev_if_ne 21 dX5_of_13 rfl (fun h13 => ?_) (fun h13 => ?_)
  · refine ev_iload_2 dX5_of_21 ?_
    refine sw_X5_of_22 (fun h22 => ?_) (fun h22 => ?_) (fun h22 => ?_) (fun h22 => ?_) (fun h22 => ?_) (fun h22 => ?_) (fun h22_0 h22_1 h22_2 h22_3 h22_4 h22_5 => ?_)
    · refine ev_aload_3 dX5_of_60 ?_
      refine ev_get dX5_of_61 fk_X5_212 (by first | assumption | decide) (by decide) rfl ?_
      simp only [Nat.reduceAdd]
      refine ev_iload_1 dX5_of_64 ?_
      refine ev_invS dX5_of_65 ml_X5_196 mt_X5_at (c_X5_at d (by first | assumption | decide)) rfl rfl (rm_ok (by omega)) (Nat.le_of_ble_eq_true rfl) ?_
      refine Ev.pc 68 rfl ?_
      exact ev_ireturn dX5_of_68 ⟨by ((try simp only [b2i_0, b2i_1, Decidable.not_not] at *); simp only [ofC]; repeat' (first | with_reducible rfl | contradiction | (exfalso; simp_all; done) | split)), by ((try simp only [b2i_0, b2i_1, Decidable.not_not] at *); simp only [ofC, badS]; repeat' (first | with_reducible rfl | contradiction | (exfalso; simp_all; done) | split))⟩
    · refine ev_aload_3 dX5_of_69 ?_
      refine ev_get dX5_of_70 fk_X5_215 (by first | assumption | decide) (by decide) rfl ?_
      simp only [Nat.reduceAdd]
      refine ev_iload_1 dX5_of_73 ?_
      refine ev_invS dX5_of_74 ml_X5_196 mt_X5_at (c_X5_at d (by first | assumption | decide)) rfl rfl (rm_ok (by omega)) (Nat.le_of_ble_eq_true rfl) ?_
      refine Ev.pc 77 rfl ?_
      exact ev_ireturn dX5_of_77 ⟨by ((try simp only [b2i_0, b2i_1, Decidable.not_not] at *); simp only [ofC]; repeat' (first | with_reducible rfl | contradiction | (exfalso; simp_all; done) | split)), by ((try simp only [b2i_0, b2i_1, Decidable.not_not] at *); simp only [ofC, badS]; repeat' (first | with_reducible rfl | contradiction | (exfalso; simp_all; done) | split))⟩
    · refine ev_aload_3 dX5_of_78 ?_
      refine ev_get dX5_of_79 fk_X5_218 (by first | assumption | decide) (by decide) rfl ?_
      simp only [Nat.reduceAdd]
      refine ev_iload_1 dX5_of_82 ?_
      refine ev_invS dX5_of_83 ml_X5_196 mt_X5_at (c_X5_at d (by first | assumption | decide)) rfl rfl (rm_ok (by omega)) (Nat.le_of_ble_eq_true rfl) ?_
      refine Ev.pc 86 rfl ?_
      exact ev_ireturn dX5_of_86 ⟨by ((try simp only [b2i_0, b2i_1, Decidable.not_not] at *); simp only [ofC]; repeat' (first | with_reducible rfl | contradiction | (exfalso; simp_all; done) | split)), by ((try simp only [b2i_0, b2i_1, Decidable.not_not] at *); simp only [ofC, badS]; repeat' (first | with_reducible rfl | contradiction | (exfalso; simp_all; done) | split))⟩
    · refine ev_aload_3 dX5_of_87 ?_
      refine ev_get dX5_of_88 fk_X5_221 (by first | assumption | decide) (by decide) rfl ?_
      simp only [Nat.reduceAdd]
      refine ev_iload_1 dX5_of_91 ?_
      refine ev_invS dX5_of_92 ml_X5_196 mt_X5_at (c_X5_at d (by first | assumption | decide)) rfl rfl (rm_ok (by omega)) (Nat.le_of_ble_eq_true rfl) ?_
      refine Ev.pc 95 rfl ?_
      exact ev_ireturn dX5_of_95 ⟨by ((try simp only [b2i_0, b2i_1, Decidable.not_not] at *); simp only [ofC]; repeat' (first | with_reducible rfl | contradiction | (exfalso; simp_all; done) | split)), by ((try simp only [b2i_0, b2i_1, Decidable.not_not] at *); simp only [ofC, badS]; repeat' (first | with_reducible rfl | contradiction | (exfalso; simp_all; done) | split))⟩
    · refine ev_aload_3 dX5_of_96 ?_
      refine ev_iload_1 dX5_of_97 ?_
      refine ev_iconst_0 dX5_of_98 ?_
      refine ev_invV (ci := 4) dX5_of_99 ml_X5_224 mt_X4_goodBehind (c_X4_goodBehind d (t := 2) town_now) (by first | assumption | decide) (by decide) rfl rfl rfl (rm_ok (by omega)) (Nat.le_of_ble_eq_true rfl) ?_
      refine Ev.pc 102 rfl ?_
      exact ev_ireturn dX5_of_102 ⟨by ((try simp only [b2i_0, b2i_1, Decidable.not_not] at *); simp only [ofC]; repeat' (first | with_reducible rfl | contradiction | (exfalso; simp_all; done) | split)), by ((try simp only [b2i_0, b2i_1, Decidable.not_not] at *); simp only [ofC, badS]; repeat' (first | with_reducible rfl | contradiction | (exfalso; simp_all; done) | split))⟩
    · refine ev_aload_3 dX5_of_103 ?_
      refine ev_iload_1 dX5_of_104 ?_
      refine ev_invV (ci := 4) dX5_of_105 ml_X5_227 mt_X4_priceOf (c_X4_priceOf d (t := 2) town_now) (by first | assumption | decide) (by decide) rfl rfl rfl (rm_ok (by omega)) (Nat.le_of_ble_eq_true rfl) ?_
      refine Ev.pc 108 rfl ?_
      exact ev_ireturn dX5_of_108 ⟨by ((try simp only [b2i_0, b2i_1, Decidable.not_not] at *); simp only [ofC]; repeat' (first | with_reducible rfl | contradiction | (exfalso; simp_all; done) | split)), by ((try simp only [b2i_0, b2i_1, Decidable.not_not] at *); simp only [ofC, badS]; repeat' (first | with_reducible rfl | contradiction | (exfalso; simp_all; done) | split))⟩
    · refine ev_aload_0 dX5_of_109 ?_
      refine ev_invV (ci := 5) dX5_of_110 ml_X5_102 mt_X5_bad (c_X5_bad d) (by first | assumption | decide) (by decide) rfl rfl rfl (rm_ok (by omega)) (Nat.le_of_ble_eq_true rfl) ?_
      refine Ev.pc 113 rfl ?_
      exact ev_ireturn dX5_of_113 ⟨by ((try simp only [b2i_0, b2i_1, Decidable.not_not] at *); simp only [ofC]; repeat' (first | with_reducible rfl | contradiction | (exfalso; simp_all; done) | split)), by ((try simp only [b2i_0, b2i_1, Decidable.not_not] at *); simp only [ofC, badS]; repeat' (first | with_reducible rfl | contradiction | (exfalso; simp_all; done) | split))⟩
  · refine ev_aload_0 dX5_of_16 ?_
    refine ev_invV (ci := 5) dX5_of_17 ml_X5_102 mt_X5_bad (c_X5_bad d) (by first | assumption | decide) (by decide) rfl rfl rfl (rm_ok (by omega)) (Nat.le_of_ble_eq_true rfl) ?_
    refine Ev.pc 20 rfl ?_
    exact ev_ireturn dX5_of_20 ⟨by ((try simp only [b2i_0, b2i_1, Decidable.not_not] at *); simp only [ofC]; repeat' (first | with_reducible rfl | contradiction | (exfalso; simp_all; done) | split)), by ((try simp only [b2i_0, b2i_1, Decidable.not_not] at *); simp only [ofC, badS]; repeat' (first | with_reducible rfl | contradiction | (exfalso; simp_all; done) | split))⟩
def aboutC (σ : xS) (P : Nat) (h w : Int32) : Int32 × xS :=
  if hasIn (σ.1 2 8) h then if w = 0 then (xat σ 7 h, σ) else if w = 1 then (xat σ 8 h, σ) else if w = 2 then (mkI (fun k => decide (σ.1 6 k = 10 + h)) P, σ) else (-2, badS σ) else (-2, badS σ)
theorem c_X5_about (d : Nat) {E : xE} {σ : xS} {P : Nat} {h w : Int32} (hP : σ.1 2 7 = nI P) (hP7 : P ≤ 7) : Ct E (d + 2) yX5_about cX5_about 4 (some .int) [.ref (E.1 0), .int h, .int w] σ (some (.int (aboutC σ P h w).1)) (aboutC σ P h w).2 := by
  refine Ct.of (by decide +kernel) (Nat.le_of_ble_eq_true rfl) ⟨_, rfl, rfl⟩ ?_
  show Ev E _ RX5 cX5_about 4 _ 0 [some (.ref (E.1 0)), some (.int h), some (.int w), none] [] _
  refine ev_aload_0 dX5_about_0 ?_
  refine ev_get dX5_about_1 fk_X5_10 (by first | assumption | decide) (by decide) rfl ?_
  refine ev_get dX5_about_4 fk_X5_89 (by first | assumption | decide) (by decide) rfl ?_
  simp only [Nat.reduceAdd]
  refine ev_astore_3 dX5_about_7 rfl ?_
  refine ev_aload_3 dX5_about_8 ?_
  refine Ev.pc 9 rfl ?_
  refine ev_iload_1 dX5_about_9 ?_
  refine ev_invV (ci := 4) dX5_about_10 ml_X5_200 mt_X4_hasHearer (c_X4_hasHearer d (t := 2) town_now.1) (by first | assumption | decide) (by decide) rfl rfl rfl (rm_ok (by omega)) (Nat.le_of_ble_eq_true rfl) ?_
  refine Ev.pc 13 rfl ?_
  refine ev_if_ne 21 dX5_about_13 rfl (fun h13 => ?_) (fun h13 => ?_)
  · refine ev_iload_2 dX5_about_21 ?_
    refine sw_X5_about_22 (fun h22 => ?_) (fun h22 => ?_) (fun h22 => ?_) (fun h22_0 h22_1 h22_2 => ?_)
    · refine ev_aload_3 dX5_about_48 ?_
      refine ev_get dX5_about_49 fk_X5_230 (by first | assumption | decide) (by decide) rfl ?_
      simp only [Nat.reduceAdd]
      refine ev_iload_1 dX5_about_52 ?_
      refine ev_invS dX5_about_53 ml_X5_196 mt_X5_at (c_X5_at d (by first | assumption | decide)) rfl rfl (rm_ok (by omega)) (Nat.le_of_ble_eq_true rfl) ?_
      refine Ev.pc 56 rfl ?_
      exact ev_ireturn dX5_about_56 ⟨by ((try simp only [b2i_0, b2i_1, Decidable.not_not] at *); simp only [aboutC]; repeat' (first | with_reducible rfl | contradiction | (exfalso; simp_all; done) | split)), by ((try simp only [b2i_0, b2i_1, Decidable.not_not] at *); simp only [aboutC, badS]; repeat' (first | with_reducible rfl | contradiction | (exfalso; simp_all; done) | split))⟩
    · refine ev_aload_3 dX5_about_57 ?_
      refine ev_get dX5_about_58 fk_X5_233 (by first | assumption | decide) (by decide) rfl ?_
      simp only [Nat.reduceAdd]
      refine ev_iload_1 dX5_about_61 ?_
      refine ev_invS dX5_about_62 ml_X5_196 mt_X5_at (c_X5_at d (by first | assumption | decide)) rfl rfl (rm_ok (by omega)) (Nat.le_of_ble_eq_true rfl) ?_
      refine Ev.pc 65 rfl ?_
      exact ev_ireturn dX5_about_65 ⟨by ((try simp only [b2i_0, b2i_1, Decidable.not_not] at *); simp only [aboutC]; repeat' (first | with_reducible rfl | contradiction | (exfalso; simp_all; done) | split)), by ((try simp only [b2i_0, b2i_1, Decidable.not_not] at *); simp only [aboutC, badS]; repeat' (first | with_reducible rfl | contradiction | (exfalso; simp_all; done) | split))⟩
    · refine ev_aload_3 dX5_about_66 ?_
      refine ev_bipush (10) dX5_about_67 rfl ?_
      refine ev_iload_1 dX5_about_69 ?_
      refine ev_iadd dX5_about_70 ?_
      refine ev_invV (ci := 4) dX5_about_71 ml_X5_236 mt_X4_bitsAt (c_X4_bitsAt d (t := 2) (P := P) town_now hP hP7) (by first | assumption | decide) (by decide) rfl rfl rfl (rm_ok (by omega)) (Nat.le_of_ble_eq_true rfl) ?_
      refine Ev.pc 74 rfl ?_
      exact ev_ireturn dX5_about_74 ⟨by ((try simp only [b2i_0, b2i_1, Decidable.not_not] at *); simp only [aboutC]; repeat' (first | with_reducible rfl | contradiction | (exfalso; simp_all; done) | split)), by ((try simp only [b2i_0, b2i_1, Decidable.not_not] at *); simp only [aboutC, badS]; repeat' (first | with_reducible rfl | contradiction | (exfalso; simp_all; done) | split))⟩
    · refine ev_aload_0 dX5_about_75 ?_
      refine ev_invV (ci := 5) dX5_about_76 ml_X5_102 mt_X5_bad (c_X5_bad d) (by first | assumption | decide) (by decide) rfl rfl rfl (rm_ok (by omega)) (Nat.le_of_ble_eq_true rfl) ?_
      refine Ev.pc 79 rfl ?_
      exact ev_ireturn dX5_about_79 ⟨by ((try simp only [b2i_0, b2i_1, Decidable.not_not] at *); simp only [aboutC]; repeat' (first | with_reducible rfl | contradiction | (exfalso; simp_all; done) | split)), by ((try simp only [b2i_0, b2i_1, Decidable.not_not] at *); simp only [aboutC, badS]; repeat' (first | with_reducible rfl | contradiction | (exfalso; simp_all; done) | split))⟩
  · refine ev_aload_0 dX5_about_16 ?_
    refine ev_invV (ci := 5) dX5_about_17 ml_X5_102 mt_X5_bad (c_X5_bad d) (by first | assumption | decide) (by decide) rfl rfl rfl (rm_ok (by omega)) (Nat.le_of_ble_eq_true rfl) ?_
    refine Ev.pc 20 rfl ?_
    exact ev_ireturn dX5_about_20 ⟨by ((try simp only [b2i_0, b2i_1, Decidable.not_not] at *); simp only [aboutC]; repeat' (first | with_reducible rfl | contradiction | (exfalso; simp_all; done) | split)), by ((try simp only [b2i_0, b2i_1, Decidable.not_not] at *); simp only [aboutC, badS]; repeat' (first | with_reducible rfl | contradiction | (exfalso; simp_all; done) | split))⟩
def purseC (σ : xS) (P : Nat) (b w : Int32) : Int32 × xS :=
  if hasIn (σ.1 2 9) b then if w = 0 then (xat σ 9 b, σ) else if w = 1 then (mkI (fun k => decide (σ.1 6 k = 1 + b)) P, σ) else (-2, badS σ) else (-2, badS σ)
theorem c_X5_purse (d : Nat) {E : xE} {σ : xS} {P : Nat} {b w : Int32} (hP : σ.1 2 7 = nI P) (hP7 : P ≤ 7) : Ct E (d + 2) yX5_purse cX5_purse 4 (some .int) [.ref (E.1 0), .int b, .int w] σ (some (.int (purseC σ P b w).1)) (purseC σ P b w).2 := by
  refine Ct.of (by decide +kernel) (Nat.le_of_ble_eq_true rfl) ⟨_, rfl, rfl⟩ ?_
  show Ev E _ RX5 cX5_purse 4 _ 0 [some (.ref (E.1 0)), some (.int b), some (.int w), none] [] _
  refine ev_aload_0 dX5_purse_0 ?_
  refine ev_get dX5_purse_1 fk_X5_10 (by first | assumption | decide) (by decide) rfl ?_
  refine ev_get dX5_purse_4 fk_X5_89 (by first | assumption | decide) (by decide) rfl ?_
  simp only [Nat.reduceAdd]
  refine ev_astore_3 dX5_purse_7 rfl ?_
  refine ev_aload_3 dX5_purse_8 ?_
  refine Ev.pc 9 rfl ?_
  refine ev_iload_1 dX5_purse_9 ?_
  refine ev_invV (ci := 4) dX5_purse_10 ml_X5_175 mt_X4_hasBuyer (c_X4_hasBuyer d (t := 2) town_now.1) (by first | assumption | decide) (by decide) rfl rfl rfl (rm_ok (by omega)) (Nat.le_of_ble_eq_true rfl) ?_
  refine Ev.pc 13 rfl ?_
  refine ev_if_ne 21 dX5_purse_13 rfl (fun h13 => ?_) (fun h13 => ?_)
  · refine ev_iload_2 dX5_purse_21 ?_
    refine sw_X5_purse_22 (fun h22 => ?_) (fun h22 => ?_) (fun h22_0 h22_1 => ?_)
    · refine ev_aload_3 dX5_purse_48 ?_
      refine ev_get dX5_purse_49 fk_X5_193 (by first | assumption | decide) (by decide) rfl ?_
      simp only [Nat.reduceAdd]
      refine ev_iload_1 dX5_purse_52 ?_
      refine ev_invS dX5_purse_53 ml_X5_196 mt_X5_at (c_X5_at d (by first | assumption | decide)) rfl rfl (rm_ok (by omega)) (Nat.le_of_ble_eq_true rfl) ?_
      refine Ev.pc 56 rfl ?_
      exact ev_ireturn dX5_purse_56 ⟨by ((try simp only [b2i_0, b2i_1, Decidable.not_not] at *); simp only [purseC]; repeat' (first | with_reducible rfl | contradiction | (exfalso; simp_all; done) | split)), by ((try simp only [b2i_0, b2i_1, Decidable.not_not] at *); simp only [purseC, badS]; repeat' (first | with_reducible rfl | contradiction | (exfalso; simp_all; done) | split))⟩
    · refine ev_aload_3 dX5_purse_57 ?_
      refine ev_iconst_1 dX5_purse_58 ?_
      refine ev_iload_1 dX5_purse_59 ?_
      refine ev_iadd dX5_purse_60 ?_
      refine ev_invV (ci := 4) dX5_purse_61 ml_X5_236 mt_X4_bitsAt (c_X4_bitsAt d (t := 2) (P := P) town_now hP hP7) (by first | assumption | decide) (by decide) rfl rfl rfl (rm_ok (by omega)) (Nat.le_of_ble_eq_true rfl) ?_
      refine Ev.pc 64 rfl ?_
      exact ev_ireturn dX5_purse_64 ⟨by ((try simp only [b2i_0, b2i_1, Decidable.not_not] at *); simp only [purseC]; repeat' (first | with_reducible rfl | contradiction | (exfalso; simp_all; done) | split)), by ((try simp only [b2i_0, b2i_1, Decidable.not_not] at *); simp only [purseC, badS]; repeat' (first | with_reducible rfl | contradiction | (exfalso; simp_all; done) | split))⟩
    · refine ev_aload_0 dX5_purse_65 ?_
      refine ev_invV (ci := 5) dX5_purse_66 ml_X5_102 mt_X5_bad (c_X5_bad d) (by first | assumption | decide) (by decide) rfl rfl rfl (rm_ok (by omega)) (Nat.le_of_ble_eq_true rfl) ?_
      refine Ev.pc 69 rfl ?_
      exact ev_ireturn dX5_purse_69 ⟨by ((try simp only [b2i_0, b2i_1, Decidable.not_not] at *); simp only [purseC]; repeat' (first | with_reducible rfl | contradiction | (exfalso; simp_all; done) | split)), by ((try simp only [b2i_0, b2i_1, Decidable.not_not] at *); simp only [purseC, badS]; repeat' (first | with_reducible rfl | contradiction | (exfalso; simp_all; done) | split))⟩
  · refine ev_aload_0 dX5_purse_16 ?_
    refine ev_invV (ci := 5) dX5_purse_17 ml_X5_102 mt_X5_bad (c_X5_bad d) (by first | assumption | decide) (by decide) rfl rfl rfl (rm_ok (by omega)) (Nat.le_of_ble_eq_true rfl) ?_
    refine Ev.pc 20 rfl ?_
    exact ev_ireturn dX5_purse_20 ⟨by ((try simp only [b2i_0, b2i_1, Decidable.not_not] at *); simp only [purseC]; repeat' (first | with_reducible rfl | contradiction | (exfalso; simp_all; done) | split)), by ((try simp only [b2i_0, b2i_1, Decidable.not_not] at *); simp only [purseC, badS]; repeat' (first | with_reducible rfl | contradiction | (exfalso; simp_all; done) | split))⟩
