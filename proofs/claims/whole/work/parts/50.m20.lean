/-! the reference: going on in the text -/
def MrOK (σ : xS) : Prop := ∃ L s g, σ.1 73 11 = nI L ∧ L ≤ 150 ∧ σ.1 73 12 = nI s ∧ σ.1 73 13 = nI g ∧ s + g ≤ L
def gbS (σ : xS) : xS := lookM σ (σ.1 73 11).toNatClampNeg ((σ.1 73 12).toNatClampNeg + (σ.1 73 13).toNatClampNeg)
theorem gbS_eq {σ : xS} {L s g : Nat} (hL : σ.1 73 11 = nI L) (hL5 : L ≤ 150) (hs : σ.1 73 12 = nI s) (hg : σ.1 73 13 = nI g) (ha : s + g ≤ L) : gbS σ = lookM σ L (s + g) := by
  rw [gbS, hL, hs, hg, nI_clamp (by omega), nI_clamp (by omega), nI_clamp (by omega)]
theorem MrOK_look {σ : xS} {L a : Nat} (hL : σ.1 73 11 = nI L) (hL5 : L ≤ 150) (ha : a ≤ L) : MrOK (lookM σ L a) := by
  refine ⟨L, tS (σ.1 82) L a, tN (σ.1 82) L a - tS (σ.1 82) L a, ?_, hL5, ?_, ?_, ?_⟩
  · rw [lookM, setM_11, hL]
  · rw [lookM, setM_g12]
  · rw [lookM, setM_g13]
  · have h1 := tN_ge (σ.1 82) L a
    have h2 := tN_le (σ.1 82) ha
    omega
theorem MrOK_gb {σ : xS} (h : MrOK σ) : MrOK (gbS σ) := by
  obtain ⟨L, s, g, hL, hL5, hs, hg, ha⟩ := h
  rw [gbS_eq hL hL5 hs hg ha]
  exact MrOK_look hL hL5 ha
theorem MrOK_of {σ τ : xS} (h : MrOK σ) (e : τ.1 73 = σ.1 73) : MrOK τ := by
  obtain ⟨L, s, g, hL, hL5, hs, hg, ha⟩ := h
  exact ⟨L, s, g, by rw [e]; exact hL, hL5, by rw [e]; exact hs, by rw [e]; exact hg, ha⟩
theorem gbS_o (σ : xS) {i : Nat} (h : i ≠ 73) : (gbS σ).1 i = σ.1 i := setM_o _ _ _ _ _ h
theorem c_X6_goBehindQ (d : Nat) {E : xE} {σ : xS} (h : MrOK σ) : Ct E (d + 3) yX6_goBehind cX6_goBehind 1 none [.ref (E.1 73)] σ none (gbS σ) := by
  obtain ⟨L, s, g, hL, hL5, hs, hg, ha⟩ := h
  rw [gbS_eq hL hL5 hs hg ha]
  exact c_X6_goBehind d hL hL5 hs hg ha
abbrev tkB (σ : xS) (lo hi : Int32) : Prop := σ.1 73 14 = 2 ∧ btw (σ.1 73 15) lo hi
def tkS (σ : xS) (i : Nat) (lo hi : Int32) : xS := if tkB σ lo hi then gbS (xrow σ 84 (upd (σ.1 84) i (σ.1 73 15))) else σ
theorem MrOK_tk {σ : xS} (h : MrOK σ) (i : Nat) (lo hi : Int32) : MrOK (tkS σ i lo hi) := by
  rw [tkS]
  split
  · exact MrOK_gb (MrOK_of h (xrow_ne _ _ (by decide)))
  · exact h
theorem tkS_o (σ : xS) (i : Nat) (lo hi : Int32) {r : Nat} (h : r ≠ 73) (h2 : r ≠ 84) : (tkS σ i lo hi).1 r = σ.1 r := by
  rw [tkS]
  split
  · rw [gbS_o _ h, xrow_ne _ _ h2]
  · rfl
theorem c_X6_takesQ (d : Nat) {E : xE} {σ : xS} {i : Nat} {j lo hi : Int32} (h : MrOK σ) (hj : j = nI i) (hi2 : i < 2) : Ct E (d + 4) yX6_takes cX6_takes 4 (some .boolean) [.ref (E.1 73), .int j, .int lo, .int hi] σ (some (.int (b2i (tkB σ lo hi)))) (tkS σ i lo hi) := by
  by_cases q : tkB σ lo hi
  · obtain ⟨L, s, g, hL, hL5, hs, hg, ha⟩ := h
    have e73 : (xrow σ 84 (upd (σ.1 84) i (σ.1 73 15))).1 73 = σ.1 73 := xrow_ne _ _ (by decide)
    rw [← b2i_t q, tkS, if_pos q, gbS_eq (L := L) (s := s) (g := g) (by rw [e73]; exact hL) hL5 (by rw [e73]; exact hs) (by rw [e73]; exact hg) ha]
    exact c_X6_takes d hj hi2 hL hL5 hs hg ha q.1 q.2
  · rw [← b2i_f q, tkS, if_neg q]
    exact c_X6_takes_no d q
def tDays (σ : xS) (P : Nat) : xS := if tkB (gbS σ) 1 99 then xrow (tkS (gbS σ) 0 1 99) 83 (mDays P ((tkS (gbS σ) 0 1 99).1 84 0).toNatClampNeg (σ.1 83)) else tkS (gbS σ) 0 1 99
theorem tkS_84 {σ : xS} {i : Nat} {lo hi : Int32} (q : tkB σ lo hi) : (tkS σ i lo hi).1 84 i = σ.1 73 15 := by
  rw [tkS, if_pos q, gbS_o _ (by decide), xrow_at, upd_at]
theorem c_X6_takesDays (d : Nat) {E : xE} {σ : xS} {P : Nat} (h : MrOK σ) (hP : σ.1 83 0 = nI P) (hP7 : P ≤ 7) : Ct E (d + 5) yX6_takesDays cX6_takesDays 1 (some .boolean) [.ref (E.1 73)] σ (some (.int (b2i (tkB (gbS σ) 1 99)))) (tDays σ P) := by
  have e83 : (tkS (gbS σ) 0 1 99).1 83 = σ.1 83 := by rw [tkS_o _ _ _ _ (by decide) (by decide), gbS_o _ (by decide)]
  by_cases q7 : tkB (gbS σ) 1 99
  ·
    obtain ⟨N, hN1, hN⟩ : ∃ N : Nat, N < 1000 ∧ (gbS σ).1 73 15 = nI N := by
      obtain ⟨N, h1, h2⟩ := nI_of2 (x := (gbS σ).1 73 15) (M := 99) (n := 99) (by decide) (by rw [i_nlt]; exact Int32.le_trans (by decide) q7.2.1) q7.2.2
      exact ⟨N, by omega, h2⟩
    have eN : (tkS (gbS σ) 0 1 99).1 84 0 = nI N := (tkS_84 q7).trans hN
    have hd := c_X6_goDays (d + 2) (E := E) (σ := tkS (gbS σ) 0 1 99) (r := 83) (P := P) (N := N) (f := σ.1 83) (by decide) (by decide) hP hP7 hN1
    rw [← b2i_t q7, tDays, if_pos q7, eN, nI_clamp (by omega)]
    rw [show xrow (tkS (gbS σ) 0 1 99) 83 (σ.1 83) = tkS (gbS σ) 0 1 99 by rw [← e83, xrow_id]] at hd
    refine Ct.of (by decide +kernel) (Nat.le_of_ble_eq_true rfl) ⟨_, rfl, rfl⟩ ?_
    show Ev E _ RX6 cX6_takesDays 1 _ 0 [some (.ref (E.1 73))] [] _
    refine ev_aload_0 dX6_takesDays_0 ?_
    refine ev_invV (ci := 6) dX6_takesDays_1 ml_X6_260 mt_X6_goBehind (c_X6_goBehindQ (d + 1) h) (by first | assumption | decide) (by decide) rfl rfl rfl (rm_ok (by omega)) (Nat.le_of_ble_eq_true rfl) ?_
    refine Ev.pc 4 rfl ?_
    refine ev_aload_0 dX6_takesDays_4 ?_
    refine ev_iconst_0 dX6_takesDays_5 ?_
    refine ev_iconst_1 dX6_takesDays_6 ?_
    refine Ev.pc 7 rfl ?_
    refine ev_bipush (99) dX6_takesDays_7 rfl ?_
    refine ev_invV (ci := 6) dX6_takesDays_9 ml_X6_263 mt_X6_takes (c_X6_takesQ d (i := 0) (MrOK_gb h) rfl (by decide)) (by first | assumption | decide) (by decide) rfl rfl rfl (rm_ok (by omega)) (Nat.le_of_ble_eq_true rfl) ?_
    refine Ev.pc 12 rfl ?_
    refine ev_if_ne 17 dX6_takesDays_12 rfl (fun h12 => ?_) (fun h12 => ?_)
    · refine ev_aload_0 dX6_takesDays_17 ?_
      refine ev_get dX6_takesDays_18 fk_X6_42 (by first | assumption | decide) (by decide) rfl ?_
      refine ev_aload_0 dX6_takesDays_21 ?_
      refine ev_get dX6_takesDays_22 fk_X6_45 (by first | assumption | decide) (by decide) rfl ?_
      refine ev_iconst_0 dX6_takesDays_25 ?_
      refine Ev.pc 26 rfl ?_
      refine ev_aldL (n := 0) dX6_takesDays_26 (by first | assumption | decide) (by have := xls; omega) ?_
      rw [eN]
      refine ev_invS dX6_takesDays_27 ml_X6_107 mt_X6_goDays hd rfl rfl (rm_ok (by omega)) (Nat.le_of_ble_eq_true rfl) ?_
      refine Ev.pc 30 rfl ?_
      refine ev_iconst_1 dX6_takesDays_30 ?_
      exact ev_ireturn dX6_takesDays_31 ⟨by rfl, by rfl⟩
    · exact absurd q7 (b2i_0.mp h12)
  ·
    rw [← b2i_f q7, tDays, if_neg q7]
    refine Ct.of (by decide +kernel) (Nat.le_of_ble_eq_true rfl) ⟨_, rfl, rfl⟩ ?_
    show Ev E _ RX6 cX6_takesDays 1 _ 0 [some (.ref (E.1 73))] [] _
    refine ev_aload_0 dX6_takesDays_0 ?_
    refine ev_invV (ci := 6) dX6_takesDays_1 ml_X6_260 mt_X6_goBehind (c_X6_goBehindQ (d + 1) h) (by first | assumption | decide) (by decide) rfl rfl rfl (rm_ok (by omega)) (Nat.le_of_ble_eq_true rfl) ?_
    refine Ev.pc 4 rfl ?_
    refine ev_aload_0 dX6_takesDays_4 ?_
    refine ev_iconst_0 dX6_takesDays_5 ?_
    refine ev_iconst_1 dX6_takesDays_6 ?_
    refine Ev.pc 7 rfl ?_
    refine ev_bipush (99) dX6_takesDays_7 rfl ?_
    refine ev_invV (ci := 6) dX6_takesDays_9 ml_X6_263 mt_X6_takes (c_X6_takesQ d (i := 0) (MrOK_gb h) rfl (by decide)) (by first | assumption | decide) (by decide) rfl rfl rfl (rm_ok (by omega)) (Nat.le_of_ble_eq_true rfl) ?_
    refine Ev.pc 12 rfl ?_
    refine ev_if_ne 17 dX6_takesDays_12 rfl (fun h12 => ?_) (fun h12 => ?_)
    · exact absurd (b2i_n0.mp h12) q7
    · refine ev_iconst_0 dX6_takesDays_15 ?_
      exact ev_ireturn dX6_takesDays_16 ⟨by rfl, by rfl⟩
