/-! the reference: the call read -/
def itM (σ : xS) : Int32 × xS := tItem σ (σ.1 73 12).toNatClampNeg (σ.1 83 0).toNatClampNeg (σ.1 83 1).toNatClampNeg (σ.1 83 2).toNatClampNeg
def rdM : Nat → xS → Int32 → Int32 × xS
  | 0, σ, _ => (0, σ)
  | n + 1, σ, i => if σ.1 73 14 = 0 then (i, xrow σ 74 (cqF (σ.1 74) (σ.1 83) 0 0 106)) else if (itM σ).1 = 0 then (-10 - (itM σ).2.1 73 12, (itM σ).2) else if (itM σ).2.1 73 14 = 3 then rdM n (gbS (itM σ).2) (i + 1) else (-10 - (itM σ).2.1 73 12, (itM σ).2)
theorem rdM_s (n : Nat) (σ : xS) (i : Int32) : rdM (n + 1) σ i = if σ.1 73 14 = 0 then (i, xrow σ 74 (cqF (σ.1 74) (σ.1 83) 0 0 106)) else if (itM σ).1 = 0 then (-10 - (itM σ).2.1 73 12, (itM σ).2) else if (itM σ).2.1 73 14 = 3 then rdM n (gbS (itM σ).2) (i + 1) else (-10 - (itM σ).2.1 73 12, (itM σ).2) := rfl
def mRead (σ : xS) (L : Nat) : Int32 × xS :=
  if spM (lookM σ L 0) (tS (σ.1 82) L 0) 4 (ltM 116 111 119 110 0 0) then (if (gbS (lookM σ L 0)).1 73 14 = 3 then rdM 151 (xrow (gbS (gbS (lookM σ L 0))) 83 (mZero ((gbS (gbS (lookM σ L 0))).1 83) 106)) 1 else (-10 - (gbS (lookM σ L 0)).1 73 12, gbS (lookM σ L 0))) else (-10 - (lookM σ L 0).1 73 12, lookM σ L 0)
theorem itM_eq {σ : xS} {T : Nat → Int32} {L a P H B : Nat} (h : MA σ T L a) (hP : σ.1 83 0 = nI P) (hP7 : P ≤ 7) (hH : σ.1 83 1 = nI H) (hH4 : H ≤ 4) (hB : σ.1 83 2 = nI B) (hB3 : B ≤ 3) : tItem σ (tS T L a) P H B = itM σ := by
  have h1 := tS_le T h.2.2.2.1
  have h2 := h.2.2.1
  rw [itM, h.2.2.2.2.1, hP, hH, hB, nI_clamp (by omega), nI_clamp (by omega), nI_clamp (by omega), nI_clamp (by omega)]
theorem IR_itM {σ : xS} {T : Nat → Int32} {L a P H B : Nat} (h : MA σ T L a) (hP : σ.1 83 0 = nI P) (hP7 : P ≤ 7) (hH : σ.1 83 1 = nI H) (hH4 : H ≤ 4) (hB : σ.1 83 2 = nI B) (hB3 : B ≤ 3) : IR σ T L (itM σ) (aItem T L a (σ.1 83) P H B) := by
  rw [← itM_eq h hP hP7 hH hH4 hB hB3]
  exact IR_item h rfl hP hP7 hH hH4 hB hB3
theorem c_X6_read (d : Nat) {E : xE} {σ : xS} {L : Nat} (hL : σ.1 73 11 = nI L) (hL5 : L ≤ 150) : Ct E (d + 7) yX6_read cX6_read 3 (some .int) [.ref (E.1 73)] σ (some (.int (mRead σ L).1)) (mRead σ L).2 := by
  have copy : ∀ (n k : Nat) (τ : xS) (i : Int32), k + n = 106 → Ev E (rm (d + 7)) RX6 cX6_read 3 (fun v t => v = some (.int i) ∧ t = xrow τ 74 (cqF (τ.1 74) (τ.1 83) 0 0 106)) 106 [some (.ref (E.1 73)), some (.int i), some (.int (nI k))] [] (xrow τ 74 (cqF (τ.1 74) (τ.1 83) 0 0 k)) := by
    intro n
    induction n with
    | zero =>
      intro k τ i hk
      refine ev_iload_2 dX6_read_106 ?_
      refine ev_bipush (106) dX6_read_107 rfl ?_
      refine ev_icmp_ge 130 dX6_read_109 rfl (fun h109 => ?_) (fun h109 => ?_)
      · refine ev_iload_1 dX6_read_130 ?_
        exact ev_ireturn dX6_read_131 ⟨by rfl, by (rw [show k = 106 by omega])⟩
      · exact absurd (show nI 106 ≤ nI k from nI_le (by omega) (by omega)) h109
    | succ n ih =>
      intro k τ i hk
      have hq := cqF_s (τ.1 74) (τ.1 83) 0 0 k
      simp only [Nat.zero_add] at hq
      refine ev_iload_2 dX6_read_106 ?_
      refine ev_bipush (106) dX6_read_107 rfl ?_
      refine ev_icmp_ge 130 dX6_read_109 rfl (fun h109 => ?_) (fun h109 => ?_)
      · exact absurd h109 (show ¬ nI 106 ≤ nI k from nI_ge (by omega) (by omega))
      · refine ev_aload_0 dX6_read_112 ?_
        refine ev_get dX6_read_113 fk_X6_7 (by first | assumption | decide) (by decide) rfl ?_
        refine ev_iload_2 dX6_read_116 ?_
        refine ev_aload_0 dX6_read_117 ?_
        refine ev_get dX6_read_118 fk_X6_42 (by first | assumption | decide) (by decide) rfl ?_
        refine Ev.pc 121 rfl ?_
        refine ev_iload_2 dX6_read_121 ?_
        refine ev_aldV dX6_read_122 (by first | assumption | decide) (by have := xls; omega) ?_
        refine ev_astV dX6_read_123 (by first | assumption | decide) (by have := xls; omega) ?_
        refine ev_iinc_2 (1) dX6_read_124 rfl rfl ?_
        refine ev_goto 106 dX6_read_127 rfl ?_
        rw [xrow_ne _ _ (show (83 : Nat) ≠ 74 by decide), xrow_at, xrow_row, hq, nI_1]
        exact ih (k + 1) τ i (by omega)
  have loop : ∀ (n a : Nat) (τ : xS) (i : Int32) (R : Int32 × xS) (x2 : Option Value), MA τ (σ.1 82) L a → CnOK (τ.1 83) → L - a < n → R = rdM n τ i → Ev E (rm (d + 7)) RX6 cX6_read 3 (fun v t => v = some (.int R.1) ∧ t = R.2) 64 [some (.ref (E.1 73)), some (.int i), x2] [] τ := by
    intro n
    induction n with
    | zero =>
      intro a τ i R x2 h1 h2 h3 hR
      exact absurd h3 (by omega)
    | succ n ih =>
      intro a τ i R x2 h1 h2 h3 hR
      rw [rdM_s] at hR
      obtain ⟨P, H, B, hP, hP7, hH, hH4, hB, hB3⟩ := id h2
      have hq1 := tN_ge (σ.1 82) L a
      have hq2 := tN_le (σ.1 82) h1.2.2.2.1
      have hci := c_X6_takesItem d (E := E) h1.2.1 hL5 h1.2.2.2.2.1 h1.2.2.2.2.2.1 (by omega) hP hP7 hH hH4 hB hB3
      rw [itM_eq h1 hP hP7 hH hH4 hB hB3] at hci
      have hi := IR_itM h1 hP hP7 hH hH4 hB hB3
      have hcn := aItem_cn (T := σ.1 82) (L := L) (a := a) hP hP7 hH hH4 hB hB3
      have hat := aItem_at (σ.1 82) (τ.1 83) P H B h1.2.2.2.1
      generalize aItem (σ.1 82) L a (τ.1 83) P H B = o at hi hcn hat
      obtain ⟨r, hr⟩ : ∃ r, r = itM τ := ⟨_, rfl⟩
      rw [← hr] at hR hci hi
      have hi2 := hi.2.1
      refine ev_aload_0 dX6_read_64 ?_
      refine ev_get dX6_read_65 fk_X6_244 (by first | assumption | decide) (by decide) rfl ?_
      refine ev_if_eq 104 dX6_read_68 rfl (fun h68 => ?_) (fun h68 => ?_)
      · rw [if_pos h68] at hR
        have h := copy 106 0 τ i (by omega)
        rw [cqF_0, xrow_id] at h
        refine ev_iconst_0 dX6_read_104 ?_
        refine ev_istore_2 dX6_read_105 rfl ?_
        rw [hR]
        exact h
      · rw [if_neg h68] at hR
        refine ev_aload_0 dX6_read_71 ?_
        refine ev_invV (ci := 6) dX6_read_72 ml_X6_292 mt_X6_takesItem hci (by first | assumption | decide) (by decide) rfl rfl rfl (rm_ok (by omega)) (Nat.le_of_ble_eq_true rfl) ?_
        refine Ev.pc 75 rfl ?_
        refine ev_if_eq 86 dX6_read_75 rfl (fun h75 => ?_) (fun h75 => ?_)
        · rw [if_pos h75] at hR
          refine ev_bipush (-10) dX6_read_86 rfl ?_
          refine ev_aload_0 dX6_read_88 ?_
          refine ev_get dX6_read_89 fk_X6_238 (by first | assumption | decide) (by decide) rfl ?_
          refine ev_isub dX6_read_92 ?_
          exact ev_ireturn dX6_read_93 ⟨by rw [hR], by rw [hR]⟩
        · rw [if_neg h75] at hR
          refine ev_aload_0 dX6_read_78 ?_
          refine ev_get dX6_read_79 fk_X6_244 (by first | assumption | decide) (by decide) rfl ?_
          refine ev_iconst_3 dX6_read_82 ?_
          refine ev_icmp_eq 94 dX6_read_83 rfl (fun h83 => ?_) (fun h83 => ?_)
          · rw [if_pos h83] at hR
            refine ev_aload_0 dX6_read_94 ?_
            refine ev_invV (ci := 6) dX6_read_95 ml_X6_260 mt_X6_goBehind (c_X6_goBehindQ d hi2.ok) (by first | assumption | decide) (by decide) rfl rfl rfl (rm_ok (by omega)) (Nat.le_of_ble_eq_true rfl) ?_
            refine Ev.pc 98 rfl ?_
            refine ev_iinc_1 (1) dX6_read_98 rfl rfl ?_
            refine ev_goto 64 dX6_read_101 rfl ?_
            have hs := tN_stop (hi2.2.2.2.2.2.2.1.symm.trans h83)
            have hs2 := tS_ge (σ.1 82) L o.2.1
            exact ih _ _ _ _ _ hi2.gb (by rw [gbS_o _ (by decide), hi.2.2.1]; exact hcn) (by omega) hR
          · rw [if_neg h83] at hR
            refine ev_bipush (-10) dX6_read_86 rfl ?_
            refine ev_aload_0 dX6_read_88 ?_
            refine ev_get dX6_read_89 fk_X6_238 (by first | assumption | decide) (by decide) rfl ?_
            refine ev_isub dX6_read_92 ?_
            exact ev_ireturn dX6_read_93 ⟨by rw [hR], by rw [hR]⟩
  obtain ⟨R, hR⟩ : ∃ R, R = mRead σ L := ⟨_, rfl⟩
  rw [← hR]
  rw [mRead] at hR
  have hc := c_X6_lookAt d (E := E) hL hL5 (Nat.zero_le L)
  have h0 := MA_look (σ := σ) rfl hL hL5 (Nat.zero_le L)
  obtain ⟨s0, hs0⟩ : ∃ τ, τ = lookM σ L 0 := ⟨_, rfl⟩
  rw [← hs0] at hR hc h0
  have hq1 := tN_ge (σ.1 82) L 0
  have hq2 := tN_le (σ.1 82) (Nat.zero_le L)
  have h1 := h0.gb
  have h2 := h1.gb
  have hp := c_X6_spells d (E := E) (N := 4) (a := 116) (b := 111) (c := 119) (e := 110) (f := 0) (l := 0) (n := 4) rfl (by decide) hL5 h0.2.2.2.2.1 h0.2.2.2.2.2.1 (by omega)
  have hg1 := c_X6_goBehindQ d (E := E) h0.ok
  have hg2 := c_X6_goBehindQ d (E := E) h1.ok
  obtain ⟨s1, hs1⟩ : ∃ τ, τ = gbS s0 := ⟨_, rfl⟩
  rw [← hs1] at hR h1 h2 hg1 hg2
  obtain ⟨s2, hs2⟩ : ∃ τ, τ = gbS s1 := ⟨_, rfl⟩
  rw [← hs2] at hR h2 hg2
  refine Ct.of (by decide +kernel) (Nat.le_of_ble_eq_true rfl) ⟨_, rfl, rfl⟩ ?_
  show Ev E _ RX6 cX6_read 3 _ 0 [some (.ref (E.1 73)), none, none] [] _
  refine ev_aload_0 dX6_read_0 ?_
  refine ev_iconst_0 dX6_read_1 ?_
  refine ev_invV (ci := 6) dX6_read_2 ml_X6_256 mt_X6_lookAt hc (by first | assumption | decide) (by decide) rfl rfl rfl (rm_ok (by omega)) (Nat.le_of_ble_eq_true rfl) ?_
  refine Ev.pc 5 rfl ?_
  refine ev_aload_0 dX6_read_5 ?_
  refine ev_iconst_4 dX6_read_6 ?_
  refine Ev.pc 7 rfl ?_
  refine ev_bipush (116) dX6_read_7 rfl ?_
  refine ev_bipush (111) dX6_read_9 rfl ?_
  refine ev_bipush (119) dX6_read_11 rfl ?_
  refine ev_bipush (110) dX6_read_13 rfl ?_
  refine ev_iconst_0 dX6_read_15 ?_
  refine Ev.pc 16 rfl ?_
  refine ev_iconst_0 dX6_read_16 ?_
  refine ev_invV (ci := 6) dX6_read_17 ml_X6_273 mt_X6_spells hp (by first | assumption | decide) (by decide) rfl rfl rfl (rm_ok (by omega)) (Nat.le_of_ble_eq_true rfl) ?_
  refine Ev.pc 20 rfl ?_
  refine ev_if_ne 31 dX6_read_20 rfl (fun h20 => ?_) (fun h20 => ?_)
  · have g := b2i_n0.mp h20
    rw [if_pos g] at hR
    refine ev_aload_0 dX6_read_31 ?_
    refine ev_invV (ci := 6) dX6_read_32 ml_X6_260 mt_X6_goBehind hg1 (by first | assumption | decide) (by decide) rfl rfl rfl (rm_ok (by omega)) (Nat.le_of_ble_eq_true rfl) ?_
    refine Ev.pc 35 rfl ?_
    refine ev_aload_0 dX6_read_35 ?_
    refine ev_get dX6_read_36 fk_X6_244 (by first | assumption | decide) (by decide) rfl ?_
    refine ev_iconst_3 dX6_read_39 ?_
    refine Ev.pc 40 rfl ?_
    refine ev_icmp_eq 51 dX6_read_40 rfl (fun h40 => ?_) (fun h40 => ?_)
    · rw [if_pos h40] at hR
      refine ev_aload_0 dX6_read_51 ?_
      refine ev_invV (ci := 6) dX6_read_52 ml_X6_260 mt_X6_goBehind hg2 (by first | assumption | decide) (by decide) rfl rfl rfl (rm_ok (by omega)) (Nat.le_of_ble_eq_true rfl) ?_
      refine Ev.pc 55 rfl ?_
      refine ev_aload_0 dX6_read_55 ?_
      refine ev_get dX6_read_56 fk_X6_42 (by first | assumption | decide) (by decide) rfl ?_
      refine ev_invS dX6_read_59 ml_X6_48 mt_X6_begin (c_X6_begin d (r := 83) (by decide) (by decide)) rfl rfl (rm_ok (by omega)) (Nat.le_of_ble_eq_true rfl) ?_
      refine Ev.pc 62 rfl ?_
      refine ev_iconst_1 dX6_read_62 ?_
      refine ev_istore_1 dX6_read_63 rfl ?_
      exact loop 151 _ _ _ _ _ (h2.o (xrow_ne _ _ (by decide)) (xrow_ne _ _ (by decide))) ⟨0, 0, 0, by rw [xrow_at]; rfl, by decide, by rw [xrow_at]; rfl, by decide, by rw [xrow_at]; rfl, by decide⟩ (by omega) hR
    · rw [if_neg h40] at hR
      refine ev_bipush (-10) dX6_read_43 rfl ?_
      refine ev_aload_0 dX6_read_45 ?_
      refine ev_get dX6_read_46 fk_X6_238 (by first | assumption | decide) (by decide) rfl ?_
      refine ev_isub dX6_read_49 ?_
      exact ev_ireturn dX6_read_50 ⟨by rw [hR], by rw [hR]⟩
  · have g := b2i_0.mp h20
    rw [if_neg g] at hR
    refine ev_bipush (-10) dX6_read_23 rfl ?_
    refine ev_aload_0 dX6_read_25 ?_
    refine ev_get dX6_read_26 fk_X6_238 (by first | assumption | decide) (by decide) rfl ?_
    refine ev_isub dX6_read_29 ?_
    exact ev_ireturn dX6_read_30 ⟨by rw [hR], by rw [hR]⟩
