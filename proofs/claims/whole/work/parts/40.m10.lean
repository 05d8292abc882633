/-! the reference: fit -/
/-- the number that a cell holds -/
def sjM (f m : Nat → Int32) (k : Nat) : Int32 := if m k = -1 then 0 else joyF f (m k).toNatClampNeg k
/-- before code c: the most, the row of the best -/
def ftS (f g8 g9 : Nat → Int32) (P H : Nat) : Nat → Int32 × (Nat → Int32)
  | 0 => (-1, g9)
  | c + 1 => if okM f P c H = true then (if (ftS f g8 g9 P H c).1 < smI (sjM f (rwM g8 (dgt H) H (c + 1))) H then (smI (sjM f (rwM g8 (dgt H) H (c + 1))) H, tmF (ftS f g8 g9 P H c).2 (rwM g8 (dgt H) H (c + 1)) 4) else ftS f g8 g9 P H c) else ftS f g8 g9 P H c
def mFit (σ : xS) (P H : Nat) (h : Int32) : Int32 × xS :=
  (if h = -1 then (ftS (σ.1 74) (σ.1 78) (σ.1 79) P H (8 ^ H)).1 else (ftS (σ.1 74) (σ.1 78) (σ.1 79) P H (8 ^ H)).2 h.toNatClampNeg, xrow (xrow σ 78 (rwM (σ.1 78) (dgt H) H (8 ^ H))) 79 (ftS (σ.1 74) (σ.1 78) (σ.1 79) P H (8 ^ H)).2)
theorem p8 {H : Nat} (h : H ≤ 4) : 8 ^ H ≤ 4096 := Nat.le_trans (Nat.pow_le_pow_right (by omega) h) (by decide)
theorem xr2_74 (σ : xS) (a b : Nat → Int32) : (xrow (xrow σ 78 a) 79 b).1 74 = σ.1 74 := by rw [xrow_ne _ _ (by decide), xrow_ne _ _ (by decide)]
theorem xr2_78 (σ : xS) (a b : Nat → Int32) : (xrow (xrow σ 78 a) 79 b).1 78 = a := by rw [xrow_ne _ _ (by decide), xrow_at]
theorem xr2_79 (σ : xS) (a b : Nat → Int32) : (xrow (xrow σ 78 a) 79 b).1 79 = b := by rw [xrow_at]
theorem xr2_s78 (σ : xS) (a b c : Nat → Int32) : xrow (xrow (xrow σ 78 a) 79 b) 78 c = xrow (xrow σ 78 c) 79 b := by
  refine xS_ext (fun i j => ?_) rfl
  by_cases h : i = 79
  · subst h; simp [xrow]
  · by_cases h2 : i = 78
    · subst h2; simp [xrow]
    · simp [xrow, h, h2]
theorem xr2_s79 (σ : xS) (a b c : Nat → Int32) : xrow (xrow (xrow σ 78 a) 79 b) 79 c = xrow (xrow σ 78 a) 79 c := xrow_row _ _ _ _
theorem rwM_dg (g : Nat → Int32) (H c k : Nat) (hk : k < H) : rwM g (dgt H) H (c + 1) k = dgt H c k := by rw [rwM, tmF, if_pos hk]
theorem sjM_e {f m : Nat → Int32} {k e : Nat} (h : m k = nI e) (he : e < 1000) : sjM f m k = joyF f e k := by rw [sjM, if_neg (by rw [h]; exact nI_m1 he), h, nI_clamp (by omega)]
theorem sjM_n {f m : Nat → Int32} {k : Nat} (h : m k = -1) : sjM f m k = 0 := by rw [sjM, if_pos h]
theorem ftS_no {f g8 g9 : Nat → Int32} {P H c : Nat} (h : ¬ okM f P c H = true) : ftS f g8 g9 P H (c + 1) = ftS f g8 g9 P H c := by rw [ftS, if_neg h]
theorem ftS_lo {f g8 g9 : Nat → Int32} {P H c : Nat} (h : okM f P c H = true) (h2 : ¬ (ftS f g8 g9 P H c).1 < smI (sjM f (rwM g8 (dgt H) H (c + 1))) H) : ftS f g8 g9 P H (c + 1) = ftS f g8 g9 P H c := by rw [ftS, if_pos h, if_neg h2]
theorem ftS_hi {f g8 g9 : Nat → Int32} {P H c : Nat} (h : okM f P c H = true) (h2 : (ftS f g8 g9 P H c).1 < smI (sjM f (rwM g8 (dgt H) H (c + 1))) H) : ftS f g8 g9 P H (c + 1) = (smI (sjM f (rwM g8 (dgt H) H (c + 1))) H, tmF (ftS f g8 g9 P H c).2 (rwM g8 (dgt H) H (c + 1)) 4) := by rw [ftS, if_pos h, if_pos h2]
theorem c_X6_fit_bad (d : Nat) {E : xE} {σ : xS} {h : Int32} (q7 : ¬ (h = -1 ∨ hasIn (σ.1 74 1) h)) : Ct E (d + 3) yX6_fit cX6_fit 6 (some .int) [.ref (E.1 73), .int h] σ (some (.int (-10))) (mBad σ) := by
  refine Ct.of (by decide +kernel) (Nat.le_of_ble_eq_true rfl) ⟨_, rfl, rfl⟩ ?_
  show Ev E _ RX6 cX6_fit 6 _ 0 [some (.ref (E.1 73)), some (.int h), none, none, none, none] [] _
  refine ev_iload_1 dX6_fit_0 ?_
  refine ev_iconst_m1 dX6_fit_1 ?_
  refine ev_icmp_eq 20 dX6_fit_2 rfl (fun h2 => ?_) (fun h2 => ?_)
  · first | exact absurd (Or.inl h2) q7 | exact absurd (Or.inr (b2i_n0.mp h10)) q7
  · refine ev_aload_0 dX6_fit_5 ?_
    refine ev_iload_1 dX6_fit_6 ?_
    refine ev_invV (ci := 6) dX6_fit_7 ml_X6_134 mt_X6_isHearer (c_X6_isHearer d) (by first | assumption | decide) (by decide) rfl rfl rfl (rm_ok (by omega)) (Nat.le_of_ble_eq_true rfl) ?_
    refine Ev.pc 10 rfl ?_
    refine ev_if_ne 20 dX6_fit_10 rfl (fun h10 => ?_) (fun h10 => ?_)
    · first | exact absurd (Or.inl h2) q7 | exact absurd (Or.inr (b2i_n0.mp h10)) q7
    · refine ev_aload_0 dX6_fit_13 ?_
      refine ev_bipush (-10) dX6_fit_14 rfl ?_
      refine ev_invV (ci := 6) dX6_fit_16 ml_X6_71 mt_X6_bad (c_X6_bad d) (by first | assumption | decide) (by decide) rfl rfl rfl (rm_ok (by omega)) (Nat.le_of_ble_eq_true rfl) ?_
      refine Ev.pc 19 rfl ?_
      exact ev_ireturn dX6_fit_19 ⟨by rfl, by rfl⟩
theorem c_X6_fit (d : Nat) {E : xE} {σ : xS} {P H : Nat} {h : Int32} (hP : σ.1 74 0 = nI P) (hP7 : P ≤ 7) (hH : σ.1 74 1 = nI H) (hH4 : H ≤ 4) (h1 : h = -1 ∨ ∃ k, k < H ∧ h = nI k) : Ct E (d + 3) yX6_fit cX6_fit 6 (some .int) [.ref (E.1 73), .int h] σ (some (.int (mFit σ P H h).1)) (mFit σ P H h).2 := by
  rw [mFit]
  obtain ⟨g8, hg8⟩ : ∃ x, x = σ.1 78 := ⟨_, rfl⟩
  obtain ⟨g9, hg9⟩ : ∃ x, x = σ.1 79 := ⟨_, rfl⟩
  obtain ⟨f, hf⟩ : ∃ x, x = σ.1 74 := ⟨_, rfl⟩
  have h8 := p8 hH4
  obtain ⟨C, hC⟩ : ∃ x, x = 8 ^ H := ⟨_, rfl⟩
  rw [← hg8, ← hg9, ← hf, ← hC]
  rw [← hC] at h8
  dsimp only
  obtain ⟨F, hF⟩ : ∃ F : Option Value → xS → Prop, F = fun v t => v = some (.int (if h = -1 then (ftS f g8 g9 P H C).1 else (ftS f g8 g9 P H C).2 h.toNatClampNeg)) ∧ t = xrow (xrow σ 78 (rwM g8 (dgt H) H C)) 79 (ftS f g8 g9 P H C).2 := ⟨_, rfl⟩
  have eP : ∀ a b, (xrow (xrow σ 78 a) 79 b).1 74 0 = nI P := fun a b => by rw [xr2_74, hP]
  have eH : ∀ a b, (xrow (xrow σ 78 a) 79 b).1 74 1 = nI H := fun a b => by rw [xr2_74, hH]
  have sum : ∀ (c : Nat) (most : Int32) (m b : Nat → Int32), (∀ k, k < H → m k = -1 ∨ ∃ e, e < 7 ∧ m k = nI e) → (∀ z5, Ev E (rm (d + 3)) RX6 cX6_fit 6 F 99 [some (.ref (E.1 73)), some (.int h), some (.int most), some (.int (nI c)), some (.int (smI (sjM f m) H)), z5] [] (xrow (xrow σ 78 m) 79 b)) →
      ∀ (n k : Nat), k + n = H → Ev E (rm (d + 3)) RX6 cX6_fit 6 F 46 [some (.ref (E.1 73)), some (.int h), some (.int most), some (.int (nI c)), some (.int (smI (sjM f m) k)), some (.int (nI k))] [] (xrow (xrow σ 78 m) 79 b) := by
    intro c most m b hm K n
    induction n with
    | zero =>
      intro k hk
      refine ev_iload_5 dX6_fit_46 ?_
      refine ev_aload_0 dX6_fit_48 ?_
      refine ev_get dX6_fit_49 fk_X6_7 (by first | assumption | decide) (by decide) rfl ?_
      refine ev_iconst_1 dX6_fit_52 ?_
      refine ev_aldL (n := 1) dX6_fit_53 (by first | assumption | decide) (by have := xls; omega) ?_
      refine Ev.pc 54 rfl ?_
      refine ev_icmp_ge 99 dX6_fit_54 rfl (fun h54 => ?_) (fun h54 => ?_)
      · rw [show k = H by omega]
        exact K _
      · exact absurd (show (xrow (xrow σ 78 m) 79 b).1 74 1 ≤ nI k by rw [eH]; exact nI_le (by omega) (by omega)) h54
    | succ n ih =>
      intro k hk
      rcases hm k (by omega) with q | ⟨e, he, q⟩
      ·
        refine ev_iload_5 dX6_fit_46 ?_
        refine ev_aload_0 dX6_fit_48 ?_
        refine ev_get dX6_fit_49 fk_X6_7 (by first | assumption | decide) (by decide) rfl ?_
        refine ev_iconst_1 dX6_fit_52 ?_
        refine ev_aldL (n := 1) dX6_fit_53 (by first | assumption | decide) (by have := xls; omega) ?_
        refine Ev.pc 54 rfl ?_
        refine ev_icmp_ge 99 dX6_fit_54 rfl (fun h54 => ?_) (fun h54 => ?_)
        · exact absurd h54 (by rw [eH]; exact nI_ge (by omega) (by omega))
        · refine ev_iload_4 dX6_fit_57 ?_
          refine ev_aload_0 dX6_fit_59 ?_
          refine ev_get dX6_fit_60 fk_X6_27 (by first | assumption | decide) (by decide) rfl ?_
          refine ev_iload_5 dX6_fit_63 ?_
          refine ev_aldV dX6_fit_65 (by first | assumption | decide) (by have := xls; omega) ?_
          refine Ev.pc 66 rfl ?_
          rw [xr2_78, q]
          refine ev_iconst_m1 dX6_fit_66 ?_
          refine ev_icmp_ne 74 dX6_fit_67 rfl (fun h67 => ?_) (fun h67 => ?_)
          · exact absurd rfl h67
          · refine ev_iconst_0 dX6_fit_70 ?_
            refine ev_goto 90 dX6_fit_71 rfl ?_
            refine ev_iadd dX6_fit_90 ?_
            refine ev_istore_4 dX6_fit_91 rfl ?_
            refine ev_iinc_5 (1) dX6_fit_93 rfl rfl ?_
            refine ev_goto 46 dX6_fit_96 rfl ?_
            rw [nI_1, ← sjM_n (f := f) q]
            exact ih (k + 1) (by omega)
      ·
        refine ev_iload_5 dX6_fit_46 ?_
        refine ev_aload_0 dX6_fit_48 ?_
        refine ev_get dX6_fit_49 fk_X6_7 (by first | assumption | decide) (by decide) rfl ?_
        refine ev_iconst_1 dX6_fit_52 ?_
        refine ev_aldL (n := 1) dX6_fit_53 (by first | assumption | decide) (by have := xls; omega) ?_
        refine Ev.pc 54 rfl ?_
        refine ev_icmp_ge 99 dX6_fit_54 rfl (fun h54 => ?_) (fun h54 => ?_)
        · exact absurd h54 (by rw [eH]; exact nI_ge (by omega) (by omega))
        · refine ev_iload_4 dX6_fit_57 ?_
          refine ev_aload_0 dX6_fit_59 ?_
          refine ev_get dX6_fit_60 fk_X6_27 (by first | assumption | decide) (by decide) rfl ?_
          refine ev_iload_5 dX6_fit_63 ?_
          refine ev_aldV dX6_fit_65 (by first | assumption | decide) (by have := xls; omega) ?_
          refine Ev.pc 66 rfl ?_
          rw [xr2_78, q]
          refine ev_iconst_m1 dX6_fit_66 ?_
          refine ev_icmp_ne 74 dX6_fit_67 rfl (fun h67 => ?_) (fun h67 => ?_)
          · refine ev_aload_0 dX6_fit_74 ?_
            refine ev_get dX6_fit_75 fk_X6_7 (by first | assumption | decide) (by decide) rfl ?_
            refine ev_aload_0 dX6_fit_78 ?_
            refine ev_get dX6_fit_79 fk_X6_27 (by first | assumption | decide) (by decide) rfl ?_
            refine ev_iload_5 dX6_fit_82 ?_
            refine Ev.pc 84 rfl ?_
            refine ev_aldV dX6_fit_84 (by first | assumption | decide) (by have := xls; omega) ?_
            rw [xr2_78, q]
            refine ev_iload_5 dX6_fit_85 ?_
            refine ev_invS dX6_fit_87 ml_X6_114 mt_X6_joyOf (c_X6_joyOf d (r := 74) (by decide) (by have := xls; omega) he (by omega)) rfl rfl (rm_ok (by omega)) (Nat.le_of_ble_eq_true rfl) ?_
            refine Ev.pc 90 rfl ?_
            refine ev_iadd dX6_fit_90 ?_
            refine ev_istore_4 dX6_fit_91 rfl ?_
            refine Ev.pc 93 rfl ?_
            refine ev_iinc_5 (1) dX6_fit_93 rfl rfl ?_
            refine ev_goto 46 dX6_fit_96 rfl ?_
            rw [nI_1, xr2_74, ← hf, ← sjM_e q (by omega)]
            exact ih (k + 1) (by omega)
          · exact absurd h67 (nI_m1 (by omega))
  have copy : ∀ (c : Nat) (most s : Int32) (m b : Nat → Int32), (∀ z5, Ev E (rm (d + 3)) RX6 cX6_fit 6 F 137 [some (.ref (E.1 73)), some (.int h), some (.int most), some (.int (nI c)), some (.int s), z5] [] (xrow (xrow σ 78 m) 79 (tmF b m 4))) →
      ∀ (n k : Nat), k + n = 4 → Ev E (rm (d + 3)) RX6 cX6_fit 6 F 111 [some (.ref (E.1 73)), some (.int h), some (.int most), some (.int (nI c)), some (.int s), some (.int (nI k))] [] (xrow (xrow σ 78 m) 79 (tmF b m k)) := by
    intro c most s m b K n
    induction n with
    | zero =>
      intro k hk
      refine ev_iload_5 dX6_fit_111 ?_
      refine ev_iconst_4 dX6_fit_113 ?_
      refine ev_icmp_ge 137 dX6_fit_114 rfl (fun h114 => ?_) (fun h114 => ?_)
      · rw [show k = 4 by omega]
        exact K _
      · exact absurd (show nI 4 ≤ nI k from nI_le (by omega) (by omega)) h114
    | succ n ih =>
      intro k hk
      refine ev_iload_5 dX6_fit_111 ?_
      refine ev_iconst_4 dX6_fit_113 ?_
      refine ev_icmp_ge 137 dX6_fit_114 rfl (fun h114 => ?_) (fun h114 => ?_)
      · exact absurd h114 (show ¬ nI 4 ≤ nI k from nI_ge (by omega) (by omega))
      · refine ev_aload_0 dX6_fit_117 ?_
        refine ev_get dX6_fit_118 fk_X6_30 (by first | assumption | decide) (by decide) rfl ?_
        refine ev_iload_5 dX6_fit_121 ?_
        refine ev_aload_0 dX6_fit_123 ?_
        refine ev_get dX6_fit_124 fk_X6_27 (by first | assumption | decide) (by decide) rfl ?_
        refine Ev.pc 127 rfl ?_
        refine ev_iload_5 dX6_fit_127 ?_
        refine ev_aldV dX6_fit_129 (by first | assumption | decide) (by have := xls; omega) ?_
        rw [xr2_78]
        refine ev_astV dX6_fit_130 (by first | assumption | decide) (by have := xls; omega) ?_
        refine ev_iinc_5 (1) dX6_fit_131 rfl rfl ?_
        refine ev_goto 111 dX6_fit_134 rfl ?_
        rw [xr2_79, xr2_s79, nI_1, tmF_s]
        exact ih (k + 1) (by omega)
  have loop : ∀ (n c : Nat) (z4 z5 : Option Value), c + n = C → Ev E (rm (d + 3)) RX6 cX6_fit 6 F 24 [some (.ref (E.1 73)), some (.int h), some (.int (ftS f g8 g9 P H c).1), some (.int (nI c)), z4, z5] [] (xrow (xrow σ 78 (rwM g8 (dgt H) H c)) 79 (ftS f g8 g9 P H c).2) := by
    intro n
    induction n with
    | zero =>
      intro c z4 z5 hc
      obtain rfl : c = C := by omega
      rw [hF]
      rcases h1 with rfl | ⟨k, hk, rfl⟩
      ·
        refine ev_iload_3 dX6_fit_24 ?_
        refine ev_aload_0 dX6_fit_25 ?_
        refine ev_invV (ci := 6) dX6_fit_26 ml_X6_166 mt_X6_codes (c_X6_codes (d + 1) (eH _ _) hH4) (by first | assumption | decide) (by decide) rfl rfl rfl (rm_ok (by omega)) (Nat.le_of_ble_eq_true rfl) ?_
        rw [← hC]
        refine Ev.pc 29 rfl ?_
        refine ev_icmp_ge 143 dX6_fit_29 rfl (fun h29 => ?_) (fun h29 => ?_)
        · refine ev_iload_1 dX6_fit_143 ?_
          refine ev_iconst_m1 dX6_fit_144 ?_
          refine ev_icmp_ne 152 dX6_fit_145 rfl (fun h145 => ?_) (fun h145 => ?_)
          · exact absurd rfl h145
          · refine ev_iload_2 dX6_fit_148 ?_
            refine ev_goto 158 dX6_fit_149 rfl ?_
            exact ev_ireturn dX6_fit_158 ⟨by rfl, by rfl⟩
        · exact absurd (nI_le (by omega) (by omega)) h29
      ·
        refine ev_iload_3 dX6_fit_24 ?_
        refine ev_aload_0 dX6_fit_25 ?_
        refine ev_invV (ci := 6) dX6_fit_26 ml_X6_166 mt_X6_codes (c_X6_codes (d + 1) (eH _ _) hH4) (by first | assumption | decide) (by decide) rfl rfl rfl (rm_ok (by omega)) (Nat.le_of_ble_eq_true rfl) ?_
        rw [← hC]
        refine Ev.pc 29 rfl ?_
        refine ev_icmp_ge 143 dX6_fit_29 rfl (fun h29 => ?_) (fun h29 => ?_)
        · refine ev_iload_1 dX6_fit_143 ?_
          refine ev_iconst_m1 dX6_fit_144 ?_
          refine ev_icmp_ne 152 dX6_fit_145 rfl (fun h145 => ?_) (fun h145 => ?_)
          · refine ev_aload_0 dX6_fit_152 ?_
            refine ev_get dX6_fit_153 fk_X6_30 (by first | assumption | decide) (by decide) rfl ?_
            refine ev_iload_1 dX6_fit_156 ?_
            refine ev_aldV dX6_fit_157 (by first | assumption | decide) (by have := xls; omega) ?_
            exact ev_ireturn dX6_fit_158 ⟨by (rw [if_neg (nI_m1 (by omega)), nI_clamp (by omega), xr2_79]), by rfl⟩
          · exact absurd h145 (nI_m1 (by omega))
        · exact absurd (nI_le (by omega) (by omega)) h29
    | succ n ih =>
      intro c z4 z5 hc
      have eM := fun b => c_X6_means d (E := E) (σ := xrow (xrow σ 78 (rwM g8 (dgt H) H c)) 79 b) (c := c) (eP _ _) hP7 (eH _ _) hH4 (by omega)
      simp only [xr2_74, xr2_78, xr2_s78, rwM_s, ← hf] at eM
      by_cases q7 : okM f P c H = true
      ·
        refine ev_iload_3 dX6_fit_24 ?_
        refine ev_aload_0 dX6_fit_25 ?_
        refine ev_invV (ci := 6) dX6_fit_26 ml_X6_166 mt_X6_codes (c_X6_codes (d + 1) (eH _ _) hH4) (by first | assumption | decide) (by decide) rfl rfl rfl (rm_ok (by omega)) (Nat.le_of_ble_eq_true rfl) ?_
        rw [← hC]
        refine Ev.pc 29 rfl ?_
        refine ev_icmp_ge 143 dX6_fit_29 rfl (fun h29 => ?_) (fun h29 => ?_)
        · exact absurd h29 (nI_ge (by omega) (by omega))
        · refine ev_aload_0 dX6_fit_32 ?_
          refine ev_iload_3 dX6_fit_33 ?_
          refine ev_invV (ci := 6) dX6_fit_34 ml_X6_169 mt_X6_means (eM _) (by first | assumption | decide) (by decide) rfl rfl rfl (rm_ok (by omega)) (Nat.le_of_ble_eq_true rfl) ?_
          refine Ev.pc 37 rfl ?_
          refine ev_if_eq 137 dX6_fit_37 rfl (fun h37 => ?_) (fun h37 => ?_)
          · exact absurd q7 (b2i_0.mp h37)
          · refine ev_iconst_0 dX6_fit_40 ?_
            refine ev_istore_4 dX6_fit_41 rfl ?_
            refine ev_iconst_0 dX6_fit_43 ?_
            refine ev_istore_5 dX6_fit_44 rfl ?_
            refine sum c _ _ _ (fun k hk => by rw [rwM_dg _ _ _ _ hk]; exact dgt_or _ _ _) (fun z5 => ?_) H 0 (by omega)
            refine ev_iload_4 dX6_fit_99 ?_
            refine ev_iload_2 dX6_fit_101 ?_
            refine ev_icmp_le 137 dX6_fit_102 rfl (fun h102 => ?_) (fun h102 => ?_)
            · refine ev_iinc_3 (1) dX6_fit_137 rfl rfl ?_
              refine ev_goto 24 dX6_fit_140 rfl ?_
              rw [nI_1]
              first | (have hq := ih (c + 1) (some (.int (smI (sjM f (rwM g8 (dgt H) H (c + 1))) H))) z5 (by omega); rw [ftS_lo q7 (Int32.not_lt.mpr h102)] at hq; exact hq) | (have hq := ih (c + 1) (some (.int (smI (sjM f (rwM g8 (dgt H) H (c + 1))) H))) z5 (by omega); rw [ftS_hi q7 (Int32.not_le.mp h102)] at hq; exact hq)
            · refine ev_iload_4 dX6_fit_105 ?_
              refine ev_istore_2 dX6_fit_107 rfl ?_
              refine ev_iconst_0 dX6_fit_108 ?_
              refine ev_istore_5 dX6_fit_109 rfl ?_
              have hc := copy c (smI (sjM f (rwM g8 (dgt H) H (c + 1))) H) (smI (sjM f (rwM g8 (dgt H) H (c + 1))) H) (rwM g8 (dgt H) H (c + 1)) (ftS f g8 g9 P H c).2 ?_ 4 0 (by omega)
              · rw [tmF_0] at hc
                exact hc
              · intro z5
                refine ev_iinc_3 (1) dX6_fit_137 rfl rfl ?_
                refine ev_goto 24 dX6_fit_140 rfl ?_
                rw [nI_1]
                first | (have hq := ih (c + 1) (some (.int (smI (sjM f (rwM g8 (dgt H) H (c + 1))) H))) z5 (by omega); rw [ftS_lo q7 (Int32.not_lt.mpr h102)] at hq; exact hq) | (have hq := ih (c + 1) (some (.int (smI (sjM f (rwM g8 (dgt H) H (c + 1))) H))) z5 (by omega); rw [ftS_hi q7 (Int32.not_le.mp h102)] at hq; exact hq)
      ·
        refine ev_iload_3 dX6_fit_24 ?_
        refine ev_aload_0 dX6_fit_25 ?_
        refine ev_invV (ci := 6) dX6_fit_26 ml_X6_166 mt_X6_codes (c_X6_codes (d + 1) (eH _ _) hH4) (by first | assumption | decide) (by decide) rfl rfl rfl (rm_ok (by omega)) (Nat.le_of_ble_eq_true rfl) ?_
        rw [← hC]
        refine Ev.pc 29 rfl ?_
        refine ev_icmp_ge 143 dX6_fit_29 rfl (fun h29 => ?_) (fun h29 => ?_)
        · exact absurd h29 (nI_ge (by omega) (by omega))
        · refine ev_aload_0 dX6_fit_32 ?_
          refine ev_iload_3 dX6_fit_33 ?_
          refine ev_invV (ci := 6) dX6_fit_34 ml_X6_169 mt_X6_means (eM _) (by first | assumption | decide) (by decide) rfl rfl rfl (rm_ok (by omega)) (Nat.le_of_ble_eq_true rfl) ?_
          refine Ev.pc 37 rfl ?_
          refine ev_if_eq 137 dX6_fit_37 rfl (fun h37 => ?_) (fun h37 => ?_)
          · refine ev_iinc_3 (1) dX6_fit_137 rfl rfl ?_
            refine ev_goto 24 dX6_fit_140 rfl ?_
            rw [nI_1]
            have hq := ih (c + 1) z4 z5 (by omega)
            rw [ftS_no q7] at hq
            exact hq
          · exact absurd (b2i_n0.mp h37) q7
  have start := loop C 0 none none (by omega)
  rw [show xrow (xrow σ 78 (rwM g8 (dgt H) H 0)) 79 (ftS f g8 g9 P H 0).2 = σ by rw [rwM, ftS, hg8, xrow_id, hg9, xrow_id]] at start
  rw [hF] at start
  refine Ct.of (by decide +kernel) (Nat.le_of_ble_eq_true rfl) ⟨_, rfl, rfl⟩ ?_
  show Ev E _ RX6 cX6_fit 6 _ 0 [some (.ref (E.1 73)), some (.int h), none, none, none, none] [] _
  rcases h1 with q | ⟨k, hk, q⟩
  ·
    refine ev_iload_1 dX6_fit_0 ?_
    refine ev_iconst_m1 dX6_fit_1 ?_
    refine ev_icmp_eq 20 dX6_fit_2 rfl (fun h2 => ?_) (fun h2 => ?_)
    · refine ev_iconst_m1 dX6_fit_20 ?_
      refine ev_istore_2 dX6_fit_21 rfl ?_
      refine ev_iconst_0 dX6_fit_22 ?_
      refine ev_istore_3 dX6_fit_23 rfl ?_
      exact start
    · exact absurd q h2
  ·
    have e2 : hasIn (σ.1 74 1) h := by rw [hH, q]; exact hasIn_of (by omega) hk
    refine ev_iload_1 dX6_fit_0 ?_
    refine ev_iconst_m1 dX6_fit_1 ?_
    refine ev_icmp_eq 20 dX6_fit_2 rfl (fun h2 => ?_) (fun h2 => ?_)
    · exact absurd h2 (by rw [q]; exact nI_m1 (by omega))
    · refine ev_aload_0 dX6_fit_5 ?_
      refine ev_iload_1 dX6_fit_6 ?_
      refine ev_invV (ci := 6) dX6_fit_7 ml_X6_134 mt_X6_isHearer (c_X6_isHearer d) (by first | assumption | decide) (by decide) rfl rfl rfl (rm_ok (by omega)) (Nat.le_of_ble_eq_true rfl) ?_
      refine Ev.pc 10 rfl ?_
      refine ev_if_ne 20 dX6_fit_10 rfl (fun h10 => ?_) (fun h10 => ?_)
      · refine ev_iconst_m1 dX6_fit_20 ?_
        refine ev_istore_2 dX6_fit_21 rfl ?_
        refine ev_iconst_0 dX6_fit_22 ?_
        refine ev_istore_3 dX6_fit_23 rfl ?_
        exact start
      · exact absurd e2 (b2i_0.mp h10)
