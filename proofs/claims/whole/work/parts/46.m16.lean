/-! the reference: years -/
def yhG (fx : Int64 → Int64) (fs : (Nat → Int32) → Int64 → (Nat → Int32)) (g : Nat → Int32) (x : Int64) : Nat → Int64 × (Nat → Int32)
  | 0 => (x, g)
  | t + 1 => (fx (yhG fx fs g x t).1, fs (yhG fx fs g x t).2 (fx (yhG fx fs g x t).1))
theorem yhG_0 (fx : Int64 → Int64) (fs : (Nat → Int32) → Int64 → (Nat → Int32)) (g : Nat → Int32) (x : Int64) : yhG fx fs g x 0 = (x, g) := rfl
theorem yhG_s (fx : Int64 → Int64) (fs : (Nat → Int32) → Int64 → (Nat → Int32)) (g : Nat → Int32) (x : Int64) (t : Nat) : yhG fx fs g x (t + 1) = (fx (yhG fx fs g x t).1, fs (yhG fx fs g x t).2 (fx (yhG fx fs g x t).1)) := rfl
theorem yhG_inv (fx : Int64 → Int64) (fs : (Nat → Int32) → Int64 → (Nat → Int32)) (I : (Nat → Int32) → Prop) (hI : ∀ g x, I g → I (fs g x)) (g : Nat → Int32) (x : Int64) (h : I g) : ∀ t, I (yhG fx fs g x t).2 := by
  intro t
  induction t with
  | zero => exact h
  | succ t ih => rw [yhG_s]; exact hI _ _ ih
def ygM (f : Nat → Int32) (P H : Nat) (p h : Int32) : Nat → Int32 := if hasIn (nI P) p ∧ f (7 + p.toNatClampNeg) = 0 ∧ hasIn (nI H) h then mGoKeep f p.toNatClampNeg h.toNatClampNeg else f
theorem mGoKeep_0 (f : Nat → Int32) (p h : Nat) : mGoKeep f p h 0 = f 0 := by rw [mGoKeep, upd_ne _ _ (by omega), upd_ne _ _ (by omega)]
theorem ygM_0 (f : Nat → Int32) (P H : Nat) (p h : Int32) : ygM f P H p h 0 = f 0 := by
  rw [ygM]
  split
  · exact mGoKeep_0 _ _ _
  · rfl
def myS (P H : Nat) (g : Nat → Int32) (x : Int64) : Nat → Int64 × (Nat → Int32) := yhG yx (fun g x => mDay (ygM g P H (ypI x) (yhI x)) P) g x
theorem myS_0 (P H : Nat) (g : Nat → Int32) (x : Int64) : myS P H g x 0 = (x, g) := yhG_0 _ _ _ _
theorem myS_s (P H : Nat) (g : Nat → Int32) (x : Int64) (t : Nat) : myS P H g x (t + 1) = (yx (myS P H g x t).1, mDay (ygM (myS P H g x t).2 P H (ypI (yx (myS P H g x t).1)) (yhI (yx (myS P H g x t).1))) P) := yhG_s _ _ _ _ _
theorem myS_p (P H : Nat) (g : Nat → Int32) (x : Int64) (t : Nat) (h : g 0 = nI P) : (myS P H g x t).2 0 = nI P :=
  yhG_inv yx (fun g x => mDay (ygM g P H (ypI x) (yhI x)) P) (fun g => g 0 = nI P) (fun g x h => by rw [mDay_ne _ _ (Or.inl (by omega)) (by omega), ygM_0]; exact h) g x h t
def handM (σ : xS) : Nat → Int32 := cqF (σ.1 81) (σ.1 74) 0 0 48
def mYears (σ : xS) (P H N : Nat) (s : Int32) : Int32 × xS := ((myS P H (handM σ) s.toInt64 N).2 24, xrow σ 81 (myS P H (handM σ) s.toInt64 N).2)
theorem c_X6_years_bad (d : Nat) {E : xE} {σ : xS} {s n : Int32} (q7 : ¬ (btw s 0 999999 ∧ btw n 0 60)) : Ct E (d + 4) yX6_years cX6_years 8 (some .int) [.ref (E.1 73), .int s, .int n] σ (some (.int (-2))) (mBad σ) := by
  refine Ct.of (by decide +kernel) (Nat.le_of_ble_eq_true rfl) ⟨_, rfl, rfl⟩ ?_
  show Ev E _ RX6 cX6_years 8 _ 0 [some (.ref (E.1 73)), some (.int s), some (.int n), none, none, none, none, none] [] _
  refine ev_iload_1 dX6_years_0 ?_
  refine ev_i2l dX6_years_1 ?_
  refine ev_lconst_0 dX6_years_2 ?_
  refine ev_ldc2_w dX6_years_3 cn_X6_208 ?_
  refine ev_invS dX6_years_6 ml_X6_56 mt_X6_in (c_X6_in d (v := s) (lo := 0) (hi := 999999) (by first | rfl | decide) (by first | rfl | decide) (by first | rfl | decide)) rfl rfl (rm_ok (by omega)) (Nat.le_of_ble_eq_true rfl) ?_
  refine Ev.pc 9 rfl ?_
  refine ev_if_eq 24 dX6_years_9 rfl (fun h9 => ?_) (fun h9 => ?_)
  · refine ev_aload_0 dX6_years_24 ?_
    refine ev_bipush (-2) dX6_years_25 rfl ?_
    refine ev_invV (ci := 6) dX6_years_27 ml_X6_71 mt_X6_bad (c_X6_bad d) (by first | assumption | decide) (by decide) rfl rfl rfl (rm_ok (by omega)) (Nat.le_of_ble_eq_true rfl) ?_
    refine Ev.pc 30 rfl ?_
    exact ev_ireturn dX6_years_30 ⟨by rfl, by rfl⟩
  · refine ev_iload_2 dX6_years_12 ?_
    refine ev_i2l dX6_years_13 ?_
    refine ev_lconst_0 dX6_years_14 ?_
    refine ev_ldc2_w dX6_years_15 cn_X6_152 ?_
    refine ev_invS dX6_years_18 ml_X6_56 mt_X6_in (c_X6_in d (v := n) (lo := 0) (hi := 60) (by first | rfl | decide) (by first | rfl | decide) (by first | rfl | decide)) rfl rfl (rm_ok (by omega)) (Nat.le_of_ble_eq_true rfl) ?_
    refine Ev.pc 21 rfl ?_
    refine ev_if_ne 31 dX6_years_21 rfl (fun h21 => ?_) (fun h21 => ?_)
    · exact absurd ⟨b2i_n0.mp h9, b2i_n0.mp h21⟩ q7
    · refine ev_aload_0 dX6_years_24 ?_
      refine ev_bipush (-2) dX6_years_25 rfl ?_
      refine ev_invV (ci := 6) dX6_years_27 ml_X6_71 mt_X6_bad (c_X6_bad d) (by first | assumption | decide) (by decide) rfl rfl rfl (rm_ok (by omega)) (Nat.le_of_ble_eq_true rfl) ?_
      refine Ev.pc 30 rfl ?_
      exact ev_ireturn dX6_years_30 ⟨by rfl, by rfl⟩
theorem c_X6_years (d : Nat) {E : xE} {σ : xS} {P H N : Nat} {s : Int32} (hP : σ.1 74 0 = nI P) (hP7 : P ≤ 7) (hH : σ.1 74 1 = nI H) (hH4 : H ≤ 4) (hs : btw s 0 999999) (hN : N ≤ 60) : Ct E (d + 4) yX6_years cX6_years 8 (some .int) [.ref (E.1 73), .int s, .int (nI N)] σ (some (.int (mYears σ P H N s).1)) (mYears σ P H N s).2 := by
  have e1 : btw (nI N) 0 60 := ⟨nI_pos' (by omega), show nI N ≤ nI 60 from nI_le (by omega) (by omega)⟩
  rw [mYears]
  obtain ⟨g0, hg0⟩ : ∃ x, x = handM σ := ⟨_, rfl⟩
  have p0 : g0 0 = nI P := by rw [hg0, handM, cqF, if_pos (by omega)]; exact hP
  rw [← hg0]
  obtain ⟨x0, hx0⟩ : ∃ x, x = s.toInt64 := ⟨_, rfl⟩
  rw [← hx0]
  obtain ⟨R, hR⟩ : ∃ x, x = (myS P H g0 x0 N).2 := ⟨_, rfl⟩
  rw [← hR]
  dsimp only
  have loop : ∀ (m t : Nat) (x : Int64) (g : Nat → Int32) (z6 z7 : Option Value), t + m = N → (x, g) = myS P H g0 x0 t → Ev E (rm (d + 4)) RX6 cX6_years 8 (fun v t => v = some (.int (R 24)) ∧ t = xrow σ 81 R) 67 [some (.ref (E.1 73)), some (.int s), some (.int (nI N)), some (.long x), none, some (.int (nI t)), z6, z7] [] (xrow σ 81 g) := by
    intro m
    induction m with
    | zero =>
      intro t x g z6 z7 ht hx
      have hg : g = R := by rw [hR, show N = t by omega, ← hx]
      refine ev_iload_5 dX6_years_67 ?_
      refine ev_iload_2 dX6_years_69 ?_
      refine ev_icmp_ge 165 dX6_years_70 rfl (fun h70 => ?_) (fun h70 => ?_)
      · refine ev_aload_0 dX6_years_165 ?_
        refine ev_get dX6_years_166 fk_X6_36 (by first | assumption | decide) (by decide) rfl ?_
        refine ev_bipush (24) dX6_years_169 rfl ?_
        refine ev_aldL (n := 24) dX6_years_171 (by first | assumption | decide) (by have := xls; omega) ?_
        exact ev_ireturn dX6_years_172 ⟨by (rw [xrow_at, hg]), by (rw [hg])⟩
      · exact absurd (nI_le (by omega) (by omega)) h70
    | succ m ih =>
      intro t x g z6 z7 ht hx
      have gp : g 0 = nI P := by have := myS_p P H g0 x0 t p0; rw [← hx] at this; exact this
      obtain ⟨X, hX⟩ : ∃ y, y = yx x := ⟨_, rfl⟩
      obtain ⟨p1, hp1⟩ : ∃ y, y = ypI X := ⟨_, rfl⟩
      obtain ⟨h1, hh1⟩ : ∃ y, y = yhI X := ⟨_, rfl⟩
      have hi := fun z6 z7 => ih (t + 1) X (mDay (ygM g P H p1 h1) P) z6 z7 (by omega) (by rw [myS_s, ← hx, hp1, hh1, hX])
      by_cases c1 : hasIn (nI P) p1
      · obtain ⟨pp, hpp, epp⟩ := hasIn_nI (by omega) c1
        subst epp
        by_cases c2 : g (7 + pp) = 0
        · by_cases c3 : hasIn (nI H) h1
          · obtain ⟨hh, hhh, ehh⟩ := hasIn_nI (by omega) c3
            subst ehh
            rw [ygM, if_pos ⟨c1, by rw [nI_clamp (by omega)]; exact c2, c3⟩, nI_clamp (by omega), nI_clamp (by omega)] at hi
            refine ev_iload_5 dX6_years_67 ?_
            refine ev_iload_2 dX6_years_69 ?_
            refine ev_icmp_ge 165 dX6_years_70 rfl (fun h70 => ?_) (fun h70 => ?_)
            · exact absurd h70 (nI_ge (by omega) (by omega))
            · refine ev_lload_3 dX6_years_73 ?_
              refine ev_ldc2_w dX6_years_74 cn_X6_210 ?_
              refine ev_lmul dX6_years_77 ?_
              refine ev_ldc2_w dX6_years_78 cn_X6_212 ?_
              refine ev_ladd dX6_years_81 ?_
              refine Ev.pc 82 rfl ?_
              refine ev_ldc2_w dX6_years_82 cn_X6_214 ?_
              refine ev_lrem dX6_years_85 (by decide) ?_
              refine ev_topl (fun x1 ex1 => ?_)
              rw [show x1 = X from (show x1 = yx x from ex1).trans hX.symm]
              refine ev_lstore_3 dX6_years_86 rfl ?_
              refine ev_lload_3 dX6_years_87 ?_
              refine ev_ldc2_w dX6_years_88 cn_X6_216 ?_
              refine Ev.pc 91 rfl ?_
              refine ev_ldiv dX6_years_91 (by decide) ?_
              refine ev_ldc2_w dX6_years_92 cn_X6_218 ?_
              refine ev_lrem dX6_years_95 (by decide) ?_
              refine ev_l2i dX6_years_96 ?_
              refine ev_topi (fun x1 ex1 => ?_)
              rw [show x1 = _ from (show x1 = ypI X from ex1).trans hp1.symm]
              refine ev_istore_6 dX6_years_97 rfl ?_
              refine Ev.pc 99 rfl ?_
              refine ev_lload_3 dX6_years_99 ?_
              refine ev_ldc2_w dX6_years_100 cn_X6_220 ?_
              refine ev_ldiv dX6_years_103 (by decide) ?_
              refine ev_ldc2_w dX6_years_104 cn_X6_222 ?_
              refine ev_lrem dX6_years_107 (by decide) ?_
              refine Ev.pc 108 rfl ?_
              refine ev_l2i dX6_years_108 ?_
              refine ev_topi (fun x1 ex1 => ?_)
              rw [show x1 = _ from (show x1 = yhI X from ex1).trans hh1.symm]
              refine ev_istore_7 dX6_years_109 rfl ?_
              refine ev_aload_0 dX6_years_111 ?_
              refine ev_iload_6 dX6_years_112 ?_
              refine ev_invV (ci := 6) dX6_years_114 ml_X6_121 mt_X6_isPromise (c_X6_isPromise d) (by first | assumption | decide) (by decide) rfl rfl rfl (rm_ok (by omega)) (Nat.le_of_ble_eq_true rfl) ?_
              rw [xrow_ne _ _ (show (74 : Nat) ≠ 81 by decide), hP]
              refine Ev.pc 117 rfl ?_
              refine ev_if_eq 152 dX6_years_117 rfl (fun h117 => ?_) (fun h117 => ?_)
              · exact absurd c1 (b2i_0.mp h117)
              · refine ev_aload_0 dX6_years_120 ?_
                refine ev_get dX6_years_121 fk_X6_36 (by first | assumption | decide) (by decide) rfl ?_
                refine ev_iload_6 dX6_years_124 ?_
                refine ev_invS dX6_years_126 ml_X6_95 mt_X6_isShown (c_X6_isShown d (by first | assumption | decide) (by have := xls; omega) (by omega)) rfl rfl (rm_ok (by omega)) (Nat.le_of_ble_eq_true rfl) ?_
                rw [xrow_at]
                refine Ev.pc 129 rfl ?_
                refine ev_if_eq 152 dX6_years_129 rfl (fun h129 => ?_) (fun h129 => ?_)
                · exact absurd c2 (b2i_0.mp h129)
                · refine ev_aload_0 dX6_years_132 ?_
                  refine ev_iload_7 dX6_years_133 ?_
                  refine ev_invV (ci := 6) dX6_years_135 ml_X6_134 mt_X6_isHearer (c_X6_isHearer d) (by first | assumption | decide) (by decide) rfl rfl rfl (rm_ok (by omega)) (Nat.le_of_ble_eq_true rfl) ?_
                  rw [xrow_ne _ _ (show (74 : Nat) ≠ 81 by decide), hH]
                  refine Ev.pc 138 rfl ?_
                  refine ev_if_eq 152 dX6_years_138 rfl (fun h138 => ?_) (fun h138 => ?_)
                  · exact absurd c3 (b2i_0.mp h138)
                  · refine ev_aload_0 dX6_years_141 ?_
                    refine ev_get dX6_years_142 fk_X6_36 (by first | assumption | decide) (by decide) rfl ?_
                    refine ev_iload_6 dX6_years_145 ?_
                    refine ev_iload_7 dX6_years_147 ?_
                    refine ev_invS dX6_years_149 ml_X6_140 mt_X6_goKeep (c_X6_goKeep d (by first | assumption | decide) (by have := xls; omega) (by omega) (by omega)) rfl rfl (rm_ok (by omega)) (Nat.le_of_ble_eq_true rfl) ?_
                    refine Ev.pc 152 rfl ?_
                    try simp only [xrow_at, xrow_row]
                    refine ev_aload_0 dX6_years_152 ?_
                    refine ev_get dX6_years_153 fk_X6_36 (by first | assumption | decide) (by decide) rfl ?_
                    refine ev_invS dX6_years_156 ml_X6_99 mt_X6_goDay (c_X6_goDay (d + 2) (r := 81) (by decide) (by have := xls; omega) (by rw [mGoKeep_0]; exact gp) hP7) rfl rfl (rm_ok (by omega)) (Nat.le_of_ble_eq_true rfl) ?_
                    refine Ev.pc 159 rfl ?_
                    refine ev_iinc_5 (1) dX6_years_159 rfl rfl ?_
                    refine ev_goto 67 dX6_years_162 rfl ?_
                    rw [nI_1]
                    exact hi _ _
          · rw [ygM, if_neg (fun h => c3 h.2.2)] at hi
            refine ev_iload_5 dX6_years_67 ?_
            refine ev_iload_2 dX6_years_69 ?_
            refine ev_icmp_ge 165 dX6_years_70 rfl (fun h70 => ?_) (fun h70 => ?_)
            · exact absurd h70 (nI_ge (by omega) (by omega))
            · refine ev_lload_3 dX6_years_73 ?_
              refine ev_ldc2_w dX6_years_74 cn_X6_210 ?_
              refine ev_lmul dX6_years_77 ?_
              refine ev_ldc2_w dX6_years_78 cn_X6_212 ?_
              refine ev_ladd dX6_years_81 ?_
              refine Ev.pc 82 rfl ?_
              refine ev_ldc2_w dX6_years_82 cn_X6_214 ?_
              refine ev_lrem dX6_years_85 (by decide) ?_
              refine ev_topl (fun x1 ex1 => ?_)
              rw [show x1 = X from (show x1 = yx x from ex1).trans hX.symm]
              refine ev_lstore_3 dX6_years_86 rfl ?_
              refine ev_lload_3 dX6_years_87 ?_
              refine ev_ldc2_w dX6_years_88 cn_X6_216 ?_
              refine Ev.pc 91 rfl ?_
              refine ev_ldiv dX6_years_91 (by decide) ?_
              refine ev_ldc2_w dX6_years_92 cn_X6_218 ?_
              refine ev_lrem dX6_years_95 (by decide) ?_
              refine ev_l2i dX6_years_96 ?_
              refine ev_topi (fun x1 ex1 => ?_)
              rw [show x1 = _ from (show x1 = ypI X from ex1).trans hp1.symm]
              refine ev_istore_6 dX6_years_97 rfl ?_
              refine Ev.pc 99 rfl ?_
              refine ev_lload_3 dX6_years_99 ?_
              refine ev_ldc2_w dX6_years_100 cn_X6_220 ?_
              refine ev_ldiv dX6_years_103 (by decide) ?_
              refine ev_ldc2_w dX6_years_104 cn_X6_222 ?_
              refine ev_lrem dX6_years_107 (by decide) ?_
              refine Ev.pc 108 rfl ?_
              refine ev_l2i dX6_years_108 ?_
              refine ev_topi (fun x1 ex1 => ?_)
              rw [show x1 = _ from (show x1 = yhI X from ex1).trans hh1.symm]
              refine ev_istore_7 dX6_years_109 rfl ?_
              refine ev_aload_0 dX6_years_111 ?_
              refine ev_iload_6 dX6_years_112 ?_
              refine ev_invV (ci := 6) dX6_years_114 ml_X6_121 mt_X6_isPromise (c_X6_isPromise d) (by first | assumption | decide) (by decide) rfl rfl rfl (rm_ok (by omega)) (Nat.le_of_ble_eq_true rfl) ?_
              rw [xrow_ne _ _ (show (74 : Nat) ≠ 81 by decide), hP]
              refine Ev.pc 117 rfl ?_
              refine ev_if_eq 152 dX6_years_117 rfl (fun h117 => ?_) (fun h117 => ?_)
              · exact absurd c1 (b2i_0.mp h117)
              · refine ev_aload_0 dX6_years_120 ?_
                refine ev_get dX6_years_121 fk_X6_36 (by first | assumption | decide) (by decide) rfl ?_
                refine ev_iload_6 dX6_years_124 ?_
                refine ev_invS dX6_years_126 ml_X6_95 mt_X6_isShown (c_X6_isShown d (by first | assumption | decide) (by have := xls; omega) (by omega)) rfl rfl (rm_ok (by omega)) (Nat.le_of_ble_eq_true rfl) ?_
                rw [xrow_at]
                refine Ev.pc 129 rfl ?_
                refine ev_if_eq 152 dX6_years_129 rfl (fun h129 => ?_) (fun h129 => ?_)
                · exact absurd c2 (b2i_0.mp h129)
                · refine ev_aload_0 dX6_years_132 ?_
                  refine ev_iload_7 dX6_years_133 ?_
                  refine ev_invV (ci := 6) dX6_years_135 ml_X6_134 mt_X6_isHearer (c_X6_isHearer d) (by first | assumption | decide) (by decide) rfl rfl rfl (rm_ok (by omega)) (Nat.le_of_ble_eq_true rfl) ?_
                  rw [xrow_ne _ _ (show (74 : Nat) ≠ 81 by decide), hH]
                  refine Ev.pc 138 rfl ?_
                  refine ev_if_eq 152 dX6_years_138 rfl (fun h138 => ?_) (fun h138 => ?_)
                  · try simp only [xrow_at, xrow_row]
                    refine ev_aload_0 dX6_years_152 ?_
                    refine ev_get dX6_years_153 fk_X6_36 (by first | assumption | decide) (by decide) rfl ?_
                    refine ev_invS dX6_years_156 ml_X6_99 mt_X6_goDay (c_X6_goDay (d + 2) (r := 81) (by decide) (by have := xls; omega) gp hP7) rfl rfl (rm_ok (by omega)) (Nat.le_of_ble_eq_true rfl) ?_
                    refine Ev.pc 159 rfl ?_
                    refine ev_iinc_5 (1) dX6_years_159 rfl rfl ?_
                    refine ev_goto 67 dX6_years_162 rfl ?_
                    rw [nI_1]
                    exact hi _ _
                  · exact absurd (b2i_n0.mp h138) c3
        · rw [ygM, if_neg (fun h => c2 (by have := h.2.1; rw [nI_clamp (by omega)] at this; exact this))] at hi
          refine ev_iload_5 dX6_years_67 ?_
          refine ev_iload_2 dX6_years_69 ?_
          refine ev_icmp_ge 165 dX6_years_70 rfl (fun h70 => ?_) (fun h70 => ?_)
          · exact absurd h70 (nI_ge (by omega) (by omega))
          · refine ev_lload_3 dX6_years_73 ?_
            refine ev_ldc2_w dX6_years_74 cn_X6_210 ?_
            refine ev_lmul dX6_years_77 ?_
            refine ev_ldc2_w dX6_years_78 cn_X6_212 ?_
            refine ev_ladd dX6_years_81 ?_
            refine Ev.pc 82 rfl ?_
            refine ev_ldc2_w dX6_years_82 cn_X6_214 ?_
            refine ev_lrem dX6_years_85 (by decide) ?_
            refine ev_topl (fun x1 ex1 => ?_)
            rw [show x1 = X from (show x1 = yx x from ex1).trans hX.symm]
            refine ev_lstore_3 dX6_years_86 rfl ?_
            refine ev_lload_3 dX6_years_87 ?_
            refine ev_ldc2_w dX6_years_88 cn_X6_216 ?_
            refine Ev.pc 91 rfl ?_
            refine ev_ldiv dX6_years_91 (by decide) ?_
            refine ev_ldc2_w dX6_years_92 cn_X6_218 ?_
            refine ev_lrem dX6_years_95 (by decide) ?_
            refine ev_l2i dX6_years_96 ?_
            refine ev_topi (fun x1 ex1 => ?_)
            rw [show x1 = _ from (show x1 = ypI X from ex1).trans hp1.symm]
            refine ev_istore_6 dX6_years_97 rfl ?_
            refine Ev.pc 99 rfl ?_
            refine ev_lload_3 dX6_years_99 ?_
            refine ev_ldc2_w dX6_years_100 cn_X6_220 ?_
            refine ev_ldiv dX6_years_103 (by decide) ?_
            refine ev_ldc2_w dX6_years_104 cn_X6_222 ?_
            refine ev_lrem dX6_years_107 (by decide) ?_
            refine Ev.pc 108 rfl ?_
            refine ev_l2i dX6_years_108 ?_
            refine ev_topi (fun x1 ex1 => ?_)
            rw [show x1 = _ from (show x1 = yhI X from ex1).trans hh1.symm]
            refine ev_istore_7 dX6_years_109 rfl ?_
            refine ev_aload_0 dX6_years_111 ?_
            refine ev_iload_6 dX6_years_112 ?_
            refine ev_invV (ci := 6) dX6_years_114 ml_X6_121 mt_X6_isPromise (c_X6_isPromise d) (by first | assumption | decide) (by decide) rfl rfl rfl (rm_ok (by omega)) (Nat.le_of_ble_eq_true rfl) ?_
            rw [xrow_ne _ _ (show (74 : Nat) ≠ 81 by decide), hP]
            refine Ev.pc 117 rfl ?_
            refine ev_if_eq 152 dX6_years_117 rfl (fun h117 => ?_) (fun h117 => ?_)
            · exact absurd c1 (b2i_0.mp h117)
            · refine ev_aload_0 dX6_years_120 ?_
              refine ev_get dX6_years_121 fk_X6_36 (by first | assumption | decide) (by decide) rfl ?_
              refine ev_iload_6 dX6_years_124 ?_
              refine ev_invS dX6_years_126 ml_X6_95 mt_X6_isShown (c_X6_isShown d (by first | assumption | decide) (by have := xls; omega) (by omega)) rfl rfl (rm_ok (by omega)) (Nat.le_of_ble_eq_true rfl) ?_
              rw [xrow_at]
              refine Ev.pc 129 rfl ?_
              refine ev_if_eq 152 dX6_years_129 rfl (fun h129 => ?_) (fun h129 => ?_)
              · try simp only [xrow_at, xrow_row]
                refine ev_aload_0 dX6_years_152 ?_
                refine ev_get dX6_years_153 fk_X6_36 (by first | assumption | decide) (by decide) rfl ?_
                refine ev_invS dX6_years_156 ml_X6_99 mt_X6_goDay (c_X6_goDay (d + 2) (r := 81) (by decide) (by have := xls; omega) gp hP7) rfl rfl (rm_ok (by omega)) (Nat.le_of_ble_eq_true rfl) ?_
                refine Ev.pc 159 rfl ?_
                refine ev_iinc_5 (1) dX6_years_159 rfl rfl ?_
                refine ev_goto 67 dX6_years_162 rfl ?_
                rw [nI_1]
                exact hi _ _
              · exact absurd (b2i_n0.mp h129) c2
      · rw [ygM, if_neg (fun h => c1 h.1)] at hi
        refine ev_iload_5 dX6_years_67 ?_
        refine ev_iload_2 dX6_years_69 ?_
        refine ev_icmp_ge 165 dX6_years_70 rfl (fun h70 => ?_) (fun h70 => ?_)
        · exact absurd h70 (nI_ge (by omega) (by omega))
        · refine ev_lload_3 dX6_years_73 ?_
          refine ev_ldc2_w dX6_years_74 cn_X6_210 ?_
          refine ev_lmul dX6_years_77 ?_
          refine ev_ldc2_w dX6_years_78 cn_X6_212 ?_
          refine ev_ladd dX6_years_81 ?_
          refine Ev.pc 82 rfl ?_
          refine ev_ldc2_w dX6_years_82 cn_X6_214 ?_
          refine ev_lrem dX6_years_85 (by decide) ?_
          refine ev_topl (fun x1 ex1 => ?_)
          rw [show x1 = X from (show x1 = yx x from ex1).trans hX.symm]
          refine ev_lstore_3 dX6_years_86 rfl ?_
          refine ev_lload_3 dX6_years_87 ?_
          refine ev_ldc2_w dX6_years_88 cn_X6_216 ?_
          refine Ev.pc 91 rfl ?_
          refine ev_ldiv dX6_years_91 (by decide) ?_
          refine ev_ldc2_w dX6_years_92 cn_X6_218 ?_
          refine ev_lrem dX6_years_95 (by decide) ?_
          refine ev_l2i dX6_years_96 ?_
          refine ev_topi (fun x1 ex1 => ?_)
          rw [show x1 = _ from (show x1 = ypI X from ex1).trans hp1.symm]
          refine ev_istore_6 dX6_years_97 rfl ?_
          refine Ev.pc 99 rfl ?_
          refine ev_lload_3 dX6_years_99 ?_
          refine ev_ldc2_w dX6_years_100 cn_X6_220 ?_
          refine ev_ldiv dX6_years_103 (by decide) ?_
          refine ev_ldc2_w dX6_years_104 cn_X6_222 ?_
          refine ev_lrem dX6_years_107 (by decide) ?_
          refine Ev.pc 108 rfl ?_
          refine ev_l2i dX6_years_108 ?_
          refine ev_topi (fun x1 ex1 => ?_)
          rw [show x1 = _ from (show x1 = yhI X from ex1).trans hh1.symm]
          refine ev_istore_7 dX6_years_109 rfl ?_
          refine ev_aload_0 dX6_years_111 ?_
          refine ev_iload_6 dX6_years_112 ?_
          refine ev_invV (ci := 6) dX6_years_114 ml_X6_121 mt_X6_isPromise (c_X6_isPromise d) (by first | assumption | decide) (by decide) rfl rfl rfl (rm_ok (by omega)) (Nat.le_of_ble_eq_true rfl) ?_
          rw [xrow_ne _ _ (show (74 : Nat) ≠ 81 by decide), hP]
          refine Ev.pc 117 rfl ?_
          refine ev_if_eq 152 dX6_years_117 rfl (fun h117 => ?_) (fun h117 => ?_)
          · try simp only [xrow_at, xrow_row]
            refine ev_aload_0 dX6_years_152 ?_
            refine ev_get dX6_years_153 fk_X6_36 (by first | assumption | decide) (by decide) rfl ?_
            refine ev_invS dX6_years_156 ml_X6_99 mt_X6_goDay (c_X6_goDay (d + 2) (r := 81) (by decide) (by have := xls; omega) gp hP7) rfl rfl (rm_ok (by omega)) (Nat.le_of_ble_eq_true rfl) ?_
            refine Ev.pc 159 rfl ?_
            refine ev_iinc_5 (1) dX6_years_159 rfl rfl ?_
            refine ev_goto 67 dX6_years_162 rfl ?_
            rw [nI_1]
            exact hi _ _
          · exact absurd (b2i_n0.mp h117) c1
  have cp : ∀ (n k : Nat), k + n = 48 → Ev E (rm (d + 4)) RX6 cX6_years 8 (fun v t => v = some (.int (R 24)) ∧ t = xrow σ 81 R) 37 [some (.ref (E.1 73)), some (.int s), some (.int (nI N)), some (.long x0), none, some (.int (nI k)), none, none] [] (xrow σ 81 (cqF (σ.1 81) (σ.1 74) 0 0 k)) := by
    intro n
    induction n with
    | zero =>
      intro k hk
      refine ev_iload_5 dX6_years_37 ?_
      refine ev_bipush (48) dX6_years_39 rfl ?_
      refine ev_icmp_ge 64 dX6_years_41 rfl (fun h41 => ?_) (fun h41 => ?_)
      · refine ev_iconst_0 dX6_years_64 ?_
        refine ev_istore_5 dX6_years_65 rfl ?_
        rw [show k = 48 by omega, ← handM, ← hg0]
        exact loop N 0 _ _ _ _ (by omega) (by rw [myS_0])
      · exact absurd (show nI 48 ≤ nI k from nI_le (by omega) (by omega)) h41
    | succ n ih =>
      intro k hk
      have e2 : upd (cqF (σ.1 81) (σ.1 74) 0 0 k) k (σ.1 74 k) = cqF (σ.1 81) (σ.1 74) 0 0 (k + 1) := by
        have := cqF_s (σ.1 81) (σ.1 74) 0 0 k
        rw [Nat.zero_add] at this
        exact this
      refine ev_iload_5 dX6_years_37 ?_
      refine ev_bipush (48) dX6_years_39 rfl ?_
      refine ev_icmp_ge 64 dX6_years_41 rfl (fun h41 => ?_) (fun h41 => ?_)
      · exact absurd h41 (show ¬ nI 48 ≤ nI k from nI_ge (by omega) (by omega))
      · refine ev_aload_0 dX6_years_44 ?_
        refine ev_get dX6_years_45 fk_X6_36 (by first | assumption | decide) (by decide) rfl ?_
        refine ev_iload_5 dX6_years_48 ?_
        refine ev_aload_0 dX6_years_50 ?_
        refine ev_get dX6_years_51 fk_X6_7 (by first | assumption | decide) (by decide) rfl ?_
        refine Ev.pc 54 rfl ?_
        refine ev_iload_5 dX6_years_54 ?_
        refine ev_aldV dX6_years_56 (by first | assumption | decide) (by have := xls; omega) ?_
        refine ev_astV dX6_years_57 (by first | assumption | decide) (by have := xls; omega) ?_
        refine ev_iinc_5 (1) dX6_years_58 rfl rfl ?_
        refine ev_goto 37 dX6_years_61 rfl ?_
        rw [xrow_ne _ _ (show (74 : Nat) ≠ 81 by decide), xrow_at, xrow_row, e2, nI_1]
        exact ih (k + 1) (by omega)
  refine Ct.of (by decide +kernel) (Nat.le_of_ble_eq_true rfl) ⟨_, rfl, rfl⟩ ?_
  show Ev E _ RX6 cX6_years 8 _ 0 [some (.ref (E.1 73)), some (.int s), some (.int (nI N)), none, none, none, none, none] [] _
  refine ev_iload_1 dX6_years_0 ?_
  refine ev_i2l dX6_years_1 ?_
  refine ev_lconst_0 dX6_years_2 ?_
  refine ev_ldc2_w dX6_years_3 cn_X6_208 ?_
  refine ev_invS dX6_years_6 ml_X6_56 mt_X6_in (c_X6_in d (v := s) (lo := 0) (hi := 999999) (by first | rfl | decide) (by first | rfl | decide) (by first | rfl | decide)) rfl rfl (rm_ok (by omega)) (Nat.le_of_ble_eq_true rfl) ?_
  refine Ev.pc 9 rfl ?_
  refine ev_if_eq 24 dX6_years_9 rfl (fun h9 => ?_) (fun h9 => ?_)
  · exact absurd hs (b2i_0.mp h9)
  · refine ev_iload_2 dX6_years_12 ?_
    refine ev_i2l dX6_years_13 ?_
    refine ev_lconst_0 dX6_years_14 ?_
    refine ev_ldc2_w dX6_years_15 cn_X6_152 ?_
    refine ev_invS dX6_years_18 ml_X6_56 mt_X6_in (c_X6_in d (v := nI N) (lo := 0) (hi := 60) (by first | rfl | decide) (by first | rfl | decide) (by first | rfl | decide)) rfl rfl (rm_ok (by omega)) (Nat.le_of_ble_eq_true rfl) ?_
    refine Ev.pc 21 rfl ?_
    refine ev_if_ne 31 dX6_years_21 rfl (fun h21 => ?_) (fun h21 => ?_)
    · refine ev_iload_1 dX6_years_31 ?_
      refine ev_i2l dX6_years_32 ?_
      refine ev_lstore_3 dX6_years_33 rfl ?_
      refine ev_iconst_0 dX6_years_34 ?_
      refine ev_istore_5 dX6_years_35 rfl ?_
      refine Ev.pc 37 rfl ?_
      rw [← hx0]
      have h := cp 48 0 (by omega)
      rw [cqF_0, xrow_id] at h
      exact h
    · exact absurd e1 (b2i_0.mp h21)
