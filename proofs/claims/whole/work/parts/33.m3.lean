/-! the reference: days, save, buys, keeps, undo -/
def ageF (f : Nat → Int32) (n : Nat) : Nat → Int32 := fun k => if 14 ≤ k ∧ k < 14 + n then f k + b2i (f (k - 7) = 0) else f k
theorem ageF_0 (f : Nat → Int32) : ageF f 0 = f := by funext k; simp [ageF]; omega
theorem ageF_lo (f : Nat → Int32) (n : Nat) {k : Nat} (h : k < 14) : ageF f n k = f k := by simp [ageF]; omega
theorem ageF_hi (f : Nat → Int32) {n k : Nat} (h : 14 + n ≤ k) : ageF f n k = f k := by simp [ageF]; omega
theorem ageF_s (f : Nat → Int32) {n : Nat} {x : Int32} (hn : n < 7) (hx : x = b2i (ageF f n (7 + n) = 0)) : upd (ageF f n) (14 + n) (ageF f n (14 + n) + x) = ageF f (n + 1) := by
  rw [ageF_lo f n (by omega)] at hx
  rw [ageF_hi f (by omega), hx]
  funext k
  by_cases hk : k = 14 + n
  · subst hk
    simp [upd, ageF, show 14 + n - 7 = 7 + n by omega]
  · simp only [upd, hk, if_false, ageF, show (14 ≤ k ∧ k < 14 + n) ↔ (14 ≤ k ∧ k < 14 + (n + 1)) by omega]
def mDay (f : Nat → Int32) (P : Nat) : Nat → Int32 := upd (ageF f P) 25 (f 25 + 1)
theorem mDay_ne (f : Nat → Int32) (P : Nat) {k : Nat} (h : k < 14 ∨ 14 + P ≤ k) (h2 : k ≠ 25) : mDay f P k = f k := by
  rw [mDay, upd_ne _ _ h2]
  rcases h with h | h
  · exact ageF_lo f P h
  · exact ageF_hi f h
theorem c_X6_goDay (d : Nat) {E : xE} {σ : xS} {r P : Nat} {f : Nat → Int32} (hr : r < xN ∧ xcls r = 7) (hl : 48 ≤ xlen r) (hP : f 0 = nI P) (hP7 : P ≤ 7) : Ct E (d + 1) yX6_goDay cX6_goDay 2 none [.ref (E.1 r)] (xrow σ r f) none (xrow σ r (mDay f P)) := by
  have loop : ∀ (n k : Nat), k + n = P → Ev E (rm (d + 1)) RX6 cX6_goDay 2 (fun v t => v = none ∧ t = xrow σ r (mDay f P)) 2 [some (.ref (E.1 r)), some (.int (nI k))] [] (xrow σ r (ageF f k)) := by
    intro n
    induction n with
    | zero =>
      intro k hk
      refine ev_iload_1 dX6_goDay_2 ?_
      refine ev_aload_0 dX6_goDay_3 ?_
      refine ev_iconst_0 dX6_goDay_4 ?_
      refine ev_aldL (n := 0) dX6_goDay_5 (by first | assumption | decide) (by have := xls; omega) ?_
      rw [xrow_at, ageF_lo f k (by omega), hP]
      refine ev_icmp_ge 37 dX6_goDay_6 rfl (fun h6 => ?_) (fun h6 => ?_)
      · refine ev_aload_0 dX6_goDay_37 ?_
        refine ev_bipush (25) dX6_goDay_38 rfl ?_
        refine ev_dup2 dX6_goDay_40 rfl rfl ?_
        refine ev_aldL (n := 25) dX6_goDay_41 (by first | assumption | decide) (by have := xls; omega) ?_
        refine ev_iconst_1 dX6_goDay_42 ?_
        refine Ev.pc 43 rfl ?_
        refine ev_iadd dX6_goDay_43 ?_
        refine ev_astL (n := 25) dX6_goDay_44 (by first | assumption | decide) (by have := xls; omega) ?_
        exact ev_return dX6_goDay_45 ⟨by rfl, by (simp only [xrow_at, xrow_row]; rw [show k = P by omega, ageF_hi f (by omega)]; rfl)⟩
      · exact absurd (nI_le (by omega) (by omega)) h6
    | succ n ih =>
      intro k hk
      refine ev_iload_1 dX6_goDay_2 ?_
      refine ev_aload_0 dX6_goDay_3 ?_
      refine ev_iconst_0 dX6_goDay_4 ?_
      refine ev_aldL (n := 0) dX6_goDay_5 (by first | assumption | decide) (by have := xls; omega) ?_
      rw [xrow_at, ageF_lo f k (by omega), hP]
      refine ev_icmp_ge 37 dX6_goDay_6 rfl (fun h6 => ?_) (fun h6 => ?_)
      · exact absurd h6 (nI_ge (by omega) (by omega))
      · refine ev_aload_0 dX6_goDay_9 ?_
        refine ev_bipush (14) dX6_goDay_10 rfl ?_
        refine ev_iload_1 dX6_goDay_12 ?_
        refine ev_iadd dX6_goDay_13 ?_
        refine ev_dup2 dX6_goDay_14 rfl rfl ?_
        refine Ev.pc 15 rfl ?_
        refine ev_aldA (n := 14) dX6_goDay_15 (by first | assumption | decide) (by have := xls; omega) ?_
        refine ev_aload_0 dX6_goDay_16 ?_
        refine ev_iload_1 dX6_goDay_17 ?_
        refine ev_invS dX6_goDay_18 ml_X6_95 mt_X6_isShown (c_X6_isShown d hr hl (p := k) (by omega)) rfl rfl (rm_ok (by omega)) (Nat.le_of_ble_eq_true rfl) ?_
        refine Ev.pc 21 rfl ?_
        refine ev_if_eq 28 dX6_goDay_21 rfl (fun h21 => ?_) (fun h21 => ?_)
        · refine ev_iconst_0 dX6_goDay_28 ?_
          refine ev_iadd dX6_goDay_29 ?_
          refine ev_astN (k := 14 + k) dX6_goDay_30 (by first | assumption | decide) (by first | rfl | (simp only [fa_lit, nI_add, pk_mul]; done) | (simp only [fa_lit, nI_add, pk_mul]; congr 1; omega)) (by have := xls; omega) ?_
          refine ev_iinc_1 (1) dX6_goDay_31 rfl rfl ?_
          refine ev_goto 2 dX6_goDay_34 rfl ?_
          simp only [xrow_at, xrow_row] at h21 ⊢
          rw [nI_1, ageF_s f (by omega) (by first | exact (b2i_t (b2i_n0.mp h21)) | exact (b2i_f (b2i_0.mp h21)))]
          exact ih (k + 1) (by omega)
        · refine ev_iconst_1 dX6_goDay_24 ?_
          refine ev_goto 29 dX6_goDay_25 rfl ?_
          refine ev_iadd dX6_goDay_29 ?_
          refine ev_astN (k := 14 + k) dX6_goDay_30 (by first | assumption | decide) (by first | rfl | (simp only [fa_lit, nI_add, pk_mul]; done) | (simp only [fa_lit, nI_add, pk_mul]; congr 1; omega)) (by have := xls; omega) ?_
          refine ev_iinc_1 (1) dX6_goDay_31 rfl rfl ?_
          refine ev_goto 2 dX6_goDay_34 rfl ?_
          simp only [xrow_at, xrow_row] at h21 ⊢
          rw [nI_1, ageF_s f (by omega) (by first | exact (b2i_t (b2i_n0.mp h21)) | exact (b2i_f (b2i_0.mp h21)))]
          exact ih (k + 1) (by omega)
  refine Ct.of (by decide +kernel) (Nat.le_of_ble_eq_true rfl) rfl ?_
  show Ev E _ RX6 cX6_goDay 2 _ 0 [some (.ref (E.1 r)), none] [] _
  refine ev_iconst_0 dX6_goDay_0 ?_
  refine ev_istore_1 dX6_goDay_1 rfl ?_
  have h := loop P 0 (by omega)
  rw [ageF_0] at h
  exact h
def mDays (P : Nat) : Nat → (Nat → Int32) → (Nat → Int32)
  | 0, f => f
  | n + 1, f => if f 25 < 9999 then mDays P n (mDay f P) else f
theorem c_X6_goDays (d : Nat) {E : xE} {σ : xS} {r P N : Nat} {f : Nat → Int32} (hr : r < xN ∧ xcls r = 7) (hl : 48 ≤ xlen r) (hP : f 0 = nI P) (hP7 : P ≤ 7) (hN : N < 1000) : Ct E (d + 2) yX6_goDays cX6_goDays 3 none [.ref (E.1 r), .int (nI N)] (xrow σ r f) none (xrow σ r (mDays P N f)) := by
  have loop : ∀ (n k : Nat) (g : Nat → Int32), k + n = N → g 0 = nI P → Ev E (rm (d + 2)) RX6 cX6_goDays 3 (fun v t => v = none ∧ t = xrow σ r (mDays P n g)) 2 [some (.ref (E.1 r)), some (.int (nI N)), some (.int (nI k))] [] (xrow σ r g) := by
    intro n
    induction n with
    | zero =>
      intro k g hk hg
      refine ev_iload_2 dX6_goDays_2 ?_
      refine ev_iload_1 dX6_goDays_3 ?_
      refine ev_icmp_ge 27 dX6_goDays_4 rfl (fun h4 => ?_) (fun h4 => ?_)
      · exact ev_return dX6_goDays_27 ⟨by rfl, by rfl⟩
      · exact absurd (nI_le (by omega) (by omega)) h4
    | succ n ih =>
      intro k g hk hg
      by_cases q7 : g 25 < 9999
      · rw [mDays, if_pos q7]
        refine ev_iload_2 dX6_goDays_2 ?_
        refine ev_iload_1 dX6_goDays_3 ?_
        refine ev_icmp_ge 27 dX6_goDays_4 rfl (fun h4 => ?_) (fun h4 => ?_)
        · exact absurd h4 (nI_ge (by omega) (by omega))
        · refine ev_aload_0 dX6_goDays_7 ?_
          refine ev_bipush (25) dX6_goDays_8 rfl ?_
          refine ev_aldL (n := 25) dX6_goDays_10 (by first | assumption | decide) (by have := xls; omega) ?_
          refine ev_sipush (9999) dX6_goDays_11 rfl ?_
          rw [xrow_at]
          refine ev_icmp_ge 27 dX6_goDays_14 rfl (fun h14 => ?_) (fun h14 => ?_)
          · exact absurd q7 (i_nlt.mpr h14)
          · refine ev_aload_0 dX6_goDays_17 ?_
            refine ev_invS dX6_goDays_18 ml_X6_99 mt_X6_goDay (c_X6_goDay d hr hl hg hP7) rfl rfl (rm_ok (by omega)) (Nat.le_of_ble_eq_true rfl) ?_
            refine Ev.pc 21 rfl ?_
            refine ev_iinc_2 (1) dX6_goDays_21 rfl rfl ?_
            refine ev_goto 2 dX6_goDays_24 rfl ?_
            rw [nI_1]
            exact ih (k + 1) _ (by omega) (by rw [mDay_ne _ _ (Or.inl (by omega)) (by omega)]; exact hg)
      · rw [mDays, if_neg q7]
        refine ev_iload_2 dX6_goDays_2 ?_
        refine ev_iload_1 dX6_goDays_3 ?_
        refine ev_icmp_ge 27 dX6_goDays_4 rfl (fun h4 => ?_) (fun h4 => ?_)
        · exact absurd h4 (nI_ge (by omega) (by omega))
        · refine ev_aload_0 dX6_goDays_7 ?_
          refine ev_bipush (25) dX6_goDays_8 rfl ?_
          refine ev_aldL (n := 25) dX6_goDays_10 (by first | assumption | decide) (by have := xls; omega) ?_
          refine ev_sipush (9999) dX6_goDays_11 rfl ?_
          rw [xrow_at]
          refine ev_icmp_ge 27 dX6_goDays_14 rfl (fun h14 => ?_) (fun h14 => ?_)
          · exact ev_return dX6_goDays_27 ⟨by rfl, by rfl⟩
          · exact absurd (i_nle.mp h14) q7
  refine Ct.of (by decide +kernel) (Nat.le_of_ble_eq_true rfl) rfl ?_
  show Ev E _ RX6 cX6_goDays 3 _ 0 [some (.ref (E.1 r)), some (.int (nI N)), none] [] _
  refine ev_iconst_0 dX6_goDays_0 ?_
  refine ev_istore_2 dX6_goDays_1 rfl ?_
  exact loop N 0 f (by omega) hP
def shF (f : Nat → Int32) (n : Nat) : Nat → Int32 := fun k => if 106 ≤ k ∧ k < 106 + n then f (k + 19) else f k
theorem shF_0 (f : Nat → Int32) : shF f 0 = f := by funext k; simp [shF]; omega
theorem shF_s (f : Nat → Int32) (n : Nat) : upd (shF f n) (106 + n) (shF f n (125 + n)) = shF f (n + 1) := by
  have h : shF f n (125 + n) = f (125 + n) := by simp only [shF, show ¬ (106 ≤ 125 + n ∧ 125 + n < 106 + n) by omega, if_false]
  rw [h]
  funext k
  by_cases hk : k = 106 + n
  · subst hk
    simp [upd, shF, show 106 + n + 19 = 125 + n by omega]
  · simp only [upd, hk, if_false, shF, show (106 ≤ k ∧ k < 106 + n) ↔ (106 ≤ k ∧ k < 106 + (n + 1)) by omega]
def putF (f : Nat → Int32) (V n : Nat) : Nat → Int32 := fun k => if 106 + 19 * V ≤ k ∧ k < 106 + 19 * V + n then f (k - (106 + 19 * V) + 7) else f k
theorem putF_0 (f : Nat → Int32) (V : Nat) : putF f V 0 = f := by funext k; simp [putF]; omega
theorem putF_lo (f : Nat → Int32) (V n : Nat) {k : Nat} (h : k < 106) : putF f V n k = f k := by
  simp only [putF, show ¬ (106 + 19 * V ≤ k ∧ k < 106 + 19 * V + n) by omega, if_false]
theorem putF_s (f : Nat → Int32) (V : Nat) {n : Nat} (hn : n < 19) : upd (putF f V n) (106 + 19 * V + n) (putF f V n (7 + n)) = putF f V (n + 1) := by
  rw [putF_lo _ _ _ (by omega)]
  funext k
  by_cases hk : k = 106 + 19 * V + n
  · subst hk
    simp [upd, putF]
    rw [Nat.add_comm]
  · simp only [upd, hk, if_false, putF, show (106 + 19 * V ≤ k ∧ k < 106 + 19 * V + n) ↔ (106 + 19 * V ≤ k ∧ k < 106 + 19 * V + (n + 1)) by omega]
def mSave (f : Nat → Int32) (U : Nat) : Nat → Int32 :=
  if U = 8 then upd (putF (upd (shF f 133) 6 7) 7 19) 6 8 else upd (putF f U 19) 6 (nI (U + 1))
theorem c_X6_save (d : Nat) {E : xE} {σ : xS} {U : Nat} (hU : σ.1 74 6 = nI U) (hU8 : U ≤ 8) : Ct E d yX6_save cX6_save 2 none [.ref (E.1 73)] σ none (xrow σ 74 (mSave (σ.1 74) U)) := by
  have loop2 : ∀ (f : Nat → Int32) (V : Nat) (x : Option Value), f 6 = nI V → V ≤ 7 → ∀ (n k : Nat), k + n = 19 → Ev E (rm d) RX6 cX6_save 2 (fun v t => v = none ∧ t = xrow σ 74 (upd (putF f V 19) 6 (nI (V + 1)))) 56 [some (.ref (E.1 73)), some (.int (nI k))] [] (xrow σ 74 (putF f V k)) := by
    intro f V x hV hV7 n
    induction n with
    | zero =>
      intro k hk
      refine ev_iload_1 dX6_save_56 ?_
      refine ev_bipush (19) dX6_save_57 rfl ?_
      refine ev_icmp_ge 97 dX6_save_59 rfl (fun h59 => ?_) (fun h59 => ?_)
      · refine ev_aload_0 dX6_save_97 ?_
        refine ev_get dX6_save_98 fk_X6_7 (by first | assumption | decide) (by decide) rfl ?_
        refine ev_bipush (6) dX6_save_101 rfl ?_
        refine ev_dup2 dX6_save_103 rfl rfl ?_
        refine ev_aldL (n := 6) dX6_save_104 (by first | assumption | decide) (by have := xls; omega) ?_
        refine Ev.pc 105 rfl ?_
        refine ev_iconst_1 dX6_save_105 ?_
        refine ev_iadd dX6_save_106 ?_
        refine ev_astL (n := 6) dX6_save_107 (by first | assumption | decide) (by have := xls; omega) ?_
        exact ev_return dX6_save_108 ⟨by rfl, by (simp only [xrow_at, xrow_row]; rw [putF_lo _ _ _ (by omega), hV, nI_1, show k = 19 by omega])⟩
      · exact absurd (show nI 19 ≤ nI k from nI_le (by omega) (by omega)) h59
    | succ n ih =>
      intro k hk
      refine ev_iload_1 dX6_save_56 ?_
      refine ev_bipush (19) dX6_save_57 rfl ?_
      refine ev_icmp_ge 97 dX6_save_59 rfl (fun h59 => ?_) (fun h59 => ?_)
      · exact absurd h59 (show ¬ nI 19 ≤ nI k from nI_ge (by omega) (by omega))
      · refine ev_aload_0 dX6_save_62 ?_
        refine ev_get dX6_save_63 fk_X6_7 (by first | assumption | decide) (by decide) rfl ?_
        refine ev_bipush (106) dX6_save_66 rfl ?_
        refine ev_bipush (19) dX6_save_68 rfl ?_
        refine ev_aload_0 dX6_save_70 ?_
        refine Ev.pc 71 rfl ?_
        refine ev_get dX6_save_71 fk_X6_7 (by first | assumption | decide) (by decide) rfl ?_
        refine ev_bipush (6) dX6_save_74 rfl ?_
        refine ev_aldL (n := 6) dX6_save_76 (by first | assumption | decide) (by have := xls; omega) ?_
        rw [xrow_at, putF_lo _ _ _ (by omega), hV]
        refine ev_imul dX6_save_77 ?_
        refine ev_iadd dX6_save_78 ?_
        refine Ev.pc 79 rfl ?_
        refine ev_iload_1 dX6_save_79 ?_
        refine ev_iadd dX6_save_80 ?_
        refine ev_aload_0 dX6_save_81 ?_
        refine ev_get dX6_save_82 fk_X6_7 (by first | assumption | decide) (by decide) rfl ?_
        refine ev_bipush (7) dX6_save_85 rfl ?_
        refine Ev.pc 87 rfl ?_
        refine ev_iload_1 dX6_save_87 ?_
        refine ev_iadd dX6_save_88 ?_
        refine ev_aldA (n := 7) dX6_save_89 (by first | assumption | decide) (by have := xls; omega) ?_
        refine ev_astN (k := 106 + 19 * V + k) dX6_save_90 (by first | assumption | decide) (by first | rfl | (simp only [fa_lit, nI_add, pk_mul]; done) | (simp only [fa_lit, nI_add, pk_mul]; congr 1; omega)) (by have := xls; omega) ?_
        refine ev_iinc_1 (1) dX6_save_91 rfl rfl ?_
        refine Ev.pc 94 rfl ?_
        refine ev_goto 56 dX6_save_94 rfl ?_
        simp only [xrow_at, xrow_row]
        rw [nI_1, putF_s _ _ (by omega)]
        exact ih (k + 1) (by omega)
  have loop1 : ∀ (f : Nat → Int32) (n k : Nat), k + n = 133 → Ev E (rm d) RX6 cX6_save 2 (fun v t => v = none ∧ t = xrow σ 74 (upd (putF (upd (shF f 133) 6 7) 7 19) 6 8)) 14 [some (.ref (E.1 73)), some (.int (nI k))] [] (xrow σ 74 (shF f k)) := by
    intro f n
    induction n with
    | zero =>
      intro k hk
      refine ev_iload_1 dX6_save_14 ?_
      refine ev_sipush (133) dX6_save_15 rfl ?_
      refine ev_icmp_ge 45 dX6_save_18 rfl (fun h18 => ?_) (fun h18 => ?_)
      · refine ev_aload_0 dX6_save_45 ?_
        refine ev_get dX6_save_46 fk_X6_7 (by first | assumption | decide) (by decide) rfl ?_
        refine ev_bipush (6) dX6_save_49 rfl ?_
        refine ev_bipush (7) dX6_save_51 rfl ?_
        refine ev_astL (n := 6) dX6_save_53 (by first | assumption | decide) (by have := xls; omega) ?_
        refine Ev.pc 54 rfl ?_
        refine ev_iconst_0 dX6_save_54 ?_
        refine ev_istore_1 dX6_save_55 rfl ?_
        simp only [xrow_at, xrow_row]
        rw [show k = 133 by omega]
        have h := loop2 (upd (shF f 133) 6 7) 7 none (by rw [upd_at]; rfl) (by omega) 19 0 (by omega)
        rw [putF_0] at h
        exact h
      · exact absurd (show nI 133 ≤ nI k from nI_le (by omega) (by omega)) h18
    | succ n ih =>
      intro k hk
      refine ev_iload_1 dX6_save_14 ?_
      refine ev_sipush (133) dX6_save_15 rfl ?_
      refine ev_icmp_ge 45 dX6_save_18 rfl (fun h18 => ?_) (fun h18 => ?_)
      · exact absurd h18 (show ¬ nI 133 ≤ nI k from nI_ge (by omega) (by omega))
      · refine ev_aload_0 dX6_save_21 ?_
        refine ev_get dX6_save_22 fk_X6_7 (by first | assumption | decide) (by decide) rfl ?_
        refine ev_bipush (106) dX6_save_25 rfl ?_
        refine ev_iload_1 dX6_save_27 ?_
        refine ev_iadd dX6_save_28 ?_
        refine Ev.pc 29 rfl ?_
        refine ev_aload_0 dX6_save_29 ?_
        refine ev_get dX6_save_30 fk_X6_7 (by first | assumption | decide) (by decide) rfl ?_
        refine ev_bipush (125) dX6_save_33 rfl ?_
        refine ev_iload_1 dX6_save_35 ?_
        refine ev_iadd dX6_save_36 ?_
        refine Ev.pc 37 rfl ?_
        refine ev_aldA (n := 125) dX6_save_37 (by first | assumption | decide) (by have := xls; omega) ?_
        refine ev_astA (n := 106) dX6_save_38 (by first | assumption | decide) (by have := xls; omega) ?_
        refine ev_iinc_1 (1) dX6_save_39 rfl rfl ?_
        refine ev_goto 14 dX6_save_42 rfl ?_
        simp only [xrow_at, xrow_row]
        rw [nI_1, shF_s]
        exact ih (k + 1) (by omega)
  by_cases q7 : U = 8
  · rw [mSave, if_pos q7]
    refine Ct.of (by decide +kernel) (Nat.le_of_ble_eq_true rfl) rfl ?_
    show Ev E _ RX6 cX6_save 2 _ 0 [some (.ref (E.1 73)), none] [] _
    refine ev_aload_0 dX6_save_0 ?_
    refine ev_get dX6_save_1 fk_X6_7 (by first | assumption | decide) (by decide) rfl ?_
    refine ev_bipush (6) dX6_save_4 rfl ?_
    refine ev_aldL (n := 6) dX6_save_6 (by first | assumption | decide) (by have := xls; omega) ?_
    refine ev_bipush (8) dX6_save_7 rfl ?_
    refine Ev.pc 9 rfl ?_
    refine ev_icmp_ne 54 dX6_save_9 rfl (fun h9 => ?_) (fun h9 => ?_)
    · exact absurd (show σ.1 74 6 = 8 by rw [hU, q7]; rfl) h9
    · refine ev_iconst_0 dX6_save_12 ?_
      refine ev_istore_1 dX6_save_13 rfl ?_
      have h := loop1 (σ.1 74) 133 0 (by omega)
      rw [shF_0, xrow_id] at h
      exact h
  · rw [mSave, if_neg q7]
    refine Ct.of (by decide +kernel) (Nat.le_of_ble_eq_true rfl) rfl ?_
    show Ev E _ RX6 cX6_save 2 _ 0 [some (.ref (E.1 73)), none] [] _
    refine ev_aload_0 dX6_save_0 ?_
    refine ev_get dX6_save_1 fk_X6_7 (by first | assumption | decide) (by decide) rfl ?_
    refine ev_bipush (6) dX6_save_4 rfl ?_
    refine ev_aldL (n := 6) dX6_save_6 (by first | assumption | decide) (by have := xls; omega) ?_
    refine ev_bipush (8) dX6_save_7 rfl ?_
    refine Ev.pc 9 rfl ?_
    refine ev_icmp_ne 54 dX6_save_9 rfl (fun h9 => ?_) (fun h9 => ?_)
    · refine ev_iconst_0 dX6_save_54 ?_
      refine ev_istore_1 dX6_save_55 rfl ?_
      have h := loop2 (σ.1 74) U none hU (by omega) 19 0 (by omega)
      rw [putF_0, xrow_id] at h
      exact h
    · exact absurd ((nI_eq (a := U) (b := 8) (by omega) (by omega)).mp (by rw [← hU]; exact h9)) q7
theorem ageF_25 (f : Nat → Int32) {n : Nat} (h : n ≤ 7) : ageF f n 25 = f 25 := ageF_hi f (by omega)
theorem mDays_ne (P : Nat) : ∀ (n : Nat) (f : Nat → Int32) {k : Nat}, (k < 14 ∨ 14 + P ≤ k) → k ≠ 25 → mDays P n f k = f k
  | 0, f, k, _, _ => rfl
  | n + 1, f, k, h, h2 => by
    rw [mDays]
    split
    · rw [mDays_ne P n _ h h2, mDay_ne f P h h2]
    · rfl
theorem mSave_lo (f : Nat → Int32) (U : Nat) {k : Nat} (h : k < 106) (h6 : k ≠ 6) : mSave f U k = f k := by
  rw [mSave]
  split
  · rw [upd_ne _ _ h6, putF_lo _ _ _ h, upd_ne _ _ h6]
    simp only [shF, show ¬ (106 ≤ k ∧ k < 106 + 133) by omega, if_false]
  · rw [upd_ne _ _ h6, putF_lo _ _ _ h]
def mDaysQ (σ : xS) (P U : Nat) (n : Int32) : Int32 × xS :=
  if btw n 1 99 then (mDays P n.toNatClampNeg (mSave (σ.1 74) U) 25, xrow σ 74 (mDays P n.toNatClampNeg (mSave (σ.1 74) U))) else (-2, mBad σ)
theorem c_X6_days (d : Nat) {E : xE} {σ : xS} {P U : Nat} {n : Int32} (hP : σ.1 74 0 = nI P) (hP7 : P ≤ 7) (hU : σ.1 74 6 = nI U) (hU8 : U ≤ 8) : Ct E (d + 3) yX6_days cX6_days 2 (some .int) [.ref (E.1 73), .int n] σ (some (.int (mDaysQ σ P U n).1)) (mDaysQ σ P U n).2 := by
  by_cases q7 : btw n 1 99
  · obtain ⟨N, hN1, hN⟩ : ∃ N : Nat, N < 1000 ∧ n = nI N := by
      obtain ⟨N, h1, h2⟩ := nI_of2 (x := n) (M := 99) (n := 99) (by decide) (by rw [i_nlt]; exact Int32.le_trans (by decide) q7.1) q7.2
      exact ⟨N, by omega, h2⟩
    rw [mDaysQ, if_pos q7, hN, nI_clamp (by omega)]
    rw [hN] at q7
    refine Ct.of (by decide +kernel) (Nat.le_of_ble_eq_true rfl) ⟨_, rfl, rfl⟩ ?_
    show Ev E _ RX6 cX6_days 2 _ 0 [some (.ref (E.1 73)), some (.int (nI N))] [] _
    refine ev_iload_1 dX6_days_0 ?_
    refine ev_i2l dX6_days_1 ?_
    refine ev_lconst_1 dX6_days_2 ?_
    refine ev_ldc2_w dX6_days_3 cn_X6_102 ?_
    refine ev_invS dX6_days_6 ml_X6_56 mt_X6_in (c_X6_in d (v := nI N) (lo := 1) (hi := 99) (by first | rfl | decide) (by first | rfl | decide) (by first | rfl | decide)) rfl rfl (rm_ok (by omega)) (Nat.le_of_ble_eq_true rfl) ?_
    refine Ev.pc 9 rfl ?_
    refine ev_if_ne 19 dX6_days_9 rfl (fun h9 => ?_) (fun h9 => ?_)
    · refine ev_aload_0 dX6_days_19 ?_
      refine ev_invV (ci := 6) dX6_days_20 ml_X6_104 mt_X6_save (c_X6_save (d + 2) hU hU8) (by first | assumption | decide) (by decide) rfl rfl rfl (rm_ok (by omega)) (Nat.le_of_ble_eq_true rfl) ?_
      refine Ev.pc 23 rfl ?_
      refine ev_aload_0 dX6_days_23 ?_
      refine ev_get dX6_days_24 fk_X6_7 (by first | assumption | decide) (by decide) rfl ?_
      refine ev_iload_1 dX6_days_27 ?_
      refine Ev.pc 28 rfl ?_
      refine ev_invS dX6_days_28 ml_X6_107 mt_X6_goDays (c_X6_goDays d (r := 74) (by decide) (by have := xls; omega) (by rw [mSave_lo _ _ (by omega) (by omega)]; exact hP) hP7 hN1) rfl rfl (rm_ok (by omega)) (Nat.le_of_ble_eq_true rfl) ?_
      refine Ev.pc 31 rfl ?_
      refine ev_aload_0 dX6_days_31 ?_
      refine ev_get dX6_days_32 fk_X6_7 (by first | assumption | decide) (by decide) rfl ?_
      refine ev_bipush (25) dX6_days_35 rfl ?_
      refine ev_aldL (n := 25) dX6_days_37 (by first | assumption | decide) (by have := xls; omega) ?_
      refine Ev.pc 38 rfl ?_
      exact ev_ireturn dX6_days_38 ⟨by rfl, by rfl⟩
    · exact absurd q7 (b2i_0.mp h9)
  · rw [mDaysQ, if_neg q7]
    refine Ct.of (by decide +kernel) (Nat.le_of_ble_eq_true rfl) ⟨_, rfl, rfl⟩ ?_
    show Ev E _ RX6 cX6_days 2 _ 0 [some (.ref (E.1 73)), some (.int n)] [] _
    refine ev_iload_1 dX6_days_0 ?_
    refine ev_i2l dX6_days_1 ?_
    refine ev_lconst_1 dX6_days_2 ?_
    refine ev_ldc2_w dX6_days_3 cn_X6_102 ?_
    refine ev_invS dX6_days_6 ml_X6_56 mt_X6_in (c_X6_in d (v := n) (lo := 1) (hi := 99) (by first | rfl | decide) (by first | rfl | decide) (by first | rfl | decide)) rfl rfl (rm_ok (by omega)) (Nat.le_of_ble_eq_true rfl) ?_
    refine Ev.pc 9 rfl ?_
    refine ev_if_ne 19 dX6_days_9 rfl (fun h9 => ?_) (fun h9 => ?_)
    · exact absurd (b2i_n0.mp h9) q7
    · refine ev_aload_0 dX6_days_12 ?_
      refine ev_bipush (-2) dX6_days_13 rfl ?_
      refine ev_invV (ci := 6) dX6_days_15 ml_X6_71 mt_X6_bad (c_X6_bad d) (by first | assumption | decide) (by decide) rfl rfl rfl (rm_ok (by omega)) (Nat.le_of_ble_eq_true rfl) ?_
      refine Ev.pc 18 rfl ?_
      exact ev_ireturn dX6_days_18 ⟨by rfl, by rfl⟩
abbrev mayF (f : Nat → Int32) (b p : Nat) : Prop := f (7 + p) = 0 ∧ priceF f p ≤ f (21 + b)
theorem c_X6_mayBuy (d : Nat) {E : xE} {σ : xS} {r b p : Nat} (hr : r < xN ∧ xcls r = 7) (hl : 48 ≤ xlen r) (hb : b < 3) (hp : p < 7) : Ct E (d + 3) yX6_mayBuy cX6_mayBuy 3 (some .boolean) [.ref (E.1 r), .int (nI b), .int (nI p)] σ (some (.int (b2i (mayF (σ.1 r) b p)))) σ := by
  refine Ct.of (by decide +kernel) (Nat.le_of_ble_eq_true rfl) ⟨_, rfl, nb_b2i _⟩ ?_
  show Ev E _ RX6 cX6_mayBuy 3 _ 0 [some (.ref (E.1 r)), some (.int (nI b)), some (.int (nI p))] [] _
  refine ev_aload_0 dX6_mayBuy_0 ?_
  refine ev_iload_2 dX6_mayBuy_1 ?_
  refine ev_invS dX6_mayBuy_2 ml_X6_95 mt_X6_isShown (c_X6_isShown d (by first | assumption | decide) (by have := xls; omega) (by omega)) rfl rfl (rm_ok (by omega)) (Nat.le_of_ble_eq_true rfl) ?_
  refine Ev.pc 5 rfl ?_
  refine ev_if_eq 26 dX6_mayBuy_5 rfl (fun h5 => ?_) (fun h5 => ?_)
  · refine ev_iconst_0 dX6_mayBuy_26 ?_
    exact ev_ireturn dX6_mayBuy_27 ⟨by (first | exact congrArg (fun z => some (Value.int z)) (b2i_t ⟨b2i_n0.mp h5, i_nlt.mp h19⟩) | exact congrArg (fun z => some (Value.int z)) (b2i_f (fun h => absurd h.1 (b2i_0.mp h5))) | exact congrArg (fun z => some (Value.int z)) (b2i_f (fun h => absurd h.2 (i_nle.mpr h19)))), by rfl⟩
  · refine ev_aload_0 dX6_mayBuy_8 ?_
    refine ev_bipush (21) dX6_mayBuy_9 rfl ?_
    refine ev_iload_1 dX6_mayBuy_11 ?_
    refine ev_iadd dX6_mayBuy_12 ?_
    refine ev_aldA (n := 21) dX6_mayBuy_13 (by first | assumption | decide) (by have := xls; omega) ?_
    refine Ev.pc 14 rfl ?_
    refine ev_aload_0 dX6_mayBuy_14 ?_
    refine ev_iload_2 dX6_mayBuy_15 ?_
    refine ev_invS dX6_mayBuy_16 ml_X6_111 mt_X6_priceOf (c_X6_priceOf d (by first | assumption | decide) (by have := xls; omega) (by omega)) rfl rfl (rm_ok (by omega)) (Nat.le_of_ble_eq_true rfl) ?_
    refine Ev.pc 19 rfl ?_
    refine ev_icmp_lt 26 dX6_mayBuy_19 rfl (fun h19 => ?_) (fun h19 => ?_)
    · refine ev_iconst_0 dX6_mayBuy_26 ?_
      exact ev_ireturn dX6_mayBuy_27 ⟨by (first | exact congrArg (fun z => some (Value.int z)) (b2i_t ⟨b2i_n0.mp h5, i_nlt.mp h19⟩) | exact congrArg (fun z => some (Value.int z)) (b2i_f (fun h => absurd h.1 (b2i_0.mp h5))) | exact congrArg (fun z => some (Value.int z)) (b2i_f (fun h => absurd h.2 (i_nle.mpr h19)))), by rfl⟩
    · refine ev_iconst_1 dX6_mayBuy_22 ?_
      refine ev_goto 27 dX6_mayBuy_23 rfl ?_
      exact ev_ireturn dX6_mayBuy_27 ⟨by (first | exact congrArg (fun z => some (Value.int z)) (b2i_t ⟨b2i_n0.mp h5, i_nlt.mp h19⟩) | exact congrArg (fun z => some (Value.int z)) (b2i_f (fun h => absurd h.1 (b2i_0.mp h5))) | exact congrArg (fun z => some (Value.int z)) (b2i_f (fun h => absurd h.2 (i_nle.mpr h19)))), by rfl⟩
def mGoBuy (f : Nat → Int32) (b p : Nat) : Nat → Int32 := upd (upd f (21 + b) (f (21 + b) - priceF f p)) (7 + p) (nI (1 + b))
theorem c_X6_goBuy (d : Nat) {E : xE} {σ : xS} {r b p : Nat} (hr : r < xN ∧ xcls r = 7) (hl : 48 ≤ xlen r) (hb : b < 3) (hp : p < 7) : Ct E (d + 3) yX6_goBuy cX6_goBuy 3 none [.ref (E.1 r), .int (nI b), .int (nI p)] σ none (xrow σ r (mGoBuy (σ.1 r) b p)) := by
  refine Ct.of (by decide +kernel) (Nat.le_of_ble_eq_true rfl) rfl ?_
  show Ev E _ RX6 cX6_goBuy 3 _ 0 [some (.ref (E.1 r)), some (.int (nI b)), some (.int (nI p))] [] _
  refine ev_aload_0 dX6_goBuy_0 ?_
  refine ev_bipush (21) dX6_goBuy_1 rfl ?_
  refine ev_iload_1 dX6_goBuy_3 ?_
  refine ev_iadd dX6_goBuy_4 ?_
  refine ev_dup2 dX6_goBuy_5 rfl rfl ?_
  refine Ev.pc 6 rfl ?_
  refine ev_aldA (n := 21) dX6_goBuy_6 (by first | assumption | decide) (by have := xls; omega) ?_
  refine ev_aload_0 dX6_goBuy_7 ?_
  refine ev_iload_2 dX6_goBuy_8 ?_
  refine ev_invS dX6_goBuy_9 ml_X6_111 mt_X6_priceOf (c_X6_priceOf d (by first | assumption | decide) (by have := xls; omega) (by omega)) rfl rfl (rm_ok (by omega)) (Nat.le_of_ble_eq_true rfl) ?_
  refine Ev.pc 12 rfl ?_
  refine ev_isub dX6_goBuy_12 ?_
  refine Ev.pc 13 rfl ?_
  refine ev_astN (k := 21 + b) dX6_goBuy_13 (by first | assumption | decide) (by first | rfl | (simp only [fa_lit, nI_add, pk_mul]; done) | (simp only [fa_lit, nI_add, pk_mul]; congr 1; omega)) (by have := xls; omega) ?_
  refine ev_aload_0 dX6_goBuy_14 ?_
  refine ev_bipush (7) dX6_goBuy_15 rfl ?_
  refine ev_iload_2 dX6_goBuy_17 ?_
  refine ev_iadd dX6_goBuy_18 ?_
  refine Ev.pc 19 rfl ?_
  refine ev_iconst_1 dX6_goBuy_19 ?_
  refine ev_iload_1 dX6_goBuy_20 ?_
  refine ev_iadd dX6_goBuy_21 ?_
  refine ev_astA (n := 7) dX6_goBuy_22 (by first | assumption | decide) (by have := xls; omega) ?_
  exact ev_return dX6_goBuy_23 ⟨by rfl, by (simp only [xrow_at, xrow_row]; rw [show (1 : Int32) = nI 1 from rfl, nI_add]; rfl)⟩
def mGoKeep (f : Nat → Int32) (p h : Nat) : Nat → Int32 := upd (upd f 24 (f 24 + joyF f p h)) (7 + p) (nI (10 + h))
theorem c_X6_goKeep (d : Nat) {E : xE} {σ : xS} {r p h : Nat} (hr : r < xN ∧ xcls r = 7) (hl : 48 ≤ xlen r) (hp : p < 7) (hh : h < 4) : Ct E (d + 3) yX6_goKeep cX6_goKeep 3 none [.ref (E.1 r), .int (nI p), .int (nI h)] σ none (xrow σ r (mGoKeep (σ.1 r) p h)) := by
  refine Ct.of (by decide +kernel) (Nat.le_of_ble_eq_true rfl) rfl ?_
  show Ev E _ RX6 cX6_goKeep 3 _ 0 [some (.ref (E.1 r)), some (.int (nI p)), some (.int (nI h))] [] _
  refine ev_aload_0 dX6_goKeep_0 ?_
  refine ev_bipush (24) dX6_goKeep_1 rfl ?_
  refine ev_dup2 dX6_goKeep_3 rfl rfl ?_
  refine ev_aldL (n := 24) dX6_goKeep_4 (by first | assumption | decide) (by have := xls; omega) ?_
  refine ev_aload_0 dX6_goKeep_5 ?_
  refine Ev.pc 6 rfl ?_
  refine ev_iload_1 dX6_goKeep_6 ?_
  refine ev_iload_2 dX6_goKeep_7 ?_
  refine ev_invS dX6_goKeep_8 ml_X6_114 mt_X6_joyOf (c_X6_joyOf d (by first | assumption | decide) (by have := xls; omega) (by omega) (by omega)) rfl rfl (rm_ok (by omega)) (Nat.le_of_ble_eq_true rfl) ?_
  refine Ev.pc 11 rfl ?_
  refine ev_iadd dX6_goKeep_11 ?_
  refine ev_astN (k := 24) dX6_goKeep_12 (by first | assumption | decide) (by first | rfl | (simp only [fa_lit, nI_add, pk_mul]; done) | (simp only [fa_lit, nI_add, pk_mul]; congr 1; omega)) (by have := xls; omega) ?_
  refine Ev.pc 13 rfl ?_
  refine ev_aload_0 dX6_goKeep_13 ?_
  refine ev_bipush (7) dX6_goKeep_14 rfl ?_
  refine ev_iload_1 dX6_goKeep_16 ?_
  refine ev_iadd dX6_goKeep_17 ?_
  refine ev_bipush (10) dX6_goKeep_18 rfl ?_
  refine Ev.pc 20 rfl ?_
  refine ev_iload_2 dX6_goKeep_20 ?_
  refine ev_iadd dX6_goKeep_21 ?_
  refine ev_astA (n := 7) dX6_goKeep_22 (by first | assumption | decide) (by have := xls; omega) ?_
  exact ev_return dX6_goKeep_23 ⟨by rfl, by (simp only [xrow_at, xrow_row]; rw [show (10 : Int32) = nI 10 from rfl, nI_add]; rfl)⟩
def mBuys (σ : xS) (P B U b p : Nat) : Int32 × xS :=
  if mayF (σ.1 74) b p then (mGoBuy (mSave (σ.1 74) U) b p (21 + b), xrow σ 74 (mGoBuy (mSave (σ.1 74) U) b p)) else (-3, mNo σ)
theorem c_X6_buys_bad (d : Nat) {E : xE} {σ : xS} {b p : Int32} (q7 : ¬ (hasIn (σ.1 74 2) b ∧ hasIn (σ.1 74 0) p)) : Ct E (d + 4) yX6_buys cX6_buys 3 (some .int) [.ref (E.1 73), .int b, .int p] σ (some (.int (-2))) (mBad σ) := by
  refine Ct.of (by decide +kernel) (Nat.le_of_ble_eq_true rfl) ⟨_, rfl, rfl⟩ ?_
  show Ev E _ RX6 cX6_buys 3 _ 0 [some (.ref (E.1 73)), some (.int b), some (.int p)] [] _
  refine ev_aload_0 dX6_buys_0 ?_
  refine ev_iload_1 dX6_buys_1 ?_
  refine ev_invV (ci := 6) dX6_buys_2 ml_X6_118 mt_X6_isBuyer (c_X6_isBuyer d) (by first | assumption | decide) (by decide) rfl rfl rfl (rm_ok (by omega)) (Nat.le_of_ble_eq_true rfl) ?_
  refine Ev.pc 5 rfl ?_
  refine ev_if_eq 16 dX6_buys_5 rfl (fun h5 => ?_) (fun h5 => ?_)
  · refine ev_aload_0 dX6_buys_16 ?_
    refine ev_bipush (-2) dX6_buys_17 rfl ?_
    refine ev_invV (ci := 6) dX6_buys_19 ml_X6_71 mt_X6_bad (c_X6_bad d) (by first | assumption | decide) (by decide) rfl rfl rfl (rm_ok (by omega)) (Nat.le_of_ble_eq_true rfl) ?_
    refine Ev.pc 22 rfl ?_
    exact ev_ireturn dX6_buys_22 ⟨by rfl, by rfl⟩
  · refine ev_aload_0 dX6_buys_8 ?_
    refine ev_iload_2 dX6_buys_9 ?_
    refine ev_invV (ci := 6) dX6_buys_10 ml_X6_121 mt_X6_isPromise (c_X6_isPromise d) (by first | assumption | decide) (by decide) rfl rfl rfl (rm_ok (by omega)) (Nat.le_of_ble_eq_true rfl) ?_
    refine Ev.pc 13 rfl ?_
    refine ev_if_ne 23 dX6_buys_13 rfl (fun h13 => ?_) (fun h13 => ?_)
    · exact absurd ⟨b2i_n0.mp h5, b2i_n0.mp h13⟩ q7
    · refine ev_aload_0 dX6_buys_16 ?_
      refine ev_bipush (-2) dX6_buys_17 rfl ?_
      refine ev_invV (ci := 6) dX6_buys_19 ml_X6_71 mt_X6_bad (c_X6_bad d) (by first | assumption | decide) (by decide) rfl rfl rfl (rm_ok (by omega)) (Nat.le_of_ble_eq_true rfl) ?_
      refine Ev.pc 22 rfl ?_
      exact ev_ireturn dX6_buys_22 ⟨by rfl, by rfl⟩
theorem c_X6_buys (d : Nat) {E : xE} {σ : xS} {P B U b p : Nat} (hP : σ.1 74 0 = nI P) (hP7 : P ≤ 7) (hB : σ.1 74 2 = nI B) (hB3 : B ≤ 3) (hU : σ.1 74 6 = nI U) (hU8 : U ≤ 8) (hb : b < B) (hp : p < P) : Ct E (d + 4) yX6_buys cX6_buys 3 (some .int) [.ref (E.1 73), .int (nI b), .int (nI p)] σ (some (.int (mBuys σ P B U b p).1)) (mBuys σ P B U b p).2 := by
  have e1 : hasIn (σ.1 74 2) (nI b) := by rw [hB]; exact hasIn_of (by omega) hb
  have e2 : hasIn (σ.1 74 0) (nI p) := by rw [hP]; exact hasIn_of (by omega) hp
  by_cases q7 : mayF (σ.1 74) b p
  · rw [mBuys, if_pos q7]
    refine Ct.of (by decide +kernel) (Nat.le_of_ble_eq_true rfl) ⟨_, rfl, rfl⟩ ?_
    show Ev E _ RX6 cX6_buys 3 _ 0 [some (.ref (E.1 73)), some (.int (nI b)), some (.int (nI p))] [] _
    refine ev_aload_0 dX6_buys_0 ?_
    refine ev_iload_1 dX6_buys_1 ?_
    refine ev_invV (ci := 6) dX6_buys_2 ml_X6_118 mt_X6_isBuyer (c_X6_isBuyer d) (by first | assumption | decide) (by decide) rfl rfl rfl (rm_ok (by omega)) (Nat.le_of_ble_eq_true rfl) ?_
    refine Ev.pc 5 rfl ?_
    refine ev_if_eq 16 dX6_buys_5 rfl (fun h5 => ?_) (fun h5 => ?_)
    · exact absurd e1 (b2i_0.mp h5)
    · refine ev_aload_0 dX6_buys_8 ?_
      refine ev_iload_2 dX6_buys_9 ?_
      refine ev_invV (ci := 6) dX6_buys_10 ml_X6_121 mt_X6_isPromise (c_X6_isPromise d) (by first | assumption | decide) (by decide) rfl rfl rfl (rm_ok (by omega)) (Nat.le_of_ble_eq_true rfl) ?_
      refine Ev.pc 13 rfl ?_
      refine ev_if_ne 23 dX6_buys_13 rfl (fun h13 => ?_) (fun h13 => ?_)
      · refine ev_aload_0 dX6_buys_23 ?_
        refine ev_get dX6_buys_24 fk_X6_7 (by first | assumption | decide) (by decide) rfl ?_
        refine ev_iload_1 dX6_buys_27 ?_
        refine ev_iload_2 dX6_buys_28 ?_
        refine ev_invS dX6_buys_29 ml_X6_124 mt_X6_mayBuy (c_X6_mayBuy d (by first | assumption | decide) (by have := xls; omega) (by omega) (by omega)) rfl rfl (rm_ok (by omega)) (Nat.le_of_ble_eq_true rfl) ?_
        refine Ev.pc 32 rfl ?_
        refine ev_if_ne 40 dX6_buys_32 rfl (fun h32 => ?_) (fun h32 => ?_)
        · refine ev_aload_0 dX6_buys_40 ?_
          refine ev_invV (ci := 6) dX6_buys_41 ml_X6_104 mt_X6_save (c_X6_save (d + 3) hU hU8) (by first | assumption | decide) (by decide) rfl rfl rfl (rm_ok (by omega)) (Nat.le_of_ble_eq_true rfl) ?_
          refine Ev.pc 44 rfl ?_
          refine ev_aload_0 dX6_buys_44 ?_
          refine ev_get dX6_buys_45 fk_X6_7 (by first | assumption | decide) (by decide) rfl ?_
          refine ev_iload_1 dX6_buys_48 ?_
          refine Ev.pc 49 rfl ?_
          refine ev_iload_2 dX6_buys_49 ?_
          refine ev_invS dX6_buys_50 ml_X6_131 mt_X6_goBuy (c_X6_goBuy d (by first | assumption | decide) (by have := xls; omega) (by omega) (by omega)) rfl rfl (rm_ok (by omega)) (Nat.le_of_ble_eq_true rfl) ?_
          refine Ev.pc 53 rfl ?_
          refine ev_aload_0 dX6_buys_53 ?_
          refine ev_get dX6_buys_54 fk_X6_7 (by first | assumption | decide) (by decide) rfl ?_
          refine ev_bipush (21) dX6_buys_57 rfl ?_
          refine Ev.pc 59 rfl ?_
          refine ev_iload_1 dX6_buys_59 ?_
          refine ev_iadd dX6_buys_60 ?_
          refine ev_aldA (n := 21) dX6_buys_61 (by first | assumption | decide) (by have := xls; omega) ?_
          exact ev_ireturn dX6_buys_62 ⟨by (simp only [xrow_at, xrow_row]), by (simp only [xrow_at, xrow_row])⟩
        · exact absurd q7 (b2i_0.mp h32)
      · exact absurd e2 (b2i_0.mp h13)
  · rw [mBuys, if_neg q7]
    refine Ct.of (by decide +kernel) (Nat.le_of_ble_eq_true rfl) ⟨_, rfl, rfl⟩ ?_
    show Ev E _ RX6 cX6_buys 3 _ 0 [some (.ref (E.1 73)), some (.int (nI b)), some (.int (nI p))] [] _
    refine ev_aload_0 dX6_buys_0 ?_
    refine ev_iload_1 dX6_buys_1 ?_
    refine ev_invV (ci := 6) dX6_buys_2 ml_X6_118 mt_X6_isBuyer (c_X6_isBuyer d) (by first | assumption | decide) (by decide) rfl rfl rfl (rm_ok (by omega)) (Nat.le_of_ble_eq_true rfl) ?_
    refine Ev.pc 5 rfl ?_
    refine ev_if_eq 16 dX6_buys_5 rfl (fun h5 => ?_) (fun h5 => ?_)
    · exact absurd e1 (b2i_0.mp h5)
    · refine ev_aload_0 dX6_buys_8 ?_
      refine ev_iload_2 dX6_buys_9 ?_
      refine ev_invV (ci := 6) dX6_buys_10 ml_X6_121 mt_X6_isPromise (c_X6_isPromise d) (by first | assumption | decide) (by decide) rfl rfl rfl (rm_ok (by omega)) (Nat.le_of_ble_eq_true rfl) ?_
      refine Ev.pc 13 rfl ?_
      refine ev_if_ne 23 dX6_buys_13 rfl (fun h13 => ?_) (fun h13 => ?_)
      · refine ev_aload_0 dX6_buys_23 ?_
        refine ev_get dX6_buys_24 fk_X6_7 (by first | assumption | decide) (by decide) rfl ?_
        refine ev_iload_1 dX6_buys_27 ?_
        refine ev_iload_2 dX6_buys_28 ?_
        refine ev_invS dX6_buys_29 ml_X6_124 mt_X6_mayBuy (c_X6_mayBuy d (by first | assumption | decide) (by have := xls; omega) (by omega) (by omega)) rfl rfl (rm_ok (by omega)) (Nat.le_of_ble_eq_true rfl) ?_
        refine Ev.pc 32 rfl ?_
        refine ev_if_ne 40 dX6_buys_32 rfl (fun h32 => ?_) (fun h32 => ?_)
        · exact absurd (b2i_n0.mp h32) q7
        · refine ev_aload_0 dX6_buys_35 ?_
          refine ev_invV (ci := 6) dX6_buys_36 ml_X6_128 mt_X6_no (c_X6_no d) (by first | assumption | decide) (by decide) rfl rfl rfl (rm_ok (by omega)) (Nat.le_of_ble_eq_true rfl) ?_
          refine Ev.pc 39 rfl ?_
          exact ev_ireturn dX6_buys_39 ⟨by rfl, by rfl⟩
      · exact absurd e2 (b2i_0.mp h13)
def mKeeps (σ : xS) (P H U p h : Nat) : Int32 × xS :=
  if heldF (σ.1 74) p then (joyF (mGoKeep (mSave (σ.1 74) U) p h) p h, xrow σ 74 (mGoKeep (mSave (σ.1 74) U) p h)) else (-3, mNo σ)
theorem c_X6_keeps_bad (d : Nat) {E : xE} {σ : xS} {p h : Int32} (q7 : ¬ (hasIn (σ.1 74 0) p ∧ hasIn (σ.1 74 1) h)) : Ct E (d + 4) yX6_keeps cX6_keeps 3 (some .int) [.ref (E.1 73), .int p, .int h] σ (some (.int (-2))) (mBad σ) := by
  refine Ct.of (by decide +kernel) (Nat.le_of_ble_eq_true rfl) ⟨_, rfl, rfl⟩ ?_
  show Ev E _ RX6 cX6_keeps 3 _ 0 [some (.ref (E.1 73)), some (.int p), some (.int h)] [] _
  refine ev_aload_0 dX6_keeps_0 ?_
  refine ev_iload_1 dX6_keeps_1 ?_
  refine ev_invV (ci := 6) dX6_keeps_2 ml_X6_121 mt_X6_isPromise (c_X6_isPromise d) (by first | assumption | decide) (by decide) rfl rfl rfl (rm_ok (by omega)) (Nat.le_of_ble_eq_true rfl) ?_
  refine Ev.pc 5 rfl ?_
  refine ev_if_eq 16 dX6_keeps_5 rfl (fun h5 => ?_) (fun h5 => ?_)
  · refine ev_aload_0 dX6_keeps_16 ?_
    refine ev_bipush (-2) dX6_keeps_17 rfl ?_
    refine ev_invV (ci := 6) dX6_keeps_19 ml_X6_71 mt_X6_bad (c_X6_bad d) (by first | assumption | decide) (by decide) rfl rfl rfl (rm_ok (by omega)) (Nat.le_of_ble_eq_true rfl) ?_
    refine Ev.pc 22 rfl ?_
    exact ev_ireturn dX6_keeps_22 ⟨by rfl, by rfl⟩
  · refine ev_aload_0 dX6_keeps_8 ?_
    refine ev_iload_2 dX6_keeps_9 ?_
    refine ev_invV (ci := 6) dX6_keeps_10 ml_X6_134 mt_X6_isHearer (c_X6_isHearer d) (by first | assumption | decide) (by decide) rfl rfl rfl (rm_ok (by omega)) (Nat.le_of_ble_eq_true rfl) ?_
    refine Ev.pc 13 rfl ?_
    refine ev_if_ne 23 dX6_keeps_13 rfl (fun h13 => ?_) (fun h13 => ?_)
    · exact absurd ⟨b2i_n0.mp h5, b2i_n0.mp h13⟩ q7
    · refine ev_aload_0 dX6_keeps_16 ?_
      refine ev_bipush (-2) dX6_keeps_17 rfl ?_
      refine ev_invV (ci := 6) dX6_keeps_19 ml_X6_71 mt_X6_bad (c_X6_bad d) (by first | assumption | decide) (by decide) rfl rfl rfl (rm_ok (by omega)) (Nat.le_of_ble_eq_true rfl) ?_
      refine Ev.pc 22 rfl ?_
      exact ev_ireturn dX6_keeps_22 ⟨by rfl, by rfl⟩
theorem c_X6_keeps (d : Nat) {E : xE} {σ : xS} {P H U p h : Nat} (hP : σ.1 74 0 = nI P) (hP7 : P ≤ 7) (hH : σ.1 74 1 = nI H) (hH4 : H ≤ 4) (hU : σ.1 74 6 = nI U) (hU8 : U ≤ 8) (hp : p < P) (hh : h < H) : Ct E (d + 4) yX6_keeps cX6_keeps 3 (some .int) [.ref (E.1 73), .int (nI p), .int (nI h)] σ (some (.int (mKeeps σ P H U p h).1)) (mKeeps σ P H U p h).2 := by
  have e1 : hasIn (σ.1 74 1) (nI h) := by rw [hH]; exact hasIn_of (by omega) hh
  have e2 : hasIn (σ.1 74 0) (nI p) := by rw [hP]; exact hasIn_of (by omega) hp
  by_cases q7 : heldF (σ.1 74) p
  · rw [mKeeps, if_pos q7]
    refine Ct.of (by decide +kernel) (Nat.le_of_ble_eq_true rfl) ⟨_, rfl, rfl⟩ ?_
    show Ev E _ RX6 cX6_keeps 3 _ 0 [some (.ref (E.1 73)), some (.int (nI p)), some (.int (nI h))] [] _
    refine ev_aload_0 dX6_keeps_0 ?_
    refine ev_iload_1 dX6_keeps_1 ?_
    refine ev_invV (ci := 6) dX6_keeps_2 ml_X6_121 mt_X6_isPromise (c_X6_isPromise d) (by first | assumption | decide) (by decide) rfl rfl rfl (rm_ok (by omega)) (Nat.le_of_ble_eq_true rfl) ?_
    refine Ev.pc 5 rfl ?_
    refine ev_if_eq 16 dX6_keeps_5 rfl (fun h5 => ?_) (fun h5 => ?_)
    · exact absurd e2 (b2i_0.mp h5)
    · refine ev_aload_0 dX6_keeps_8 ?_
      refine ev_iload_2 dX6_keeps_9 ?_
      refine ev_invV (ci := 6) dX6_keeps_10 ml_X6_134 mt_X6_isHearer (c_X6_isHearer d) (by first | assumption | decide) (by decide) rfl rfl rfl (rm_ok (by omega)) (Nat.le_of_ble_eq_true rfl) ?_
      refine Ev.pc 13 rfl ?_
      refine ev_if_ne 23 dX6_keeps_13 rfl (fun h13 => ?_) (fun h13 => ?_)
      · refine ev_aload_0 dX6_keeps_23 ?_
        refine ev_get dX6_keeps_24 fk_X6_7 (by first | assumption | decide) (by decide) rfl ?_
        refine ev_iload_1 dX6_keeps_27 ?_
        refine ev_invS dX6_keeps_28 ml_X6_137 mt_X6_isHeld (c_X6_isHeld d (by first | assumption | decide) (by have := xls; omega) (by omega)) rfl rfl (rm_ok (by omega)) (Nat.le_of_ble_eq_true rfl) ?_
        refine Ev.pc 31 rfl ?_
        refine ev_if_ne 39 dX6_keeps_31 rfl (fun h31 => ?_) (fun h31 => ?_)
        · refine ev_aload_0 dX6_keeps_39 ?_
          refine ev_invV (ci := 6) dX6_keeps_40 ml_X6_104 mt_X6_save (c_X6_save (d + 3) hU hU8) (by first | assumption | decide) (by decide) rfl rfl rfl (rm_ok (by omega)) (Nat.le_of_ble_eq_true rfl) ?_
          refine Ev.pc 43 rfl ?_
          refine ev_aload_0 dX6_keeps_43 ?_
          refine ev_get dX6_keeps_44 fk_X6_7 (by first | assumption | decide) (by decide) rfl ?_
          refine ev_iload_1 dX6_keeps_47 ?_
          refine Ev.pc 48 rfl ?_
          refine ev_iload_2 dX6_keeps_48 ?_
          refine ev_invS dX6_keeps_49 ml_X6_140 mt_X6_goKeep (c_X6_goKeep d (by first | assumption | decide) (by have := xls; omega) (by omega) (by omega)) rfl rfl (rm_ok (by omega)) (Nat.le_of_ble_eq_true rfl) ?_
          refine Ev.pc 52 rfl ?_
          refine ev_aload_0 dX6_keeps_52 ?_
          refine ev_get dX6_keeps_53 fk_X6_7 (by first | assumption | decide) (by decide) rfl ?_
          refine ev_iload_1 dX6_keeps_56 ?_
          refine Ev.pc 57 rfl ?_
          refine ev_iload_2 dX6_keeps_57 ?_
          refine ev_invS dX6_keeps_58 ml_X6_114 mt_X6_joyOf (c_X6_joyOf d (by first | assumption | decide) (by have := xls; omega) (by omega) (by omega)) rfl rfl (rm_ok (by omega)) (Nat.le_of_ble_eq_true rfl) ?_
          refine Ev.pc 61 rfl ?_
          exact ev_ireturn dX6_keeps_61 ⟨by (simp only [xrow_at, xrow_row]), by (simp only [xrow_at, xrow_row])⟩
        · exact absurd q7 (b2i_0.mp h31)
      · exact absurd e1 (b2i_0.mp h13)
  · rw [mKeeps, if_neg q7]
    refine Ct.of (by decide +kernel) (Nat.le_of_ble_eq_true rfl) ⟨_, rfl, rfl⟩ ?_
    show Ev E _ RX6 cX6_keeps 3 _ 0 [some (.ref (E.1 73)), some (.int (nI p)), some (.int (nI h))] [] _
    refine ev_aload_0 dX6_keeps_0 ?_
    refine ev_iload_1 dX6_keeps_1 ?_
    refine ev_invV (ci := 6) dX6_keeps_2 ml_X6_121 mt_X6_isPromise (c_X6_isPromise d) (by first | assumption | decide) (by decide) rfl rfl rfl (rm_ok (by omega)) (Nat.le_of_ble_eq_true rfl) ?_
    refine Ev.pc 5 rfl ?_
    refine ev_if_eq 16 dX6_keeps_5 rfl (fun h5 => ?_) (fun h5 => ?_)
    · exact absurd e2 (b2i_0.mp h5)
    · refine ev_aload_0 dX6_keeps_8 ?_
      refine ev_iload_2 dX6_keeps_9 ?_
      refine ev_invV (ci := 6) dX6_keeps_10 ml_X6_134 mt_X6_isHearer (c_X6_isHearer d) (by first | assumption | decide) (by decide) rfl rfl rfl (rm_ok (by omega)) (Nat.le_of_ble_eq_true rfl) ?_
      refine Ev.pc 13 rfl ?_
      refine ev_if_ne 23 dX6_keeps_13 rfl (fun h13 => ?_) (fun h13 => ?_)
      · refine ev_aload_0 dX6_keeps_23 ?_
        refine ev_get dX6_keeps_24 fk_X6_7 (by first | assumption | decide) (by decide) rfl ?_
        refine ev_iload_1 dX6_keeps_27 ?_
        refine ev_invS dX6_keeps_28 ml_X6_137 mt_X6_isHeld (c_X6_isHeld d (by first | assumption | decide) (by have := xls; omega) (by omega)) rfl rfl (rm_ok (by omega)) (Nat.le_of_ble_eq_true rfl) ?_
        refine Ev.pc 31 rfl ?_
        refine ev_if_ne 39 dX6_keeps_31 rfl (fun h31 => ?_) (fun h31 => ?_)
        · exact absurd (b2i_n0.mp h31) q7
        · refine ev_aload_0 dX6_keeps_34 ?_
          refine ev_invV (ci := 6) dX6_keeps_35 ml_X6_128 mt_X6_no (c_X6_no d) (by first | assumption | decide) (by decide) rfl rfl rfl (rm_ok (by omega)) (Nat.le_of_ble_eq_true rfl) ?_
          refine Ev.pc 38 rfl ?_
          exact ev_ireturn dX6_keeps_38 ⟨by rfl, by rfl⟩
      · exact absurd e1 (b2i_0.mp h13)
def backF (f : Nat → Int32) (V n : Nat) : Nat → Int32 := fun k => if 7 ≤ k ∧ k < 7 + n then f (k - 7 + (106 + 19 * V)) else f k
theorem backF_0 (f : Nat → Int32) (V : Nat) : backF f V 0 = f := by funext k; simp [backF]; omega
theorem backF_hi (f : Nat → Int32) (V : Nat) {n k : Nat} (h : 7 + n ≤ k) : backF f V n k = f k := by
  simp only [backF, show ¬ (7 ≤ k ∧ k < 7 + n) by omega, if_false]
theorem backF_lo (f : Nat → Int32) (V : Nat) {n k : Nat} (h : k < 7) : backF f V n k = f k := by
  simp only [backF, show ¬ (7 ≤ k ∧ k < 7 + n) by omega, if_false]
theorem backF_s (f : Nat → Int32) (V : Nat) {n : Nat} (hn : n < 19) : upd (backF f V n) (7 + n) (backF f V n (106 + 19 * V + n)) = backF f V (n + 1) := by
  rw [backF_hi _ _ (by omega)]
  funext k
  by_cases hk : k = 7 + n
  · subst hk
    simp [upd, backF]
    rw [Nat.add_comm]
  · simp only [upd, hk, if_false, backF, show (7 ≤ k ∧ k < 7 + n) ↔ (7 ≤ k ∧ k < 7 + (n + 1)) by omega]
def mBack (f : Nat → Int32) (U : Nat) : Nat → Int32 := backF (upd f 6 (nI (U - 1))) (U - 1) 19
def mUndo (σ : xS) (U : Nat) : Int32 × xS :=
  if U = 0 then (-3, mNo σ) else (mBack (σ.1 74) U 25, xrow σ 74 (mBack (σ.1 74) U))
theorem c_X6_undo (d : Nat) {E : xE} {σ : xS} {U : Nat} (hU : σ.1 74 6 = nI U) (hU8 : U ≤ 8) : Ct E (d + 1) yX6_undo cX6_undo 2 (some .int) [.ref (E.1 73)] σ (some (.int (mUndo σ U).1)) (mUndo σ U).2 := by
  by_cases q7 : U = 0
  · rw [mUndo, if_pos q7]
    refine Ct.of (by decide +kernel) (Nat.le_of_ble_eq_true rfl) ⟨_, rfl, rfl⟩ ?_
    show Ev E _ RX6 cX6_undo 2 _ 0 [some (.ref (E.1 73)), none] [] _
    refine ev_aload_0 dX6_undo_0 ?_
    refine ev_get dX6_undo_1 fk_X6_7 (by first | assumption | decide) (by decide) rfl ?_
    refine ev_bipush (6) dX6_undo_4 rfl ?_
    refine ev_aldL (n := 6) dX6_undo_6 (by first | assumption | decide) (by have := xls; omega) ?_
    refine ev_if_ne 15 dX6_undo_7 rfl (fun h7 => ?_) (fun h7 => ?_)
    · exact absurd (show σ.1 74 6 = 0 by rw [hU, q7]; rfl) h7
    · refine ev_aload_0 dX6_undo_10 ?_
      refine ev_invV (ci := 6) dX6_undo_11 ml_X6_128 mt_X6_no (c_X6_no d) (by first | assumption | decide) (by decide) rfl rfl rfl (rm_ok (by omega)) (Nat.le_of_ble_eq_true rfl) ?_
      refine Ev.pc 14 rfl ?_
      exact ev_ireturn dX6_undo_14 ⟨by rfl, by rfl⟩
  · obtain ⟨V, rfl⟩ : ∃ V, U = V + 1 := ⟨U - 1, by omega⟩
    rw [mUndo, if_neg q7]
    have loop : ∀ (f : Nat → Int32), f 6 = nI V → ∀ (n k : Nat), k + n = 19 → Ev E (rm (d + 1)) RX6 cX6_undo 2 (fun v t => v = some (.int (backF f V 19 25)) ∧ t = xrow σ 74 (backF f V 19)) 28 [some (.ref (E.1 73)), some (.int (nI k))] [] (xrow σ 74 (backF f V k)) := by
      intro f hf n
      induction n with
      | zero =>
        intro k hk
        refine ev_iload_1 dX6_undo_28 ?_
        refine ev_bipush (19) dX6_undo_29 rfl ?_
        refine ev_icmp_ge 69 dX6_undo_31 rfl (fun h31 => ?_) (fun h31 => ?_)
        · refine ev_aload_0 dX6_undo_69 ?_
          refine ev_get dX6_undo_70 fk_X6_7 (by first | assumption | decide) (by decide) rfl ?_
          refine ev_bipush (25) dX6_undo_73 rfl ?_
          refine ev_aldL (n := 25) dX6_undo_75 (by first | assumption | decide) (by have := xls; omega) ?_
          exact ev_ireturn dX6_undo_76 ⟨by (rw [xrow_at, show k = 19 by omega]), by (rw [show k = 19 by omega])⟩
        · exact absurd (show nI 19 ≤ nI k from nI_le (by omega) (by omega)) h31
      | succ n ih =>
        intro k hk
        refine ev_iload_1 dX6_undo_28 ?_
        refine ev_bipush (19) dX6_undo_29 rfl ?_
        refine ev_icmp_ge 69 dX6_undo_31 rfl (fun h31 => ?_) (fun h31 => ?_)
        · exact absurd h31 (show ¬ nI 19 ≤ nI k from nI_ge (by omega) (by omega))
        · refine ev_aload_0 dX6_undo_34 ?_
          refine ev_get dX6_undo_35 fk_X6_7 (by first | assumption | decide) (by decide) rfl ?_
          refine ev_bipush (7) dX6_undo_38 rfl ?_
          refine ev_iload_1 dX6_undo_40 ?_
          refine ev_iadd dX6_undo_41 ?_
          refine Ev.pc 42 rfl ?_
          refine ev_aload_0 dX6_undo_42 ?_
          refine ev_get dX6_undo_43 fk_X6_7 (by first | assumption | decide) (by decide) rfl ?_
          refine ev_bipush (106) dX6_undo_46 rfl ?_
          refine ev_bipush (19) dX6_undo_48 rfl ?_
          refine ev_aload_0 dX6_undo_50 ?_
          refine Ev.pc 51 rfl ?_
          refine ev_get dX6_undo_51 fk_X6_7 (by first | assumption | decide) (by decide) rfl ?_
          refine ev_bipush (6) dX6_undo_54 rfl ?_
          refine ev_aldL (n := 6) dX6_undo_56 (by first | assumption | decide) (by have := xls; omega) ?_
          rw [xrow_at, backF_lo f V (n := k) (k := 6) (by omega), hf]
          refine ev_imul dX6_undo_57 ?_
          refine ev_iadd dX6_undo_58 ?_
          refine Ev.pc 59 rfl ?_
          refine ev_iload_1 dX6_undo_59 ?_
          refine ev_iadd dX6_undo_60 ?_
          refine ev_aldN (k := 106 + 19 * V + k) dX6_undo_61 (by first | assumption | decide) (by first | rfl | (simp only [fa_lit, nI_add, pk_mul]; done) | (simp only [fa_lit, nI_add, pk_mul]; congr 1; omega)) (by have := xls; omega) ?_
          refine ev_astA (n := 7) dX6_undo_62 (by first | assumption | decide) (by have := xls; omega) ?_
          refine ev_iinc_1 (1) dX6_undo_63 rfl rfl ?_
          refine Ev.pc 66 rfl ?_
          refine ev_goto 28 dX6_undo_66 rfl ?_
          simp only [xrow_at, xrow_row]
          rw [nI_1, backF_s _ _ (by omega)]
          exact ih (k + 1) (by omega)
    refine Ct.of (by decide +kernel) (Nat.le_of_ble_eq_true rfl) ⟨_, rfl, rfl⟩ ?_
    show Ev E _ RX6 cX6_undo 2 _ 0 [some (.ref (E.1 73)), none] [] _
    refine ev_aload_0 dX6_undo_0 ?_
    refine ev_get dX6_undo_1 fk_X6_7 (by first | assumption | decide) (by decide) rfl ?_
    refine ev_bipush (6) dX6_undo_4 rfl ?_
    refine ev_aldL (n := 6) dX6_undo_6 (by first | assumption | decide) (by have := xls; omega) ?_
    refine ev_if_ne 15 dX6_undo_7 rfl (fun h7 => ?_) (fun h7 => ?_)
    · refine ev_aload_0 dX6_undo_15 ?_
      refine ev_get dX6_undo_16 fk_X6_7 (by first | assumption | decide) (by decide) rfl ?_
      refine ev_bipush (6) dX6_undo_19 rfl ?_
      refine ev_dup2 dX6_undo_21 rfl rfl ?_
      refine ev_aldL (n := 6) dX6_undo_22 (by first | assumption | decide) (by have := xls; omega) ?_
      refine Ev.pc 23 rfl ?_
      refine ev_iconst_1 dX6_undo_23 ?_
      refine ev_isub dX6_undo_24 ?_
      rw [hU, nI_pred]
      refine ev_astL (n := 6) dX6_undo_25 (by first | assumption | decide) (by have := xls; omega) ?_
      refine ev_iconst_0 dX6_undo_26 ?_
      refine ev_istore_1 dX6_undo_27 rfl ?_
      refine Ev.pc 28 rfl ?_
      have h := loop (upd (σ.1 74) 6 (nI V)) (upd_at _ _ _) 19 0 (by omega)
      rw [backF_0] at h
      exact h
    · exact absurd h7 (by rw [hU]; exact nI_ne0 (by omega) (by omega))
