/-! the class's calls: the fraction, what is best -/
theorem xS_ext {x y : xS} (h : ∀ a b, x.1 a b = y.1 a b) (h2 : x.2 = y.2) : x = y := by
  refine Prod.ext ?_ h2
  funext a b
  exact h a b
theorem gB_o {σ σ' : xS} {t : Nat} (h1 : σ'.1 (t + 1) = σ.1 (t + 1)) (h2 : σ'.1 (t + 2) = σ.1 (t + 2)) (h3 : σ'.1 (t + 3) = σ.1 (t + 3)) (h4 : σ'.1 (t + 4) = σ.1 (t + 4)) (p m : Int32) : gB σ' t p m = gB σ t p m := by
  simp only [gB, xat_o h1, xat_o h2, xat_o h3, xat_o h4]
theorem prB_o {σ σ' : xS} {t : Nat} (h1 : σ'.1 (t + 1) = σ.1 (t + 1)) (h2 : σ'.1 (t + 2) = σ.1 (t + 2)) (h3 : σ'.1 (t + 3) = σ.1 (t + 3)) (h4 : σ'.1 (t + 4) = σ.1 (t + 4)) (p : Int32) : prB σ' t p = prB σ t p := by
  simp only [prB, gB_o h1 h2 h3 h4]
theorem jB_o {σ σ' : xS} {t : Nat} (h1 : σ'.1 (t + 1) = σ.1 (t + 1)) (h2 : σ'.1 (t + 2) = σ.1 (t + 2)) (h3 : σ'.1 (t + 3) = σ.1 (t + 3)) (h4 : σ'.1 (t + 4) = σ.1 (t + 4)) (h5 : σ'.1 (t + 5) = σ.1 (t + 5)) (h6 : σ'.1 (t + 6) = σ.1 (t + 6)) (p h : Int32) : jB σ' t p h = jB σ t p h := by
  simp only [jB, xat_o h5, xat_o h6, gB_o h1 h2 h3 h4]
def gcdN : Nat → Int64 → Int64 → Int64
  | 0, a, _ => a
  | n + 1, a, b => if b = 0 then a else gcdN n b (a - a / b * b)
theorem l_X5_commonDivisor (d : Nat) {E : xE} {σ : xS} {p0 p1 : Int64} {F : Option Value → xS → Prop} :
    ∀ (n k : Nat) (a b : Int64) (x9 x10 : Option Value), k + n = 100 → F (some (.long (gcdN n a b))) σ → Ev E (rm (d + 0)) RX5 cX5_commonDivisor 11 F 9 [some (.long p0), none, some (.long p1), none, some (.long a), none, some (.long b), none, some (.int (nI k)), x9, x10] [] σ := by
  intro n
  induction n with
  | zero =>
    intro k a b x9 x10 hk hF
    refine ev_iload_8 dX5_commonDivisor_9 ?_
    refine ev_bipush (100) dX5_commonDivisor_11 rfl ?_
    refine ev_icmp_ge 44 dX5_commonDivisor_13 rfl (fun h13 => ?_) (fun h13 => ?_)
    · refine ev_lload_4 dX5_commonDivisor_44 ?_
      exact ev_lreturn dX5_commonDivisor_46 (by exact hF)
    · exact absurd (show nI 100 ≤ nI k from nI_le (by omega) (by omega)) h13
  | succ n ih =>
    intro k a b x9 x10 hk hF
    refine ev_iload_8 dX5_commonDivisor_9 ?_
    refine ev_bipush (100) dX5_commonDivisor_11 rfl ?_
    refine ev_icmp_ge 44 dX5_commonDivisor_13 rfl (fun h13 => ?_) (fun h13 => ?_)
    · exact absurd h13 (show ¬ nI 100 ≤ nI k from nI_ge (by omega) (by omega))
    · refine ev_lload_6 dX5_commonDivisor_16 ?_
      refine ev_lconst_0 dX5_commonDivisor_18 ?_
      refine ev_lcmp dX5_commonDivisor_19 ?_
      refine ev_if_eq 44 dX5_commonDivisor_20 rfl (fun h20 => ?_) (fun h20 => ?_)
      · refine ev_lload_4 dX5_commonDivisor_44 ?_
        exact ev_lreturn dX5_commonDivisor_46 (by (rw [gcdN, if_pos ((lg_cmp_eq _ _).mp h20)] at hF; exact hF))
      · refine ev_lload_4 dX5_commonDivisor_23 ?_
        refine ev_lload_6 dX5_commonDivisor_25 ?_
        refine ev_lrem dX5_commonDivisor_27 (fun h => h20 ((lg_cmp_eq _ _).mpr h)) ?_
        refine ev_lstore_9 dX5_commonDivisor_28 rfl ?_
        refine ev_lload_6 dX5_commonDivisor_30 ?_
        refine Ev.pc 32 rfl ?_
        refine ev_lstore_4 dX5_commonDivisor_32 rfl ?_
        refine ev_lload_9 dX5_commonDivisor_34 ?_
        refine ev_lstore_6 dX5_commonDivisor_36 rfl ?_
        refine ev_iinc_8 (1) dX5_commonDivisor_38 rfl rfl ?_
        refine ev_goto 9 dX5_commonDivisor_41 rfl ?_
        rw [nI_1]
        exact ih (k + 1) _ _ _ _ (by omega) (by rw [gcdN, if_neg (fun h => h20 ((lg_cmp_eq _ _).mpr h))] at hF; exact hF)
theorem c_X5_commonDivisor (d : Nat) {E : xE} {σ : xS} {a b : Int64} : Ct E d yX5_commonDivisor cX5_commonDivisor 11 (some .long) [.long a, .long b] σ (some (.long (gcdN 100 a b))) σ := by
  refine Ct.of (by decide +kernel) (Nat.le_of_ble_eq_true rfl) rfl ?_
  show Ev E _ RX5 cX5_commonDivisor 11 _ 0 [some (.long a), none, some (.long b), none, none, none, none, none, none, none, none] [] _
  refine ev_lload_0 dX5_commonDivisor_0 ?_
  refine ev_lstore_4 dX5_commonDivisor_1 rfl ?_
  refine ev_lload_2 dX5_commonDivisor_3 ?_
  refine ev_lstore_6 dX5_commonDivisor_4 rfl ?_
  refine ev_iconst_0 dX5_commonDivisor_6 ?_
  refine Ev.pc 7 rfl ?_
  refine ev_istore_8 dX5_commonDivisor_7 rfl ?_
  exact l_X5_commonDivisor d 100 0 _ _ _ _ (by omega) ⟨rfl, rfl⟩
def setFr (σ : xS) (a b : Int64) : xS :=
  let g := gcdN 100 a b
  xul (xul σ 0 8 (if g ≤ 0 then 0 else a / g)) 0 9 (if g ≤ 0 then 1 else b / g)
theorem c_X5_setFraction (d : Nat) {E : xE} {σ : xS} {a b : Int64} : Ct E (d + 1) yX5_setFraction cX5_setFraction 7 none [.ref (E.1 0), .long a, .long b] σ none (setFr σ a b) := by
  have key : gcdN 100 a b = 0 → lg_cmp (gcdN 100 a b) 0 ≤ 0 := fun h => (lg_cmp_le _ _).mpr (by rw [h]; decide)
  refine Ct.of (by decide +kernel) (Nat.le_of_ble_eq_true rfl) rfl ?_
  show Ev E _ RX5 cX5_setFraction 7 _ 0 [some (.ref (E.1 0)), some (.long a), none, some (.long b), none, none, none] [] _
  refine ev_lload_1 dX5_setFraction_0 ?_
  refine ev_lload_3 dX5_setFraction_1 ?_
  refine ev_invS dX5_setFraction_2 ml_X5_341 mt_X5_commonDivisor (c_X5_commonDivisor d) rfl rfl (rm_ok (by omega)) (Nat.le_of_ble_eq_true rfl) ?_
  refine Ev.pc 5 rfl ?_
  refine ev_lstore_5 dX5_setFraction_5 rfl ?_
  refine ev_aload_0 dX5_setFraction_7 ?_
  refine Ev.pc 8 rfl ?_
  refine ev_lload_5 dX5_setFraction_8 ?_
  refine ev_lconst_0 dX5_setFraction_10 ?_
  refine ev_lcmp dX5_setFraction_11 ?_
  refine ev_if_le 22 dX5_setFraction_12 rfl (fun h12 => ?_) (fun h12 => ?_)
  · refine ev_lconst_0 dX5_setFraction_22 ?_
    refine ev_putl dX5_setFraction_23 fk_X5_46 (by first | assumption | decide) (by decide) rfl ?_
    refine ev_aload_0 dX5_setFraction_26 ?_
    refine ev_lload_5 dX5_setFraction_27 ?_
    refine ev_lconst_0 dX5_setFraction_29 ?_
    refine Ev.pc 30 rfl ?_
    refine ev_lcmp dX5_setFraction_30 ?_
    refine ev_if_le 41 dX5_setFraction_31 rfl (fun h31 => ?_) (fun h31 => ?_)
    · refine ev_lconst_1 dX5_setFraction_41 ?_
      refine ev_putl dX5_setFraction_42 fk_X5_50 (by first | assumption | decide) (by decide) rfl ?_
      exact ev_return dX5_setFraction_45 ⟨by rfl, by (simp only [lg_cmp_le] at *; first | contradiction | simp only [setFr, *, if_true, if_false])⟩
    · refine ev_lload_3 dX5_setFraction_34 ?_
      refine ev_lload_5 dX5_setFraction_35 ?_
      refine ev_ldiv dX5_setFraction_37 (fun h => h31 (key h)) ?_
      refine ev_goto 42 dX5_setFraction_38 rfl ?_
      refine ev_putl dX5_setFraction_42 fk_X5_50 (by first | assumption | decide) (by decide) rfl ?_
      exact ev_return dX5_setFraction_45 ⟨by rfl, by (simp only [lg_cmp_le] at *; first | contradiction | simp only [setFr, *, if_true, if_false])⟩
  · refine ev_lload_1 dX5_setFraction_15 ?_
    refine ev_lload_5 dX5_setFraction_16 ?_
    refine ev_ldiv dX5_setFraction_18 (fun h => h12 (key h)) ?_
    refine ev_goto 23 dX5_setFraction_19 rfl ?_
    refine ev_putl dX5_setFraction_23 fk_X5_46 (by first | assumption | decide) (by decide) rfl ?_
    refine ev_aload_0 dX5_setFraction_26 ?_
    refine Ev.pc 27 rfl ?_
    refine ev_lload_5 dX5_setFraction_27 ?_
    refine ev_lconst_0 dX5_setFraction_29 ?_
    refine ev_lcmp dX5_setFraction_30 ?_
    refine ev_if_le 41 dX5_setFraction_31 rfl (fun h31 => ?_) (fun h31 => ?_)
    · refine ev_lconst_1 dX5_setFraction_41 ?_
      refine ev_putl dX5_setFraction_42 fk_X5_50 (by first | assumption | decide) (by decide) rfl ?_
      exact ev_return dX5_setFraction_45 ⟨by rfl, by (simp only [lg_cmp_le] at *; first | contradiction | simp only [setFr, *, if_true, if_false])⟩
    · refine ev_lload_3 dX5_setFraction_34 ?_
      refine ev_lload_5 dX5_setFraction_35 ?_
      refine ev_ldiv dX5_setFraction_37 (fun h => h31 (key h)) ?_
      refine ev_goto 42 dX5_setFraction_38 rfl ?_
      refine ev_putl dX5_setFraction_42 fk_X5_50 (by first | assumption | decide) (by decide) rfl ?_
      exact ev_return dX5_setFraction_45 ⟨by rfl, by (simp only [lg_cmp_le] at *; first | contradiction | simp only [setFr, *, if_true, if_false])⟩
/-! weighing -/
def wTo (σ : xS) (H p h c : Nat) : xS := (fun a b => if a = 71 ∧ b < c then prB σ 2 (nI b) else if a = 70 ∧ (b % 7 < p ∧ b / 7 < H ∨ b % 7 = p ∧ b / 7 < h) then jB σ 2 (nI (b % 7)) (nI (b / 7)) else σ.1 a b, σ.2)
theorem wTo_f {σ : xS} {H p h c a : Nat} (h0 : a ≠ 70) (h1 : a ≠ 71) : (wTo σ H p h c).1 a = σ.1 a := by
  funext b; simp [wTo, h0, h1]
theorem wTo_0 (σ : xS) (H : Nat) : wTo σ H 0 0 0 = σ := xS_ext (fun a b => by simp [wTo]) rfl
theorem wTo_pr (σ : xS) (H p : Nat) : xu (wTo σ H p 0 p) 71 p (prB σ 2 (nI p)) = wTo σ H p 0 (p + 1) := by
  refine xS_ext (fun a b => ?_) rfl
  by_cases ha : a = 71
  · subst ha
    by_cases hb : b = p
    · subst hb; simp [wTo, xu]
    · simp [wTo, xu, hb, show b < p + 1 ↔ b < p by omega]
  · simp [wTo, xu, ha]
theorem wTo_j (σ : xS) (H p h : Nat) (hp : p < 7) : xu (wTo σ H p h (p + 1)) 70 (h * 7 + p) (jB σ 2 (nI p) (nI h)) = wTo σ H p (h + 1) (p + 1) := by
  refine xS_ext (fun a b => ?_) rfl
  by_cases ha : a = 70
  · subst ha
    by_cases hb : b = h * 7 + p
    · have e1 : b % 7 = p := by omega
      have e2 : b / 7 = h := by omega
      simp only [wTo, xu, hb]
      have e3 : (h * 7 + p) % 7 = p := by omega
      have e4 : (h * 7 + p) / 7 = h := by omega
      simp [e3, e4]
    · have e5 : (b % 7 = p ∧ b / 7 < h + 1) ↔ (b % 7 = p ∧ b / 7 < h) := by omega
      simp [wTo, xu, hb, e5]
  · simp [wTo, xu, ha]
theorem wTo_n (σ : xS) (H p : Nat) : wTo σ H p H (p + 1) = wTo σ H (p + 1) 0 (p + 1) := by
  refine xS_ext (fun a b => ?_) rfl
  have e5 : (b % 7 < p ∧ b / 7 < H ∨ b % 7 = p ∧ b / 7 < H) ↔ (b % 7 < p + 1 ∧ b / 7 < H) := by omega
  simp [wTo, e5]
theorem l2_X5_weigh (d : Nat) {E : xE} {σ : xS} {P H p : Nat} {F : Option Value → xS → Prop} (hH : σ.1 2 8 = nI H) (hH4 : H ≤ 4) (hp : p < 7) (hF : Ev E (rm (d + 4)) RX5 cX5_weigh 4 F 66 [some (.ref (E.1 0)), some (.ref (E.1 2)), some (.int (nI p)), some (.int (nI H))] [] (wTo σ H p H (p + 1))) :
    ∀ (n h : Nat), h + n = H → Ev E (rm (d + 4)) RX5 cX5_weigh 4 F 33 [some (.ref (E.1 0)), some (.ref (E.1 2)), some (.int (nI p)), some (.int (nI h))] [] (wTo σ H p h (p + 1)) := by
  have e70 : xlen 70 = 28 := by decide
  intro n
  induction n with
  | zero =>
    intro h hh
    have eH : (wTo σ H p h (p + 1)).1 2 8 = nI H := by rw [wTo_f (by decide) (by decide)]; exact hH
    obtain rfl : h = H := by omega
    refine ev_iload_3 dX5_weigh_33 ?_
    refine ev_aload_1 dX5_weigh_34 ?_
    refine ev_get dX5_weigh_35 fk_X5_120 (by first | assumption | decide) (by decide) rfl ?_
    refine ev_icmp_ge 66 dX5_weigh_38 rfl (fun h38 => ?_) (fun h38 => ?_)
    · exact hF
    · exact absurd (by rw [eH]; exact nI_le (by omega) (by omega)) h38
  | succ n ih =>
    intro h hh
    have eH : (wTo σ H p h (p + 1)).1 2 8 = nI H := by rw [wTo_f (by decide) (by decide)]; exact hH
    have ej : jB (wTo σ H p h (p + 1)) 2 (nI p) (nI h) = jB σ 2 (nI p) (nI h) := jB_o (wTo_f (by decide) (by decide)) (wTo_f (by decide) (by decide)) (wTo_f (by decide) (by decide)) (wTo_f (by decide) (by decide)) (wTo_f (by decide) (by decide)) (wTo_f (by decide) (by decide)) _ _
    refine ev_iload_3 dX5_weigh_33 ?_
    refine ev_aload_1 dX5_weigh_34 ?_
    refine ev_get dX5_weigh_35 fk_X5_120 (by first | assumption | decide) (by decide) rfl ?_
    refine ev_icmp_ge 66 dX5_weigh_38 rfl (fun h38 => ?_) (fun h38 => ?_)
    · exact absurd h38 (by rw [eH]; exact nI_ge (by omega) (by omega))
    · refine ev_aload_0 dX5_weigh_41 ?_
      refine ev_get dX5_weigh_42 fk_X5_36 (by first | assumption | decide) (by decide) rfl ?_
      refine ev_iload_3 dX5_weigh_45 ?_
      refine ev_bipush (7) dX5_weigh_46 rfl ?_
      refine ev_imul dX5_weigh_48 ?_
      refine Ev.pc 49 rfl ?_
      refine ev_iload_2 dX5_weigh_49 ?_
      refine ev_iadd dX5_weigh_50 ?_
      refine ev_aload_1 dX5_weigh_51 ?_
      refine ev_iload_2 dX5_weigh_52 ?_
      refine ev_iload_3 dX5_weigh_53 ?_
      refine Ev.pc 54 rfl ?_
      refine ev_invV (ci := 4) dX5_weigh_54 ml_X5_239 mt_X4_joyTo (c_X4_joyTo d (t := 2) town_now) (by first | assumption | decide) (by decide) rfl rfl rfl (rm_ok (by omega)) (Nat.le_of_ble_eq_true rfl) ?_
      refine Ev.pc 57 rfl ?_
      refine ev_invS dX5_weigh_57 ml_X5_138 mt_X5_put (c_X5_put d (by first | assumption | decide)) rfl rfl (rm_ok (by omega)) (Nat.le_of_ble_eq_true rfl) ?_
      rw [ej, xput_eq (r := 70) (k := h * 7 + p) (by rw [show (7 : Int32) = nI 7 from rfl, pk_mul, nI_add]) (by omega), wTo_j σ H p h hp]
      refine Ev.pc 60 rfl ?_
      refine ev_iinc_3 (1) dX5_weigh_60 rfl rfl ?_
      refine ev_goto 33 dX5_weigh_63 rfl ?_
      rw [nI_1]
      exact ih (h + 1) (by omega)
theorem l1_X5_weigh (d : Nat) {E : xE} {σ : xS} {P H : Nat} {F : Option Value → xS → Prop} (hP : σ.1 2 7 = nI P) (hP7 : P ≤ 7) (hH : σ.1 2 8 = nI H) (hH4 : H ≤ 4) (hF : F none (wTo σ H P 0 P)) :
    ∀ (n p : Nat) (x3 : Option Value), p + n = P → Ev E (rm (d + 4)) RX5 cX5_weigh 4 F 10 [some (.ref (E.1 0)), some (.ref (E.1 2)), some (.int (nI p)), x3] [] (wTo σ H p 0 p) := by
  have e71 : xlen 71 = 7 := by decide
  intro n
  induction n with
  | zero =>
    intro p x3 hp
    have eP : (wTo σ H p 0 p).1 2 7 = nI P := by rw [wTo_f (by decide) (by decide)]; exact hP
    refine ev_iload_2 dX5_weigh_10 ?_
    refine ev_aload_1 dX5_weigh_11 ?_
    refine ev_get dX5_weigh_12 fk_X5_92 (by first | assumption | decide) (by decide) rfl ?_
    refine ev_icmp_ge 72 dX5_weigh_15 rfl (fun h15 => ?_) (fun h15 => ?_)
    · exact ev_return dX5_weigh_72 (by (rw [show p = P by omega]; exact hF))
    · exact absurd (by rw [eP]; exact nI_le (by omega) (by omega)) h15
  | succ n ih =>
    intro p x3 hp
    have eP : (wTo σ H p 0 p).1 2 7 = nI P := by rw [wTo_f (by decide) (by decide)]; exact hP
    have ep : prB (wTo σ H p 0 p) 2 (nI p) = prB σ 2 (nI p) := prB_o (wTo_f (by decide) (by decide)) (wTo_f (by decide) (by decide)) (wTo_f (by decide) (by decide)) (wTo_f (by decide) (by decide)) _
    refine ev_iload_2 dX5_weigh_10 ?_
    refine ev_aload_1 dX5_weigh_11 ?_
    refine ev_get dX5_weigh_12 fk_X5_92 (by first | assumption | decide) (by decide) rfl ?_
    refine ev_icmp_ge 72 dX5_weigh_15 rfl (fun h15 => ?_) (fun h15 => ?_)
    · exact absurd h15 (by rw [eP]; exact nI_ge (by omega) (by omega))
    · refine ev_aload_0 dX5_weigh_18 ?_
      refine ev_get dX5_weigh_19 fk_X5_40 (by first | assumption | decide) (by decide) rfl ?_
      refine ev_iload_2 dX5_weigh_22 ?_
      refine ev_aload_1 dX5_weigh_23 ?_
      refine ev_iload_2 dX5_weigh_24 ?_
      refine Ev.pc 25 rfl ?_
      refine ev_invV (ci := 4) dX5_weigh_25 ml_X5_227 mt_X4_priceOf (c_X4_priceOf d (t := 2) town_now) (by first | assumption | decide) (by decide) rfl rfl rfl (rm_ok (by omega)) (Nat.le_of_ble_eq_true rfl) ?_
      refine Ev.pc 28 rfl ?_
      refine ev_invS dX5_weigh_28 ml_X5_138 mt_X5_put (c_X5_put d (by first | assumption | decide)) rfl rfl (rm_ok (by omega)) (Nat.le_of_ble_eq_true rfl) ?_
      rw [ep, xput_nI (r := 71) (by omega), wTo_pr]
      refine Ev.pc 31 rfl ?_
      refine ev_iconst_0 dX5_weigh_31 ?_
      refine ev_istore_3 dX5_weigh_32 rfl ?_
      refine l2_X5_weigh d (P := P) hH hH4 (by omega) ?_ H 0 (by omega)
      refine ev_iinc_2 (1) dX5_weigh_66 rfl rfl ?_
      refine ev_goto 10 dX5_weigh_69 rfl ?_
      rw [nI_1, wTo_n]
      exact ih (p + 1) _ (by omega)
theorem c_X5_weigh (d : Nat) {E : xE} {σ : xS} {P H : Nat} (hP : σ.1 2 7 = nI P) (hP7 : P ≤ 7) (hH : σ.1 2 8 = nI H) (hH4 : H ≤ 4) : Ct E (d + 4) yX5_weigh cX5_weigh 4 none [.ref (E.1 0)] σ none (wTo σ H P 0 P) := by
  refine Ct.of (by decide +kernel) (Nat.le_of_ble_eq_true rfl) rfl ?_
  show Ev E _ RX5 cX5_weigh 4 _ 0 [some (.ref (E.1 0)), none, none, none] [] _
  refine ev_aload_0 dX5_weigh_0 ?_
  refine ev_get dX5_weigh_1 fk_X5_10 (by first | assumption | decide) (by decide) rfl ?_
  refine ev_get dX5_weigh_4 fk_X5_89 (by first | assumption | decide) (by decide) rfl ?_
  simp only [Nat.reduceAdd]
  refine ev_astore_1 dX5_weigh_7 rfl ?_
  refine ev_iconst_0 dX5_weigh_8 ?_
  refine Ev.pc 9 rfl ?_
  refine ev_istore_2 dX5_weigh_9 rfl ?_
  have h := l1_X5_weigh d (E := E) (F := fun v t => v = none ∧ t = wTo σ H P 0 P) hP hP7 hH hH4 ⟨rfl, rfl⟩ P 0 none (by omega)
  rw [wTo_0] at h
  exact h
abbrev hasI' (bits : Int32) (p : Nat) : Prop := (bits >>> (nI p &&& 31)) &&& 1 = 1
def sumV (f : Nat → Int32) (s : Nat) (bits : Int32) : Nat → Int32
  | 0 => 0
  | n + 1 => if hasI' bits n then sumV f s bits n + f (s + n) else sumV f s bits n
theorem l_X5_sumOver (d : Nat) {E : xE} {σ : xS} {r s : Nat} {bits : Int32} {F : Option Value → xS → Prop} (hr : r < xN ∧ xcls r = 7) (hs : s + 7 ≤ xlen r) (hF : F (some (.int (sumV (σ.1 r) s bits 7))) σ) :
    ∀ (n k : Nat) (sm : Int32), k + n = 7 → sm = sumV (σ.1 r) s bits k → Ev E (rm (d + 1)) RX5 cX5_sumOver 5 F 5 [some (.ref (E.1 r)), some (.int (nI s)), some (.int bits), some (.int sm), some (.int (nI k))] [] σ := by
  have h5 := xlen_le r
  intro n
  induction n with
  | zero =>
    intro k sm hk hs
    refine ev_iload_4 dX5_sumOver_5 ?_
    refine ev_bipush (7) dX5_sumOver_7 rfl ?_
    refine ev_icmp_ge 38 dX5_sumOver_9 rfl (fun h9 => ?_) (fun h9 => ?_)
    · refine ev_iload_3 dX5_sumOver_38 ?_
      exact ev_ireturn dX5_sumOver_39 (by (rw [hs, show k = 7 by omega]; exact hF))
    · exact absurd (show nI 7 ≤ nI k from nI_le (by omega) (by omega)) h9
  | succ n ih =>
    intro k sm hk hs
    have e1 : xat σ r (nI s + nI k) = σ.1 r (s + k) := xat_eq (nI_add _ _) (by omega)
    refine ev_iload_4 dX5_sumOver_5 ?_
    refine ev_bipush (7) dX5_sumOver_7 rfl ?_
    refine ev_icmp_ge 38 dX5_sumOver_9 rfl (fun h9 => ?_) (fun h9 => ?_)
    · exact absurd h9 (show ¬ nI 7 ≤ nI k from nI_ge (by omega) (by omega))
    · refine ev_iload_2 dX5_sumOver_12 ?_
      refine ev_iload_4 dX5_sumOver_13 ?_
      refine ev_invS dX5_sumOver_15 ml_X5_270 mt_X5_has (c_X5_has d) rfl rfl (rm_ok (by omega)) (Nat.le_of_ble_eq_true rfl) ?_
      refine Ev.pc 18 rfl ?_
      refine ev_if_eq 32 dX5_sumOver_18 rfl (fun h18 => ?_) (fun h18 => ?_)
      · have g := b2i_0.mp h18
        refine ev_iinc_4 (1) dX5_sumOver_32 rfl rfl ?_
        refine ev_goto 5 dX5_sumOver_35 rfl ?_
        rw [nI_1]
        exact ih (k + 1) _ (by omega) (by simp [sumV, g, hs, e1])
      · have g := Decidable.not_not.mp (fun h => h18 (b2i_0.mpr h))
        refine ev_iload_3 dX5_sumOver_21 ?_
        refine ev_aload_0 dX5_sumOver_22 ?_
        refine ev_iload_1 dX5_sumOver_23 ?_
        refine ev_iload_4 dX5_sumOver_24 ?_
        refine ev_iadd dX5_sumOver_26 ?_
        refine Ev.pc 27 rfl ?_
        refine ev_invS dX5_sumOver_27 ml_X5_196 mt_X5_at (c_X5_at d (by first | assumption | decide)) rfl rfl (rm_ok (by omega)) (Nat.le_of_ble_eq_true rfl) ?_
        refine Ev.pc 30 rfl ?_
        refine ev_iadd dX5_sumOver_30 ?_
        refine ev_istore_3 dX5_sumOver_31 rfl ?_
        refine ev_iinc_4 (1) dX5_sumOver_32 rfl rfl ?_
        refine ev_goto 5 dX5_sumOver_35 rfl ?_
        rw [nI_1]
        exact ih (k + 1) _ (by omega) (by simp [sumV, g, hs, e1])
theorem c_X5_sumOver (d : Nat) {E : xE} {σ : xS} {r s : Nat} {bits : Int32} (hr : r < xN ∧ xcls r = 7) (hs : s + 7 ≤ xlen r) : Ct E (d + 1) yX5_sumOver cX5_sumOver 5 (some .int) [.ref (E.1 r), .int (nI s), .int bits] σ (some (.int (sumV (σ.1 r) s bits 7))) σ := by
  refine Ct.of (by decide +kernel) (Nat.le_of_ble_eq_true rfl) ⟨_, rfl, rfl⟩ ?_
  show Ev E _ RX5 cX5_sumOver 5 _ 0 [some (.ref (E.1 r)), some (.int (nI s)), some (.int bits), none, none] [] _
  refine ev_iconst_0 dX5_sumOver_0 ?_
  refine ev_istore_3 dX5_sumOver_1 rfl ?_
  refine ev_iconst_0 dX5_sumOver_2 ?_
  refine ev_istore_4 dX5_sumOver_3 rfl ?_
  exact l_X5_sumOver d hr hs ⟨rfl, rfl⟩ 7 0 0 (by omega) rfl
def redeemedQ (σ : xS) (P H : Nat) (c : Int32) : Int32 × xS :=
  if btw c 0 10 then (1, setFr (wTo σ H P 0 P) ((sumV ((wTo σ H P 0 P).1 71) 0 (mkI (fun k => decide (σ.1 6 k = 0)) P) 7).toInt64 * (10 - c).toInt64) 10) else (-2, badS σ)
theorem c_X5_redeemed (d : Nat) {E : xE} {σ : xS} {P H : Nat} {c : Int32} (hP : σ.1 2 7 = nI P) (hP7 : P ≤ 7) (hH : σ.1 2 8 = nI H) (hH4 : H ≤ 4) : Ct E (d + 5) yX5_redeemed cX5_redeemed 3 (some .int) [.ref (E.1 0), .int c] σ (some (.int (redeemedQ σ P H c).1)) (redeemedQ σ P H c).2 := by
  have e6 : (wTo σ H P 0 P).1 6 = σ.1 6 := wTo_f (by decide) (by decide)
  have e2 : (wTo σ H P 0 P).1 2 7 = nI P := by rw [wTo_f (by decide) (by decide)]; exact hP
  refine Ct.of (by decide +kernel) (Nat.le_of_ble_eq_true rfl) ⟨_, rfl, rfl⟩ ?_
  show Ev E _ RX5 cX5_redeemed 3 _ 0 [some (.ref (E.1 0)), some (.int c), none] [] _
  refine ev_iload_1 dX5_redeemed_0 ?_
  refine ev_iconst_0 dX5_redeemed_1 ?_
  refine ev_bipush (10) dX5_redeemed_2 rfl ?_
  refine ev_invS dX5_redeemed_4 ml_X5_98 mt_X5_between (c_X5_between d) rfl rfl (rm_ok (by omega)) (Nat.le_of_ble_eq_true rfl) ?_
  refine Ev.pc 7 rfl ?_
  refine ev_if_ne 15 dX5_redeemed_7 rfl (fun h7 => ?_) (fun h7 => ?_)
  · refine ev_aload_0 dX5_redeemed_15 ?_
    refine ev_invV (ci := 5) dX5_redeemed_16 ml_X5_245 mt_X5_weigh (c_X5_weigh d hP hP7 hH hH4) (by first | assumption | decide) (by decide) rfl rfl rfl (rm_ok (by omega)) (Nat.le_of_ble_eq_true rfl) ?_
    refine Ev.pc 19 rfl ?_
    refine ev_aload_0 dX5_redeemed_19 ?_
    refine ev_get dX5_redeemed_20 fk_X5_40 (by first | assumption | decide) (by decide) rfl ?_
    refine ev_iconst_0 dX5_redeemed_23 ?_
    refine Ev.pc 24 rfl ?_
    refine ev_aload_0 dX5_redeemed_24 ?_
    refine ev_get dX5_redeemed_25 fk_X5_10 (by first | assumption | decide) (by decide) rfl ?_
    refine ev_get dX5_redeemed_28 fk_X5_89 (by first | assumption | decide) (by decide) rfl ?_
    simp only [Nat.reduceAdd]
    refine ev_iconst_0 dX5_redeemed_31 ?_
    refine ev_invV (ci := 4) dX5_redeemed_32 ml_X5_236 mt_X4_bitsAt (c_X4_bitsAt d (t := 2) (P := P) town_now e2 hP7) (by first | assumption | decide) (by decide) rfl rfl rfl (rm_ok (by omega)) (Nat.le_of_ble_eq_true rfl) ?_
    simp only [Nat.reduceAdd, e6]
    refine Ev.pc 35 rfl ?_
    refine ev_invS dX5_redeemed_35 ml_X5_262 mt_X5_sumOver (c_X5_sumOver d (r := 71) (s := 0) (by decide) (by decide)) rfl rfl (rm_ok (by omega)) (Nat.le_of_ble_eq_true rfl) ?_
    refine Ev.pc 38 rfl ?_
    refine ev_istore_2 dX5_redeemed_38 rfl ?_
    refine ev_aload_0 dX5_redeemed_39 ?_
    refine ev_iload_2 dX5_redeemed_40 ?_
    refine ev_i2l dX5_redeemed_41 ?_
    refine Ev.pc 42 rfl ?_
    refine ev_bipush (10) dX5_redeemed_42 rfl ?_
    refine ev_iload_1 dX5_redeemed_44 ?_
    refine ev_isub dX5_redeemed_45 ?_
    refine ev_i2l dX5_redeemed_46 ?_
    refine ev_lmul dX5_redeemed_47 ?_
    refine Ev.pc 48 rfl ?_
    refine ev_ldc2_w dX5_redeemed_48 cn_X5_335 ?_
    refine ev_invV (ci := 5) dX5_redeemed_51 ml_X5_337 mt_X5_setFraction (c_X5_setFraction d) (by first | assumption | decide) (by decide) rfl rfl rfl (rm_ok (by omega)) (Nat.le_of_ble_eq_true rfl) ?_
    refine Ev.pc 54 rfl ?_
    refine ev_iconst_1 dX5_redeemed_54 ?_
    exact ev_ireturn dX5_redeemed_55 ⟨by ((try simp only [b2i_0, b2i_1, Decidable.not_not] at *); simp only [redeemedQ]; repeat' (first | with_reducible rfl | contradiction | (exfalso; simp_all; done) | split)), by ((try simp only [b2i_0, b2i_1, Decidable.not_not] at *); simp only [redeemedQ, badS]; repeat' (first | with_reducible rfl | contradiction | (exfalso; simp_all; done) | split))⟩
  · refine ev_aload_0 dX5_redeemed_10 ?_
    refine ev_invV (ci := 5) dX5_redeemed_11 ml_X5_102 mt_X5_bad (c_X5_bad d) (by first | assumption | decide) (by decide) rfl rfl rfl (rm_ok (by omega)) (Nat.le_of_ble_eq_true rfl) ?_
    refine Ev.pc 14 rfl ?_
    exact ev_ireturn dX5_redeemed_14 ⟨by ((try simp only [b2i_0, b2i_1, Decidable.not_not] at *); simp only [redeemedQ]; repeat' (first | with_reducible rfl | contradiction | (exfalso; simp_all; done) | split)), by ((try simp only [b2i_0, b2i_1, Decidable.not_not] at *); simp only [redeemedQ, badS]; repeat' (first | with_reducible rfl | contradiction | (exfalso; simp_all; done) | split))⟩

/-! the digest -/
def digC (σ : xS) (P H B S N M : Nat) : Int64 :=
  let h1 := dgF (fun k h => dg h (countC σ P H (nI k))) 12 1637
  let h2 := dgF (dgB σ 2) B (dgF (dgH σ 2) H (dgF (dgP σ 2) P h1))
  let h3 := dgF (fun r => dgC σ 12 r 2 2) S h2
  let h4 := dgF (fun r => dgC σ 14 r 0 4) N h3
  let h5 := dgF (fun r => dgC σ 16 r 0 4) M h4
  31 * (31 * h5 + σ.2 0 8) + σ.2 0 9
theorem l_X5_digest (d : Nat) {E : xE} {σ : xS} {P H : Nat} {F : Option Value → xS → Prop} (hP : σ.1 2 7 = nI P) (hP7 : P ≤ 7) (hH : σ.1 2 8 = nI H) (hH4 : H ≤ 4) (hF : Ev E (rm (d + 4)) RX5 cX5_digest 4 F 31 [some (.ref (E.1 0)), some (.long (dgF (fun k h => dg h (countC σ P H (nI k))) 12 1637)), none, some (.int (nI 12))] [] σ) :
    ∀ (n k : Nat) (h : Int64), k + n = 12 → h = dgF (fun k h => dg h (countC σ P H (nI k))) k 1637 → Ev E (rm (d + 4)) RX5 cX5_digest 4 F 6 [some (.ref (E.1 0)), some (.long h), none, some (.int (nI k))] [] σ := by
  intro n
  induction n with
  | zero =>
    intro k h hk hh
    refine ev_iload_3 dX5_digest_6 ?_
    refine ev_bipush (12) dX5_digest_7 rfl ?_
    refine ev_icmp_ge 31 dX5_digest_9 rfl (fun h9 => ?_) (fun h9 => ?_)
    · rw [hh, show k = 12 by omega]
      exact hF
    · exact absurd (show nI 12 ≤ nI k from nI_le (by omega) (by omega)) h9
  | succ n ih =>
    intro k h hk hh
    refine ev_iload_3 dX5_digest_6 ?_
    refine ev_bipush (12) dX5_digest_7 rfl ?_
    refine ev_icmp_ge 31 dX5_digest_9 rfl (fun h9 => ?_) (fun h9 => ?_)
    · exact absurd h9 (show ¬ nI 12 ≤ nI k from nI_ge (by omega) (by omega))
    · refine ev_ldc2_w dX5_digest_12 cn_X5_390 ?_
      refine ev_lload_1 dX5_digest_15 ?_
      refine ev_lmul dX5_digest_16 ?_
      refine ev_aload_0 dX5_digest_17 ?_
      refine ev_iload_3 dX5_digest_18 ?_
      refine Ev.pc 19 rfl ?_
      refine ev_invV (ci := 5) dX5_digest_19 ml_X5_377 mt_X5_countOf (c_X5_countOf d hP hP7 hH hH4) (by first | assumption | decide) (by decide) rfl rfl rfl (rm_ok (by omega)) (Nat.le_of_ble_eq_true rfl) ?_
      refine Ev.pc 22 rfl ?_
      refine ev_i2l dX5_digest_22 ?_
      refine ev_ladd dX5_digest_23 ?_
      refine ev_lstore_1 dX5_digest_24 rfl ?_
      refine ev_iinc_3 (1) dX5_digest_25 rfl rfl ?_
      refine Ev.pc 28 rfl ?_
      refine ev_goto 6 dX5_digest_28 rfl ?_
      rw [nI_1]
      exact ih (k + 1) _ (by omega) (by rw [hh]; rfl)
theorem c_X5_digest (d : Nat) {E : xE} {σ : xS} {P H B S N M : Nat} (hP : σ.1 2 7 = nI P) (hP7 : P ≤ 7) (hH : σ.1 2 8 = nI H) (hH4 : H ≤ 4) (hB : σ.1 2 9 = nI B) (hB3 : B ≤ 3) (hS : σ.1 12 2 = nI S) (hS5 : S ≤ 5) (hN : σ.1 14 2 = nI N) (hN6 : N ≤ 6) (hM : σ.1 16 2 = nI M) (hM6 : M ≤ 6) : Ct E (d + 4) yX5_digest cX5_digest 4 (some .long) [.ref (E.1 0)] σ (some (.long (digC σ P H B S N M))) σ := by
  have e13 : xlen 13 = 20 := by decide
  have e15 : xlen 15 = 24 := by decide
  have e17 : xlen 17 = 24 := by decide
  refine Ct.of (by decide +kernel) (Nat.le_of_ble_eq_true rfl) rfl ?_
  show Ev E _ RX5 cX5_digest 4 _ 0 [some (.ref (E.1 0)), none, none, none] [] _
  refine ev_ldc2_w dX5_digest_0 cn_X5_388 ?_
  refine ev_lstore_1 dX5_digest_3 rfl ?_
  refine ev_iconst_0 dX5_digest_4 ?_
  refine ev_istore_3 dX5_digest_5 rfl ?_
  refine l_X5_digest d hP hP7 hH hH4 ?_ 12 0 _ (by omega) rfl
  refine ev_aload_0 dX5_digest_31 ?_
  refine ev_get dX5_digest_32 fk_X5_10 (by first | assumption | decide) (by decide) rfl ?_
  refine ev_get dX5_digest_35 fk_X5_89 (by first | assumption | decide) (by decide) rfl ?_
  simp only [Nat.reduceAdd]
  refine ev_lload_1 dX5_digest_38 ?_
  refine ev_invV (ci := 4) dX5_digest_39 ml_X5_392 mt_X4_digestOn (c_X4_digestOn d (t := 2) (P := P) (H := H) (B := B) town_now hP hP7 hH hH4 hB hB3) (by first | assumption | decide) (by decide) rfl rfl rfl (rm_ok (by omega)) (Nat.le_of_ble_eq_true rfl) ?_
  refine Ev.pc 42 rfl ?_
  refine ev_lstore_1 dX5_digest_42 rfl ?_
  refine ev_aload_0 dX5_digest_43 ?_
  refine ev_get dX5_digest_44 fk_X5_10 (by first | assumption | decide) (by decide) rfl ?_
  refine ev_get dX5_digest_47 fk_X5_273 (by first | assumption | decide) (by decide) rfl ?_
  simp only [Nat.reduceAdd]
  refine ev_lload_1 dX5_digest_50 ?_
  refine Ev.pc 51 rfl ?_
  refine ev_iconst_2 dX5_digest_51 ?_
  refine ev_invV (ci := 0) dX5_digest_52 ml_X5_396 mt_X0_digestOn (c_X0_digestOn d (i := 12) (n := S) (c0 := 2) hint_all.1 hS (show 4 * S ≤ xlen 13 by omega) (by decide)) (by first | assumption | decide) (by decide) rfl rfl rfl (rm_ok (by omega)) (Nat.le_of_ble_eq_true rfl) ?_
  refine Ev.pc 55 rfl ?_
  refine ev_lstore_1 dX5_digest_55 rfl ?_
  refine ev_aload_0 dX5_digest_56 ?_
  refine ev_get dX5_digest_57 fk_X5_10 (by first | assumption | decide) (by decide) rfl ?_
  refine Ev.pc 60 rfl ?_
  refine ev_get dX5_digest_60 fk_X5_295 (by first | assumption | decide) (by decide) rfl ?_
  simp only [Nat.reduceAdd]
  refine ev_lload_1 dX5_digest_63 ?_
  refine ev_iconst_0 dX5_digest_64 ?_
  refine ev_invV (ci := 0) dX5_digest_65 ml_X5_396 mt_X0_digestOn (c_X0_digestOn d (i := 14) (n := N) (c0 := 0) hint_all.2.1 hN (show 4 * N ≤ xlen 15 by omega) (by decide)) (by first | assumption | decide) (by decide) rfl rfl rfl (rm_ok (by omega)) (Nat.le_of_ble_eq_true rfl) ?_
  refine Ev.pc 68 rfl ?_
  refine ev_lstore_1 dX5_digest_68 rfl ?_
  refine Ev.pc 69 rfl ?_
  refine ev_aload_0 dX5_digest_69 ?_
  refine ev_get dX5_digest_70 fk_X5_10 (by first | assumption | decide) (by decide) rfl ?_
  refine ev_get dX5_digest_73 fk_X5_298 (by first | assumption | decide) (by decide) rfl ?_
  simp only [Nat.reduceAdd]
  refine ev_lload_1 dX5_digest_76 ?_
  refine ev_iconst_0 dX5_digest_77 ?_
  refine Ev.pc 78 rfl ?_
  refine ev_invV (ci := 0) dX5_digest_78 ml_X5_396 mt_X0_digestOn (c_X0_digestOn d (i := 16) (n := M) (c0 := 0) hint_all.2.2.1 hM (show 4 * M ≤ xlen 17 by omega) (by decide)) (by first | assumption | decide) (by decide) rfl rfl rfl (rm_ok (by omega)) (Nat.le_of_ble_eq_true rfl) ?_
  refine Ev.pc 81 rfl ?_
  refine ev_lstore_1 dX5_digest_81 rfl ?_
  refine ev_ldc2_w dX5_digest_82 cn_X5_390 ?_
  refine ev_lload_1 dX5_digest_85 ?_
  refine ev_lmul dX5_digest_86 ?_
  refine Ev.pc 87 rfl ?_
  refine ev_aload_0 dX5_digest_87 ?_
  refine ev_get dX5_digest_88 fk_X5_46 (by first | assumption | decide) (by decide) rfl ?_
  refine ev_ladd dX5_digest_91 ?_
  refine ev_lstore_1 dX5_digest_92 rfl ?_
  refine ev_ldc2_w dX5_digest_93 cn_X5_390 ?_
  refine Ev.pc 96 rfl ?_
  refine ev_lload_1 dX5_digest_96 ?_
  refine ev_lmul dX5_digest_97 ?_
  refine ev_aload_0 dX5_digest_98 ?_
  refine ev_get dX5_digest_99 fk_X5_50 (by first | assumption | decide) (by decide) rfl ?_
  refine ev_ladd dX5_digest_102 ?_
  refine Ev.pc 103 rfl ?_
  exact ev_lreturn dX5_digest_103 ⟨by rfl, by rfl⟩
