/-! the reference: the most alike, tell, look, ask -/
theorem xmax_ge (a b : Int32) : a ≤ xmax a b := by
  unfold xmax
  split
  · exact Int32.le_of_lt ‹_›
  · exact Int32.le_refl a
theorem crC_pos (f : Nat → Int32) (cand : Int32) (n : Nat) : 0 ≤ crC f cand n := by
  induction n with
  | zero => exact Int32.le_refl 0
  | succ n ih =>
    show 0 ≤ (if hasI' cand n then xmax (crC f cand n) (cnC f cand n 7) else crC f cand n)
    split
    · exact Int32.le_trans ih (xmax_ge _ _)
    · exact ih
theorem crC_s (f : Nat → Int32) (cand : Int32) (n : Nat) : crC f cand (n + 1) = if hasI' cand n then xmax (crC f cand n) (cnC f cand n 7) else crC f cand n := rfl
theorem cnC_s (f : Nat → Int32) (cand : Int32) (i n : Nat) : cnC f cand i (n + 1) = if hasI' cand n then (if f n = f i then cnC f cand i n + 1 else cnC f cand i n) else cnC f cand i n := rfl
theorem c_X6_mostAlike (d : Nat) {E : xE} {σ : xS} {cand : Int32} : Ct E (d + 1) yX6_mostAlike cX6_mostAlike 6 (some .int) [.ref (E.1 73), .int cand] σ (some (.int (crC (σ.1 80) cand 7))) σ := by
  obtain ⟨F, hF⟩ : ∃ F : Option Value → xS → Prop, F = fun v t => v = some (.int (crC (σ.1 80) cand 7)) ∧ t = σ := ⟨_, rfl⟩
  have inner : ∀ (top : Int32) (a : Nat), a < 7 → hasI' cand a → (∀ z, Ev E (rm (d + 1)) RX6 cX6_mostAlike 6 F 72 [some (.ref (E.1 73)), some (.int cand), some (.int top), some (.int (nI a)), some (.int (cnC (σ.1 80) cand a 7)), z] [] σ) →
      ∀ (n b : Nat) (like : Int32), b + n = 7 → like = cnC (σ.1 80) cand a b → Ev E (rm (d + 1)) RX6 cX6_mostAlike 6 F 16 [some (.ref (E.1 73)), some (.int cand), some (.int top), some (.int (nI a)), some (.int like), some (.int (nI b))] [] σ := by
    intro top a ha hh K n
    induction n with
    | zero =>
      intro b like hb hl
      refine ev_iload_5 dX6_mostAlike_16 ?_
      refine ev_bipush (7) dX6_mostAlike_18 rfl ?_
      refine ev_icmp_ge 72 dX6_mostAlike_20 rfl (fun h20 => ?_) (fun h20 => ?_)
      · rw [hl, show b = 7 by omega]
        exact K _
      · exact absurd (show nI 7 ≤ nI b from nI_le (by omega) (by omega)) h20
    | succ n ih =>
      intro b like hb hl
      refine ev_iload_5 dX6_mostAlike_16 ?_
      refine ev_bipush (7) dX6_mostAlike_18 rfl ?_
      refine ev_icmp_ge 72 dX6_mostAlike_20 rfl (fun h20 => ?_) (fun h20 => ?_)
      · exact absurd h20 (show ¬ nI 7 ≤ nI b from nI_ge (by omega) (by omega))
      · refine ev_iload_1 dX6_mostAlike_23 ?_
        refine ev_iload_3 dX6_mostAlike_24 ?_
        refine ev_invS dX6_mostAlike_25 ml_X6_162 mt_X6_has (c_X6_has d) rfl rfl (rm_ok (by omega)) (Nat.le_of_ble_eq_true rfl) ?_
        refine Ev.pc 28 rfl ?_
        refine ev_if_eq 72 dX6_mostAlike_28 rfl (fun h28 => ?_) (fun h28 => ?_)
        · exact absurd hh (b2i_0.mp h28)
        · refine ev_iload_4 dX6_mostAlike_31 ?_
          refine ev_iload_1 dX6_mostAlike_33 ?_
          refine ev_iload_5 dX6_mostAlike_34 ?_
          refine ev_invS dX6_mostAlike_36 ml_X6_162 mt_X6_has (c_X6_has d) rfl rfl (rm_ok (by omega)) (Nat.le_of_ble_eq_true rfl) ?_
          refine Ev.pc 39 rfl ?_
          refine ev_if_eq 62 dX6_mostAlike_39 rfl (fun h39 => ?_) (fun h39 => ?_)
          · refine ev_iconst_0 dX6_mostAlike_62 ?_
            refine ev_iadd dX6_mostAlike_63 ?_
            refine ev_istore_4 dX6_mostAlike_64 rfl ?_
            refine ev_iinc_5 (1) dX6_mostAlike_66 rfl rfl ?_
            refine ev_goto 16 dX6_mostAlike_69 rfl ?_
            rw [nI_1]
            exact ih (b + 1) _ (by omega) (by rw [cnC_s, hl]; first | rw [if_neg (b2i_0.mp h39), Int32.add_zero] | rw [if_pos (b2i_n0.mp h39), if_neg (fun h => h55 h.symm), Int32.add_zero] | rw [if_pos (b2i_n0.mp h39), if_pos h55.symm])
          · refine ev_aload_0 dX6_mostAlike_42 ?_
            refine ev_get dX6_mostAlike_43 fk_X6_33 (by first | assumption | decide) (by decide) rfl ?_
            refine ev_iload_3 dX6_mostAlike_46 ?_
            refine ev_aldV dX6_mostAlike_47 (by first | assumption | decide) (by have := xls; omega) ?_
            refine ev_aload_0 dX6_mostAlike_48 ?_
            refine Ev.pc 49 rfl ?_
            refine ev_get dX6_mostAlike_49 fk_X6_33 (by first | assumption | decide) (by decide) rfl ?_
            refine ev_iload_5 dX6_mostAlike_52 ?_
            refine ev_aldV dX6_mostAlike_54 (by first | assumption | decide) (by have := xls; omega) ?_
            refine ev_icmp_ne 62 dX6_mostAlike_55 rfl (fun h55 => ?_) (fun h55 => ?_)
            · refine ev_iconst_0 dX6_mostAlike_62 ?_
              refine ev_iadd dX6_mostAlike_63 ?_
              refine ev_istore_4 dX6_mostAlike_64 rfl ?_
              refine ev_iinc_5 (1) dX6_mostAlike_66 rfl rfl ?_
              refine ev_goto 16 dX6_mostAlike_69 rfl ?_
              rw [nI_1]
              exact ih (b + 1) _ (by omega) (by rw [cnC_s, hl]; first | rw [if_neg (b2i_0.mp h39), Int32.add_zero] | rw [if_pos (b2i_n0.mp h39), if_neg (fun h => h55 h.symm), Int32.add_zero] | rw [if_pos (b2i_n0.mp h39), if_pos h55.symm])
            · refine ev_iconst_1 dX6_mostAlike_58 ?_
              refine ev_goto 63 dX6_mostAlike_59 rfl ?_
              refine ev_iadd dX6_mostAlike_63 ?_
              refine ev_istore_4 dX6_mostAlike_64 rfl ?_
              refine ev_iinc_5 (1) dX6_mostAlike_66 rfl rfl ?_
              refine ev_goto 16 dX6_mostAlike_69 rfl ?_
              rw [nI_1]
              exact ih (b + 1) _ (by omega) (by rw [cnC_s, hl]; first | rw [if_neg (b2i_0.mp h39), Int32.add_zero] | rw [if_pos (b2i_n0.mp h39), if_neg (fun h => h55 h.symm), Int32.add_zero] | rw [if_pos (b2i_n0.mp h39), if_pos h55.symm])
  have loop : ∀ (n a : Nat) (top : Int32) (z4 z5 : Option Value), a + n = 7 → top = crC (σ.1 80) cand a → Ev E (rm (d + 1)) RX6 cX6_mostAlike 6 F 4 [some (.ref (E.1 73)), some (.int cand), some (.int top), some (.int (nI a)), z4, z5] [] σ := by
    intro n
    induction n with
    | zero =>
      intro a top z4 z5 ha ht
      rw [hF]
      refine ev_iload_3 dX6_mostAlike_4 ?_
      refine ev_bipush (7) dX6_mostAlike_5 rfl ?_
      refine ev_icmp_ge 91 dX6_mostAlike_7 rfl (fun h7 => ?_) (fun h7 => ?_)
      · refine ev_iload_2 dX6_mostAlike_91 ?_
        exact ev_ireturn dX6_mostAlike_92 ⟨by (rw [ht, show a = 7 by omega]), by rfl⟩
      · exact absurd (show nI 7 ≤ nI a from nI_le (by omega) (by omega)) h7
    | succ n ih =>
      intro a top z4 z5 ha ht
      by_cases q7 : hasI' cand a
      ·
        refine ev_iload_3 dX6_mostAlike_4 ?_
        refine ev_bipush (7) dX6_mostAlike_5 rfl ?_
        refine ev_icmp_ge 91 dX6_mostAlike_7 rfl (fun h7 => ?_) (fun h7 => ?_)
        · exact absurd h7 (show ¬ nI 7 ≤ nI a from nI_ge (by omega) (by omega))
        · refine ev_iconst_0 dX6_mostAlike_10 ?_
          refine ev_istore_4 dX6_mostAlike_11 rfl ?_
          refine ev_iconst_0 dX6_mostAlike_13 ?_
          refine ev_istore_5 dX6_mostAlike_14 rfl ?_
          refine inner top a (by omega) q7 (fun z => ?_) 7 0 0 (by omega) rfl
          refine ev_iload_4 dX6_mostAlike_72 ?_
          refine ev_iload_2 dX6_mostAlike_74 ?_
          refine ev_icmp_le 83 dX6_mostAlike_75 rfl (fun h75 => ?_) (fun h75 => ?_)
          · refine ev_iload_2 dX6_mostAlike_83 ?_
            refine ev_istore_2 dX6_mostAlike_84 rfl ?_
            refine ev_iinc_3 (1) dX6_mostAlike_85 rfl rfl ?_
            refine ev_goto 4 dX6_mostAlike_88 rfl ?_
            rw [nI_1]
            exact ih (a + 1) _ _ _ (by omega) (by rw [crC_s, if_pos q7, ← ht, xmax]; first | rw [if_pos (i_nle.mp h75)] | rw [if_neg (i_nlt.mpr h75)])
          · refine ev_iload_4 dX6_mostAlike_78 ?_
            refine ev_goto 84 dX6_mostAlike_80 rfl ?_
            refine ev_istore_2 dX6_mostAlike_84 rfl ?_
            refine ev_iinc_3 (1) dX6_mostAlike_85 rfl rfl ?_
            refine ev_goto 4 dX6_mostAlike_88 rfl ?_
            rw [nI_1]
            exact ih (a + 1) _ _ _ (by omega) (by rw [crC_s, if_pos q7, ← ht, xmax]; first | rw [if_pos (i_nle.mp h75)] | rw [if_neg (i_nlt.mpr h75)])
      ·
        refine ev_iload_3 dX6_mostAlike_4 ?_
        refine ev_bipush (7) dX6_mostAlike_5 rfl ?_
        refine ev_icmp_ge 91 dX6_mostAlike_7 rfl (fun h7 => ?_) (fun h7 => ?_)
        · exact absurd h7 (show ¬ nI 7 ≤ nI a from nI_ge (by omega) (by omega))
        · refine ev_iconst_0 dX6_mostAlike_10 ?_
          refine ev_istore_4 dX6_mostAlike_11 rfl ?_
          refine ev_iconst_0 dX6_mostAlike_13 ?_
          refine ev_istore_5 dX6_mostAlike_14 rfl ?_
          refine ev_iload_5 dX6_mostAlike_16 ?_
          refine Ev.pc 18 rfl ?_
          refine ev_bipush (7) dX6_mostAlike_18 rfl ?_
          refine ev_icmp_ge 72 dX6_mostAlike_20 rfl (fun h20 => ?_) (fun h20 => ?_)
          · exact absurd h20 (by decide)
          · refine ev_iload_1 dX6_mostAlike_23 ?_
            refine ev_iload_3 dX6_mostAlike_24 ?_
            refine ev_invS dX6_mostAlike_25 ml_X6_162 mt_X6_has (c_X6_has d) rfl rfl (rm_ok (by omega)) (Nat.le_of_ble_eq_true rfl) ?_
            refine Ev.pc 28 rfl ?_
            refine ev_if_eq 72 dX6_mostAlike_28 rfl (fun h28 => ?_) (fun h28 => ?_)
            · refine ev_iload_4 dX6_mostAlike_72 ?_
              refine ev_iload_2 dX6_mostAlike_74 ?_
              refine ev_icmp_le 83 dX6_mostAlike_75 rfl (fun h75 => ?_) (fun h75 => ?_)
              · refine ev_iload_2 dX6_mostAlike_83 ?_
                refine ev_istore_2 dX6_mostAlike_84 rfl ?_
                refine ev_iinc_3 (1) dX6_mostAlike_85 rfl rfl ?_
                refine ev_goto 4 dX6_mostAlike_88 rfl ?_
                rw [nI_1]
                exact ih (a + 1) _ _ _ (by omega) (by rw [crC_s, if_neg q7, ht])
              · exact absurd (show (0 : Int32) ≤ top by rw [ht]; exact crC_pos _ _ _) h75
            · exact absurd (b2i_n0.mp h28) q7
  rw [hF] at loop
  refine Ct.of (by decide +kernel) (Nat.le_of_ble_eq_true rfl) ⟨_, rfl, rfl⟩ ?_
  show Ev E _ RX6 cX6_mostAlike 6 _ 0 [some (.ref (E.1 73)), some (.int cand), none, none, none, none] [] _
  refine ev_iconst_0 dX6_mostAlike_0 ?_
  refine ev_istore_2 dX6_mostAlike_1 rfl ?_
  refine ev_iconst_0 dX6_mostAlike_2 ?_
  refine ev_istore_3 dX6_mostAlike_3 rfl ?_
  exact loop 7 0 0 _ _ (by omega) rfl
def tmF (g a : Nat → Int32) (n : Nat) : Nat → Int32 := fun b => if b < n then a b else g b
theorem tmF_0 (g a : Nat → Int32) : tmF g a 0 = g := by funext b; simp [tmF]
theorem tmF_s (g a : Nat → Int32) (n : Nat) : upd (tmF g a n) n (a n) = tmF g a (n + 1) := by
  funext b
  by_cases hb : b = n
  · subst hb; simp [upd, tmF]
  · simp [upd, tmF, hb, show b < n + 1 ↔ b < n by omega]
/-- the row at hand before turn t -/
def rwM (g : Nat → Int32) (a : Nat → Nat → Int32) (n : Nat) : Nat → Nat → Int32
  | 0 => g
  | t + 1 => tmF g (a t) n
theorem rwM_s (g : Nat → Int32) (a : Nat → Nat → Int32) (n t : Nat) : tmF (rwM g a n t) (a t) n = rwM g a n (t + 1) := by
  cases t with
  | zero => rfl
  | succ t => funext b; by_cases hb : b < n <;> simp [rwM, tmF, hb]
def tlS (g : Nat → Int32) (a : Nat → Nat → Int32) (n : Nat) (cand : Int32) : Nat → Int32 × Int32
  | 0 => (-1, 1000000)
  | t + 1 => if crC (rwM g a n (t + 1)) cand 7 < (tlS g a n cand t).2 then (nI t, crC (rwM g a n (t + 1)) cand 7) else tlS g a n cand t
def tlA (f : Nat → Int32) (t p : Nat) : Int32 := goodM (f (26 + p)) (f (33 + p)) (nI t)
def mTell (σ : xS) (P : Nat) (set : Int32) : Int32 × xS :=
  if set = 0 then (-1, σ) else ((tlS (σ.1 80) (tlA (σ.1 74)) P set 31).1, xrow σ 80 (rwM (σ.1 80) (tlA (σ.1 74)) P 31))
theorem c_X6_tell (d : Nat) {E : xE} {σ : xS} {P S : Nat} (hP : σ.1 74 0 = nI P) (hP7 : P ≤ 7) (hS : σ.1 74 3 = nI S) (hS5 : S ≤ 5) : Ct E (d + 2) yX6_tell cX6_tell 6 (some .int) [.ref (E.1 73)] σ (some (.int (mTell σ P (seenM (σ.1 74) P S)).1)) (mTell σ P (seenM (σ.1 74) P S)).2 := by
  obtain ⟨set, hset⟩ : ∃ x, x = seenM (σ.1 74) P S := ⟨_, rfl⟩
  rw [← hset]
  obtain ⟨g, hg⟩ : ∃ x, x = σ.1 80 := ⟨_, rfl⟩
  obtain ⟨A, hA⟩ : ∃ x, x = tlA (σ.1 74) := ⟨_, rfl⟩
  by_cases q7 : set = 0
  · rw [mTell, if_pos q7]
    refine Ct.of (by decide +kernel) (Nat.le_of_ble_eq_true rfl) ⟨_, rfl, rfl⟩ ?_
    show Ev E _ RX6 cX6_tell 6 _ 0 [some (.ref (E.1 73)), none, none, none, none, none] [] _
    refine ev_aload_0 dX6_tell_0 ?_
    refine ev_invV (ci := 6) dX6_tell_1 ml_X6_173 mt_X6_seenOnes (c_X6_seenOnes d hP hP7 hS hS5) (by first | assumption | decide) (by decide) rfl rfl rfl (rm_ok (by omega)) (Nat.le_of_ble_eq_true rfl) ?_
    rw [← hset]
    refine Ev.pc 4 rfl ?_
    refine ev_istore_1 dX6_tell_4 rfl ?_
    refine ev_iconst_m1 dX6_tell_5 ?_
    refine ev_istore_2 dX6_tell_6 rfl ?_
    refine Ev.pc 7 rfl ?_
    refine ev_ldc dX6_tell_7 cn_X6_172 ?_
    refine ev_istore_3 dX6_tell_9 rfl ?_
    refine ev_iconst_0 dX6_tell_10 ?_
    refine ev_istore_4 dX6_tell_11 rfl ?_
    refine ev_iload_4 dX6_tell_13 ?_
    refine Ev.pc 15 rfl ?_
    refine ev_bipush (30) dX6_tell_15 rfl ?_
    refine ev_icmp_gt 113 dX6_tell_17 rfl (fun h17 => ?_) (fun h17 => ?_)
    · exact absurd h17 (by decide)
    · refine ev_iload_1 dX6_tell_20 ?_
      refine ev_if_eq 113 dX6_tell_21 rfl (fun h21 => ?_) (fun h21 => ?_)
      · refine ev_iload_2 dX6_tell_113 ?_
        exact ev_ireturn dX6_tell_114 ⟨by rfl, by rfl⟩
      · exact absurd q7 h21
  rw [mTell, if_neg q7, ← hg, ← hA]
  dsimp only
  obtain ⟨F, hF⟩ : ∃ F : Option Value → xS → Prop, F = fun v t => v = some (.int (tlS g A P set 31).1) ∧ t = xrow σ 80 (rwM g A P 31) := ⟨_, rfl⟩
  have inner : ∀ (best few : Int32) (t : Nat) (h : Nat → Int32), (∀ z, Ev E (rm (d + 2)) RX6 cX6_tell 6 F 74 [some (.ref (E.1 73)), some (.int set), some (.int best), some (.int few), some (.int (nI t)), z] [] (xrow σ 80 (tmF h (A t) P))) →
      ∀ (n b : Nat), b + n = P → Ev E (rm (d + 2)) RX6 cX6_tell 6 F 27 [some (.ref (E.1 73)), some (.int set), some (.int best), some (.int few), some (.int (nI t)), some (.int (nI b))] [] (xrow σ 80 (tmF h (A t) b)) := by
    intro best few t h K n
    induction n with
    | zero =>
      intro b hb
      refine ev_iload_5 dX6_tell_27 ?_
      refine ev_aload_0 dX6_tell_29 ?_
      refine ev_invV (ci := 6) dX6_tell_30 ml_X6_52 mt_X6_many (c_X6_many d) (by first | assumption | decide) (by decide) rfl rfl rfl (rm_ok (by omega)) (Nat.le_of_ble_eq_true rfl) ?_
      refine Ev.pc 33 rfl ?_
      rw [xrow_ne _ _ (by decide), hP]
      refine ev_icmp_ge 74 dX6_tell_33 rfl (fun h33 => ?_) (fun h33 => ?_)
      · rw [show b = P by omega]
        exact K _
      · exact absurd (nI_le (by omega) (by omega)) h33
    | succ n ih =>
      intro b hb
      refine ev_iload_5 dX6_tell_27 ?_
      refine ev_aload_0 dX6_tell_29 ?_
      refine ev_invV (ci := 6) dX6_tell_30 ml_X6_52 mt_X6_many (c_X6_many d) (by first | assumption | decide) (by decide) rfl rfl rfl (rm_ok (by omega)) (Nat.le_of_ble_eq_true rfl) ?_
      refine Ev.pc 33 rfl ?_
      rw [xrow_ne _ _ (by decide), hP]
      refine ev_icmp_ge 74 dX6_tell_33 rfl (fun h33 => ?_) (fun h33 => ?_)
      · exact absurd h33 (nI_ge (by omega) (by omega))
      · refine ev_aload_0 dX6_tell_36 ?_
        refine ev_get dX6_tell_37 fk_X6_33 (by first | assumption | decide) (by decide) rfl ?_
        refine ev_iload_5 dX6_tell_40 ?_
        refine ev_aload_0 dX6_tell_42 ?_
        refine ev_get dX6_tell_43 fk_X6_7 (by first | assumption | decide) (by decide) rfl ?_
        refine Ev.pc 46 rfl ?_
        refine ev_bipush (26) dX6_tell_46 rfl ?_
        refine ev_iload_5 dX6_tell_48 ?_
        refine ev_iadd dX6_tell_50 ?_
        refine ev_aldA (n := 26) dX6_tell_51 (by first | assumption | decide) (by have := xls; omega) ?_
        refine ev_aload_0 dX6_tell_52 ?_
        refine Ev.pc 53 rfl ?_
        refine ev_get dX6_tell_53 fk_X6_7 (by first | assumption | decide) (by decide) rfl ?_
        refine ev_bipush (33) dX6_tell_56 rfl ?_
        refine ev_iload_5 dX6_tell_58 ?_
        refine ev_iadd dX6_tell_60 ?_
        refine ev_aldA (n := 33) dX6_tell_61 (by first | assumption | decide) (by have := xls; omega) ?_
        refine Ev.pc 62 rfl ?_
        refine ev_iload_4 dX6_tell_62 ?_
        refine ev_invS dX6_tell_64 ml_X6_84 mt_X6_goodAs (c_X6_goodAs d) rfl rfl (rm_ok (by omega)) (Nat.le_of_ble_eq_true rfl) ?_
        refine Ev.pc 67 rfl ?_
        rw [xrow_ne _ _ (by decide), show goodM (σ.1 74 (26 + b)) (σ.1 74 (33 + b)) (nI t) = A t b by rw [hA]; rfl]
        refine ev_astN (k := b) dX6_tell_67 (by first | assumption | decide) (by first | rfl | (simp only [fa_lit, nI_add, pk_mul]; done) | (simp only [fa_lit, nI_add, pk_mul]; congr 1; omega)) (by have := xls; omega) ?_
        refine ev_iinc_5 (1) dX6_tell_68 rfl rfl ?_
        refine ev_goto 27 dX6_tell_71 rfl ?_
        rw [xrow_at, xrow_row, nI_1, tmF_s]
        exact ih (b + 1) (by omega)
  have loop : ∀ (n t : Nat) (best few : Int32) (z : Option Value), t + n = 31 → (best, few) = tlS g A P set t → Ev E (rm (d + 2)) RX6 cX6_tell 6 F 13 [some (.ref (E.1 73)), some (.int set), some (.int best), some (.int few), some (.int (nI t)), z] [] (xrow σ 80 (rwM g A P t)) := by
    intro n
    induction n with
    | zero =>
      intro t best few z ht hs
      rw [hF]
      refine ev_iload_4 dX6_tell_13 ?_
      refine ev_bipush (30) dX6_tell_15 rfl ?_
      refine ev_icmp_gt 113 dX6_tell_17 rfl (fun h17 => ?_) (fun h17 => ?_)
      · refine ev_iload_2 dX6_tell_113 ?_
        exact ev_ireturn dX6_tell_114 ⟨by (rw [show 31 = t by omega, ← hs]), by (rw [show 31 = t by omega])⟩
      · exact absurd (show nI 30 < nI t from nI_lt (by omega) (by omega)) h17
    | succ n ih =>
      intro t best few z ht hs
      have hs2 : few = (tlS g A P set t).2 := by rw [← hs]
      refine ev_iload_4 dX6_tell_13 ?_
      refine ev_bipush (30) dX6_tell_15 rfl ?_
      refine ev_icmp_gt 113 dX6_tell_17 rfl (fun h17 => ?_) (fun h17 => ?_)
      · exact absurd h17 (show ¬ nI 30 < nI t from nI_nlt (by omega) (by omega))
      · refine ev_iload_1 dX6_tell_20 ?_
        refine ev_if_eq 113 dX6_tell_21 rfl (fun h21 => ?_) (fun h21 => ?_)
        · exact absurd h21 q7
        · refine ev_iconst_0 dX6_tell_24 ?_
          refine ev_istore_5 dX6_tell_25 rfl ?_
          have hi := inner best few t (rwM g A P t) ?_ P 0 (by omega)
          · rw [tmF_0] at hi
            exact hi
          · intro z
            rw [rwM_s]
            refine ev_aload_0 dX6_tell_74 ?_
            refine ev_iload_1 dX6_tell_75 ?_
            refine ev_invV (ci := 6) dX6_tell_76 ml_X6_176 mt_X6_mostAlike (c_X6_mostAlike d) (by first | assumption | decide) (by decide) rfl rfl rfl (rm_ok (by omega)) (Nat.le_of_ble_eq_true rfl) ?_
            rw [xrow_at]
            refine Ev.pc 79 rfl ?_
            refine ev_istore_5 dX6_tell_79 rfl ?_
            refine ev_iload_5 dX6_tell_81 ?_
            refine Ev.pc 83 rfl ?_
            refine ev_iload_3 dX6_tell_83 ?_
            refine ev_icmp_ge 92 dX6_tell_84 rfl (fun h84 => ?_) (fun h84 => ?_)
            · refine ev_iload_2 dX6_tell_92 ?_
              refine ev_istore_2 dX6_tell_93 rfl ?_
              refine ev_iload_5 dX6_tell_94 ?_
              refine ev_iload_3 dX6_tell_96 ?_
              refine ev_icmp_ge 105 dX6_tell_97 rfl (fun h97 => ?_) (fun h97 => ?_)
              · refine ev_iload_3 dX6_tell_105 ?_
                refine ev_istore_3 dX6_tell_106 rfl ?_
                refine ev_iinc_4 (1) dX6_tell_107 rfl rfl ?_
                refine ev_goto 13 dX6_tell_110 rfl ?_
                rw [nI_1]
                exact ih (t + 1) _ _ _ (by omega) (by rw [tlS, ← hs2, ← hs]; first | exact absurd h84 h97 | exact absurd h97 h84 | rw [if_neg (Int32.not_lt.mpr h84)] | rw [if_pos (Int32.not_le.mp h84)])
              · refine ev_iload_5 dX6_tell_100 ?_
                refine ev_goto 106 dX6_tell_102 rfl ?_
                refine ev_istore_3 dX6_tell_106 rfl ?_
                refine ev_iinc_4 (1) dX6_tell_107 rfl rfl ?_
                refine ev_goto 13 dX6_tell_110 rfl ?_
                rw [nI_1]
                exact ih (t + 1) _ _ _ (by omega) (by rw [tlS, ← hs2, ← hs]; first | exact absurd h84 h97 | exact absurd h97 h84 | rw [if_neg (Int32.not_lt.mpr h84)] | rw [if_pos (Int32.not_le.mp h84)])
            · refine ev_iload_4 dX6_tell_87 ?_
              refine ev_goto 93 dX6_tell_89 rfl ?_
              refine ev_istore_2 dX6_tell_93 rfl ?_
              refine ev_iload_5 dX6_tell_94 ?_
              refine ev_iload_3 dX6_tell_96 ?_
              refine ev_icmp_ge 105 dX6_tell_97 rfl (fun h97 => ?_) (fun h97 => ?_)
              · refine ev_iload_3 dX6_tell_105 ?_
                refine ev_istore_3 dX6_tell_106 rfl ?_
                refine ev_iinc_4 (1) dX6_tell_107 rfl rfl ?_
                refine ev_goto 13 dX6_tell_110 rfl ?_
                rw [nI_1]
                exact ih (t + 1) _ _ _ (by omega) (by rw [tlS, ← hs2, ← hs]; first | exact absurd h84 h97 | exact absurd h97 h84 | rw [if_neg (Int32.not_lt.mpr h84)] | rw [if_pos (Int32.not_le.mp h84)])
              · refine ev_iload_5 dX6_tell_100 ?_
                refine ev_goto 106 dX6_tell_102 rfl ?_
                refine ev_istore_3 dX6_tell_106 rfl ?_
                refine ev_iinc_4 (1) dX6_tell_107 rfl rfl ?_
                refine ev_goto 13 dX6_tell_110 rfl ?_
                rw [nI_1]
                exact ih (t + 1) _ _ _ (by omega) (by rw [tlS, ← hs2, ← hs]; first | exact absurd h84 h97 | exact absurd h97 h84 | rw [if_neg (Int32.not_lt.mpr h84)] | rw [if_pos (Int32.not_le.mp h84)])
  rw [hF] at loop
  refine Ct.of (by decide +kernel) (Nat.le_of_ble_eq_true rfl) ⟨_, rfl, rfl⟩ ?_
  show Ev E _ RX6 cX6_tell 6 _ 0 [some (.ref (E.1 73)), none, none, none, none, none] [] _
  refine ev_aload_0 dX6_tell_0 ?_
  refine ev_invV (ci := 6) dX6_tell_1 ml_X6_173 mt_X6_seenOnes (c_X6_seenOnes d hP hP7 hS hS5) (by first | assumption | decide) (by decide) rfl rfl rfl (rm_ok (by omega)) (Nat.le_of_ble_eq_true rfl) ?_
  rw [← hset]
  refine Ev.pc 4 rfl ?_
  refine ev_istore_1 dX6_tell_4 rfl ?_
  refine ev_iconst_m1 dX6_tell_5 ?_
  refine ev_istore_2 dX6_tell_6 rfl ?_
  refine Ev.pc 7 rfl ?_
  refine ev_ldc dX6_tell_7 cn_X6_172 ?_
  refine ev_topi (fun K hK => ?_)
  refine ev_istore_3 dX6_tell_9 rfl ?_
  refine ev_iconst_0 dX6_tell_10 ?_
  refine ev_istore_4 dX6_tell_11 rfl ?_
  have h := loop 31 0 (-1) K none (by omega) (by rw [hK, tlS])
  rw [show xrow σ 80 (rwM g A P 0) = σ by rw [rwM, hg, xrow_id]] at h
  exact h

theorem c_X6_look_bad (d : Nat) {E : xE} {σ : xS} {p : Int32} (q7 : ¬ hasIn (σ.1 74 0) p) : Ct E (d + 2) yX6_look cX6_look 7 (some .int) [.ref (E.1 73), .int p] σ (some (.int (-2))) (mBad σ) := by
  refine Ct.of (by decide +kernel) (Nat.le_of_ble_eq_true rfl) ⟨_, rfl, rfl⟩ ?_
  show Ev E _ RX6 cX6_look 7 _ 0 [some (.ref (E.1 73)), some (.int p), none, none, none, none, none] [] _
  refine ev_aload_0 dX6_look_0 ?_
  refine ev_iload_1 dX6_look_1 ?_
  refine ev_invV (ci := 6) dX6_look_2 ml_X6_121 mt_X6_isPromise (c_X6_isPromise d) (by first | assumption | decide) (by decide) rfl rfl rfl (rm_ok (by omega)) (Nat.le_of_ble_eq_true rfl) ?_
  refine Ev.pc 5 rfl ?_
  refine ev_if_ne 15 dX6_look_5 rfl (fun h5 => ?_) (fun h5 => ?_)
  · exact absurd (b2i_n0.mp h5) q7
  · refine ev_aload_0 dX6_look_8 ?_
    refine ev_bipush (-2) dX6_look_9 rfl ?_
    refine ev_invV (ci := 6) dX6_look_11 ml_X6_71 mt_X6_bad (c_X6_bad d) (by first | assumption | decide) (by decide) rfl rfl rfl (rm_ok (by omega)) (Nat.le_of_ble_eq_true rfl) ?_
    refine Ev.pc 14 rfl ?_
    exact ev_ireturn dX6_look_14 ⟨by rfl, by rfl⟩
def mLook (σ : xS) (p : Nat) (set : Int32) : Int32 × xS :=
  if set ≤ 0 then (-1, σ) else ((tlS (σ.1 80) (fun t k => goodM (nI k) (σ.1 74 (33 + p)) (nI t)) 6 set 61).1, xrow σ 80 (rwM (σ.1 80) (fun t k => goodM (nI k) (σ.1 74 (33 + p)) (nI t)) 6 61))
theorem c_X6_look (d : Nat) {E : xE} {σ : xS} {N p : Nat} (hN : σ.1 74 4 = nI N) (hN6 : N ≤ 6) (h1 : hasIn (σ.1 74 0) (nI p)) (hp : p < 7) : Ct E (d + 2) yX6_look cX6_look 7 (some .int) [.ref (E.1 73), .int (nI p)] σ (some (.int (mLook σ p (kindP (σ.1 74) (nI p) N)).1)) (mLook σ p (kindP (σ.1 74) (nI p) N)).2 := by
  obtain ⟨set, hset⟩ : ∃ x, x = kindP (σ.1 74) (nI p) N := ⟨_, rfl⟩
  rw [← hset]
  obtain ⟨g, hg⟩ : ∃ x, x = σ.1 80 := ⟨_, rfl⟩
  obtain ⟨A, hA⟩ : ∃ x : Nat → Nat → Int32, x = fun t k => goodM (nI k) (σ.1 74 (33 + p)) (nI t) := ⟨_, rfl⟩
  by_cases q7 : set ≤ 0
  · rw [mLook, if_pos q7]
    refine Ct.of (by decide +kernel) (Nat.le_of_ble_eq_true rfl) ⟨_, rfl, rfl⟩ ?_
    show Ev E _ RX6 cX6_look 7 _ 0 [some (.ref (E.1 73)), some (.int (nI p)), none, none, none, none, none] [] _
    refine ev_aload_0 dX6_look_0 ?_
    refine ev_iload_1 dX6_look_1 ?_
    refine ev_invV (ci := 6) dX6_look_2 ml_X6_121 mt_X6_isPromise (c_X6_isPromise d) (by first | assumption | decide) (by decide) rfl rfl rfl (rm_ok (by omega)) (Nat.le_of_ble_eq_true rfl) ?_
    refine Ev.pc 5 rfl ?_
    refine ev_if_ne 15 dX6_look_5 rfl (fun h5 => ?_) (fun h5 => ?_)
    · refine ev_aload_0 dX6_look_15 ?_
      refine ev_iload_1 dX6_look_16 ?_
      refine ev_invV (ci := 6) dX6_look_17 ml_X6_185 mt_X6_kindsOfPromise (c_X6_kindsOfPromise d hN hN6) (by first | assumption | decide) (by decide) rfl rfl rfl (rm_ok (by omega)) (Nat.le_of_ble_eq_true rfl) ?_
      rw [← hset]
      refine Ev.pc 20 rfl ?_
      refine ev_istore_2 dX6_look_20 rfl ?_
      refine ev_iconst_m1 dX6_look_21 ?_
      refine Ev.pc 22 rfl ?_
      refine ev_istore_3 dX6_look_22 rfl ?_
      refine ev_ldc dX6_look_23 cn_X6_172 ?_
      refine ev_istore_4 dX6_look_25 rfl ?_
      refine ev_iconst_0 dX6_look_27 ?_
      refine ev_istore_5 dX6_look_28 rfl ?_
      refine Ev.pc 30 rfl ?_
      refine ev_iload_5 dX6_look_30 ?_
      refine ev_bipush (60) dX6_look_32 rfl ?_
      refine ev_icmp_gt 123 dX6_look_34 rfl (fun h34 => ?_) (fun h34 => ?_)
      · exact absurd h34 (by decide)
      · refine ev_iload_2 dX6_look_37 ?_
        refine ev_if_le 123 dX6_look_38 rfl (fun h38 => ?_) (fun h38 => ?_)
        · refine ev_iload_3 dX6_look_123 ?_
          exact ev_ireturn dX6_look_124 ⟨by rfl, by rfl⟩
        · exact absurd q7 h38
    · exact absurd h1 (b2i_0.mp h5)
  rw [mLook, if_neg q7, ← hg, ← hA]
  dsimp only
  obtain ⟨F, hF⟩ : ∃ F : Option Value → xS → Prop, F = fun v t => v = some (.int (tlS g A 6 set 61).1) ∧ t = xrow σ 80 (rwM g A 6 61) := ⟨_, rfl⟩
  have inner : ∀ (best few : Int32) (t : Nat) (h : Nat → Int32), (∀ z, Ev E (rm (d + 2)) RX6 cX6_look 7 F 80 [some (.ref (E.1 73)), some (.int (nI p)), some (.int set), some (.int best), some (.int few), some (.int (nI t)), z] [] (xrow σ 80 (tmF h (A t) 6))) →
      ∀ (n b : Nat), b + n = 6 → Ev E (rm (d + 2)) RX6 cX6_look 7 F 44 [some (.ref (E.1 73)), some (.int (nI p)), some (.int set), some (.int best), some (.int few), some (.int (nI t)), some (.int (nI b))] [] (xrow σ 80 (tmF h (A t) b)) := by
    intro best few t h K n
    induction n with
    | zero =>
      intro b hb
      refine ev_iload_6 dX6_look_44 ?_
      refine ev_bipush (6) dX6_look_46 rfl ?_
      refine ev_icmp_ge 80 dX6_look_48 rfl (fun h48 => ?_) (fun h48 => ?_)
      · rw [show b = 6 by omega]
        exact K _
      · exact absurd (show nI 6 ≤ nI b from nI_le (by omega) (by omega)) h48
    | succ n ih =>
      intro b hb
      refine ev_iload_6 dX6_look_44 ?_
      refine ev_bipush (6) dX6_look_46 rfl ?_
      refine ev_icmp_ge 80 dX6_look_48 rfl (fun h48 => ?_) (fun h48 => ?_)
      · exact absurd h48 (show ¬ nI 6 ≤ nI b from nI_ge (by omega) (by omega))
      · refine ev_aload_0 dX6_look_51 ?_
        refine ev_get dX6_look_52 fk_X6_33 (by first | assumption | decide) (by decide) rfl ?_
        refine ev_iload_6 dX6_look_55 ?_
        refine ev_iload_6 dX6_look_57 ?_
        refine ev_aload_0 dX6_look_59 ?_
        refine Ev.pc 60 rfl ?_
        refine ev_get dX6_look_60 fk_X6_7 (by first | assumption | decide) (by decide) rfl ?_
        refine ev_bipush (33) dX6_look_63 rfl ?_
        refine ev_iload_1 dX6_look_65 ?_
        refine ev_iadd dX6_look_66 ?_
        refine ev_aldA (n := 33) dX6_look_67 (by first | assumption | decide) (by have := xls; omega) ?_
        refine Ev.pc 68 rfl ?_
        refine ev_iload_5 dX6_look_68 ?_
        refine ev_invS dX6_look_70 ml_X6_84 mt_X6_goodAs (c_X6_goodAs d) rfl rfl (rm_ok (by omega)) (Nat.le_of_ble_eq_true rfl) ?_
        refine Ev.pc 73 rfl ?_
        rw [xrow_ne _ _ (by decide), show goodM (nI b) (σ.1 74 (33 + p)) (nI t) = A t b by rw [hA]]
        refine ev_astN (k := b) dX6_look_73 (by first | assumption | decide) (by first | rfl | (simp only [fa_lit, nI_add, pk_mul]; done) | (simp only [fa_lit, nI_add, pk_mul]; congr 1; omega)) (by have := xls; omega) ?_
        refine ev_iinc_6 (1) dX6_look_74 rfl rfl ?_
        refine ev_goto 44 dX6_look_77 rfl ?_
        rw [xrow_at, xrow_row, nI_1, tmF_s]
        exact ih (b + 1) (by omega)
  have loop : ∀ (n t : Nat) (best few : Int32) (z : Option Value), t + n = 61 → (best, few) = tlS g A 6 set t → Ev E (rm (d + 2)) RX6 cX6_look 7 F 30 [some (.ref (E.1 73)), some (.int (nI p)), some (.int set), some (.int best), some (.int few), some (.int (nI t)), z] [] (xrow σ 80 (rwM g A 6 t)) := by
    intro n
    induction n with
    | zero =>
      intro t best few z ht hs
      rw [hF]
      refine ev_iload_5 dX6_look_30 ?_
      refine ev_bipush (60) dX6_look_32 rfl ?_
      refine ev_icmp_gt 123 dX6_look_34 rfl (fun h34 => ?_) (fun h34 => ?_)
      · refine ev_iload_3 dX6_look_123 ?_
        exact ev_ireturn dX6_look_124 ⟨by (rw [show 61 = t by omega, ← hs]), by (rw [show 61 = t by omega])⟩
      · exact absurd (show nI 60 < nI t from nI_lt (by omega) (by omega)) h34
    | succ n ih =>
      intro t best few z ht hs
      have hs2 : few = (tlS g A 6 set t).2 := by rw [← hs]
      refine ev_iload_5 dX6_look_30 ?_
      refine ev_bipush (60) dX6_look_32 rfl ?_
      refine ev_icmp_gt 123 dX6_look_34 rfl (fun h34 => ?_) (fun h34 => ?_)
      · exact absurd h34 (show ¬ nI 60 < nI t from nI_nlt (by omega) (by omega))
      · refine ev_iload_2 dX6_look_37 ?_
        refine ev_if_le 123 dX6_look_38 rfl (fun h38 => ?_) (fun h38 => ?_)
        · exact absurd h38 q7
        · refine ev_iconst_0 dX6_look_41 ?_
          refine ev_istore_6 dX6_look_42 rfl ?_
          have hi := inner best few t (rwM g A 6 t) ?_ 6 0 (by omega)
          · rw [tmF_0] at hi
            exact hi
          · intro z
            rw [rwM_s]
            refine ev_aload_0 dX6_look_80 ?_
            refine ev_iload_2 dX6_look_81 ?_
            refine ev_invV (ci := 6) dX6_look_82 ml_X6_176 mt_X6_mostAlike (c_X6_mostAlike d) (by first | assumption | decide) (by decide) rfl rfl rfl (rm_ok (by omega)) (Nat.le_of_ble_eq_true rfl) ?_
            rw [xrow_at]
            refine Ev.pc 85 rfl ?_
            refine ev_istore_6 dX6_look_85 rfl ?_
            refine ev_iload_6 dX6_look_87 ?_
            refine Ev.pc 89 rfl ?_
            refine ev_iload_4 dX6_look_89 ?_
            refine ev_icmp_ge 99 dX6_look_91 rfl (fun h91 => ?_) (fun h91 => ?_)
            · refine ev_iload_3 dX6_look_99 ?_
              refine ev_istore_3 dX6_look_100 rfl ?_
              refine ev_iload_6 dX6_look_101 ?_
              refine ev_iload_4 dX6_look_103 ?_
              refine ev_icmp_ge 113 dX6_look_105 rfl (fun h105 => ?_) (fun h105 => ?_)
              · refine ev_iload_4 dX6_look_113 ?_
                refine ev_istore_4 dX6_look_115 rfl ?_
                refine ev_iinc_5 (1) dX6_look_117 rfl rfl ?_
                refine ev_goto 30 dX6_look_120 rfl ?_
                rw [nI_1]
                exact ih (t + 1) _ _ _ (by omega) (by rw [tlS, ← hs2, ← hs]; first | exact absurd h91 h105 | exact absurd h105 h91 | rw [if_neg (Int32.not_lt.mpr h91)] | rw [if_pos (Int32.not_le.mp h91)])
              · refine ev_iload_6 dX6_look_108 ?_
                refine ev_goto 115 dX6_look_110 rfl ?_
                refine ev_istore_4 dX6_look_115 rfl ?_
                refine ev_iinc_5 (1) dX6_look_117 rfl rfl ?_
                refine ev_goto 30 dX6_look_120 rfl ?_
                rw [nI_1]
                exact ih (t + 1) _ _ _ (by omega) (by rw [tlS, ← hs2, ← hs]; first | exact absurd h91 h105 | exact absurd h105 h91 | rw [if_neg (Int32.not_lt.mpr h91)] | rw [if_pos (Int32.not_le.mp h91)])
            · refine ev_iload_5 dX6_look_94 ?_
              refine ev_goto 100 dX6_look_96 rfl ?_
              refine ev_istore_3 dX6_look_100 rfl ?_
              refine ev_iload_6 dX6_look_101 ?_
              refine ev_iload_4 dX6_look_103 ?_
              refine ev_icmp_ge 113 dX6_look_105 rfl (fun h105 => ?_) (fun h105 => ?_)
              · refine ev_iload_4 dX6_look_113 ?_
                refine ev_istore_4 dX6_look_115 rfl ?_
                refine ev_iinc_5 (1) dX6_look_117 rfl rfl ?_
                refine ev_goto 30 dX6_look_120 rfl ?_
                rw [nI_1]
                exact ih (t + 1) _ _ _ (by omega) (by rw [tlS, ← hs2, ← hs]; first | exact absurd h91 h105 | exact absurd h105 h91 | rw [if_neg (Int32.not_lt.mpr h91)] | rw [if_pos (Int32.not_le.mp h91)])
              · refine ev_iload_6 dX6_look_108 ?_
                refine ev_goto 115 dX6_look_110 rfl ?_
                refine ev_istore_4 dX6_look_115 rfl ?_
                refine ev_iinc_5 (1) dX6_look_117 rfl rfl ?_
                refine ev_goto 30 dX6_look_120 rfl ?_
                rw [nI_1]
                exact ih (t + 1) _ _ _ (by omega) (by rw [tlS, ← hs2, ← hs]; first | exact absurd h91 h105 | exact absurd h105 h91 | rw [if_neg (Int32.not_lt.mpr h91)] | rw [if_pos (Int32.not_le.mp h91)])
  rw [hF] at loop
  refine Ct.of (by decide +kernel) (Nat.le_of_ble_eq_true rfl) ⟨_, rfl, rfl⟩ ?_
  show Ev E _ RX6 cX6_look 7 _ 0 [some (.ref (E.1 73)), some (.int (nI p)), none, none, none, none, none] [] _
  refine ev_aload_0 dX6_look_0 ?_
  refine ev_iload_1 dX6_look_1 ?_
  refine ev_invV (ci := 6) dX6_look_2 ml_X6_121 mt_X6_isPromise (c_X6_isPromise d) (by first | assumption | decide) (by decide) rfl rfl rfl (rm_ok (by omega)) (Nat.le_of_ble_eq_true rfl) ?_
  refine Ev.pc 5 rfl ?_
  refine ev_if_ne 15 dX6_look_5 rfl (fun h5 => ?_) (fun h5 => ?_)
  · refine ev_aload_0 dX6_look_15 ?_
    refine ev_iload_1 dX6_look_16 ?_
    refine ev_invV (ci := 6) dX6_look_17 ml_X6_185 mt_X6_kindsOfPromise (c_X6_kindsOfPromise d hN hN6) (by first | assumption | decide) (by decide) rfl rfl rfl (rm_ok (by omega)) (Nat.le_of_ble_eq_true rfl) ?_
    rw [← hset]
    refine Ev.pc 20 rfl ?_
    refine ev_istore_2 dX6_look_20 rfl ?_
    refine ev_iconst_m1 dX6_look_21 ?_
    refine Ev.pc 22 rfl ?_
    refine ev_istore_3 dX6_look_22 rfl ?_
    refine ev_ldc dX6_look_23 cn_X6_172 ?_
    refine ev_topi (fun K hK => ?_)
    refine ev_istore_4 dX6_look_25 rfl ?_
    refine ev_iconst_0 dX6_look_27 ?_
    refine ev_istore_5 dX6_look_28 rfl ?_
    refine Ev.pc 30 rfl ?_
    have h := loop 61 0 (-1) K none (by omega) (by rw [hK, tlS])
    rw [show xrow σ 80 (rwM g A 6 0) = σ by rw [rwM, hg, xrow_id]] at h
    exact h
  · exact absurd h1 (b2i_0.mp h5)

theorem c_X6_ask_bad (d : Nat) {E : xE} {σ : xS} {p : Int32} (q7 : ¬ hasIn (σ.1 74 1) p) : Ct E (d + 2) yX6_ask cX6_ask 7 (some .int) [.ref (E.1 73), .int p] σ (some (.int (-2))) (mBad σ) := by
  refine Ct.of (by decide +kernel) (Nat.le_of_ble_eq_true rfl) ⟨_, rfl, rfl⟩ ?_
  show Ev E _ RX6 cX6_ask 7 _ 0 [some (.ref (E.1 73)), some (.int p), none, none, none, none, none] [] _
  refine ev_aload_0 dX6_ask_0 ?_
  refine ev_iload_1 dX6_ask_1 ?_
  refine ev_invV (ci := 6) dX6_ask_2 ml_X6_134 mt_X6_isHearer (c_X6_isHearer d) (by first | assumption | decide) (by decide) rfl rfl rfl (rm_ok (by omega)) (Nat.le_of_ble_eq_true rfl) ?_
  refine Ev.pc 5 rfl ?_
  refine ev_if_ne 15 dX6_ask_5 rfl (fun h5 => ?_) (fun h5 => ?_)
  · exact absurd (b2i_n0.mp h5) q7
  · refine ev_aload_0 dX6_ask_8 ?_
    refine ev_bipush (-2) dX6_ask_9 rfl ?_
    refine ev_invV (ci := 6) dX6_ask_11 ml_X6_71 mt_X6_bad (c_X6_bad d) (by first | assumption | decide) (by decide) rfl rfl rfl (rm_ok (by omega)) (Nat.le_of_ble_eq_true rfl) ?_
    refine Ev.pc 14 rfl ?_
    exact ev_ireturn dX6_ask_14 ⟨by rfl, by rfl⟩
def mAsk (σ : xS) (p : Nat) (set : Int32) : Int32 × xS :=
  if set ≤ 0 then (-1, σ) else ((tlS (σ.1 80) (fun t k => joyM (nI k) (nI t) (σ.1 74 (44 + p))) 6 set 31).1, xrow σ 80 (rwM (σ.1 80) (fun t k => joyM (nI k) (nI t) (σ.1 74 (44 + p))) 6 31))
theorem c_X6_ask (d : Nat) {E : xE} {σ : xS} {N p : Nat} (hN : σ.1 74 5 = nI N) (hN6 : N ≤ 6) (h1 : hasIn (σ.1 74 1) (nI p)) (hp : p < 7) : Ct E (d + 2) yX6_ask cX6_ask 7 (some .int) [.ref (E.1 73), .int (nI p)] σ (some (.int (mAsk σ p (kindH (σ.1 74) (nI p) N)).1)) (mAsk σ p (kindH (σ.1 74) (nI p) N)).2 := by
  obtain ⟨set, hset⟩ : ∃ x, x = kindH (σ.1 74) (nI p) N := ⟨_, rfl⟩
  rw [← hset]
  obtain ⟨g, hg⟩ : ∃ x, x = σ.1 80 := ⟨_, rfl⟩
  obtain ⟨A, hA⟩ : ∃ x : Nat → Nat → Int32, x = fun t k => joyM (nI k) (nI t) (σ.1 74 (44 + p)) := ⟨_, rfl⟩
  by_cases q7 : set ≤ 0
  · rw [mAsk, if_pos q7]
    refine Ct.of (by decide +kernel) (Nat.le_of_ble_eq_true rfl) ⟨_, rfl, rfl⟩ ?_
    show Ev E _ RX6 cX6_ask 7 _ 0 [some (.ref (E.1 73)), some (.int (nI p)), none, none, none, none, none] [] _
    refine ev_aload_0 dX6_ask_0 ?_
    refine ev_iload_1 dX6_ask_1 ?_
    refine ev_invV (ci := 6) dX6_ask_2 ml_X6_134 mt_X6_isHearer (c_X6_isHearer d) (by first | assumption | decide) (by decide) rfl rfl rfl (rm_ok (by omega)) (Nat.le_of_ble_eq_true rfl) ?_
    refine Ev.pc 5 rfl ?_
    refine ev_if_ne 15 dX6_ask_5 rfl (fun h5 => ?_) (fun h5 => ?_)
    · refine ev_aload_0 dX6_ask_15 ?_
      refine ev_iload_1 dX6_ask_16 ?_
      refine ev_invV (ci := 6) dX6_ask_17 ml_X6_188 mt_X6_kindsOfHearer (c_X6_kindsOfHearer d hN hN6) (by first | assumption | decide) (by decide) rfl rfl rfl (rm_ok (by omega)) (Nat.le_of_ble_eq_true rfl) ?_
      rw [← hset]
      refine Ev.pc 20 rfl ?_
      refine ev_istore_2 dX6_ask_20 rfl ?_
      refine ev_iconst_m1 dX6_ask_21 ?_
      refine Ev.pc 22 rfl ?_
      refine ev_istore_3 dX6_ask_22 rfl ?_
      refine ev_ldc dX6_ask_23 cn_X6_172 ?_
      refine ev_istore_4 dX6_ask_25 rfl ?_
      refine ev_iconst_0 dX6_ask_27 ?_
      refine ev_istore_5 dX6_ask_28 rfl ?_
      refine Ev.pc 30 rfl ?_
      refine ev_iload_5 dX6_ask_30 ?_
      refine ev_bipush (30) dX6_ask_32 rfl ?_
      refine ev_icmp_gt 123 dX6_ask_34 rfl (fun h34 => ?_) (fun h34 => ?_)
      · exact absurd h34 (by decide)
      · refine ev_iload_2 dX6_ask_37 ?_
        refine ev_if_le 123 dX6_ask_38 rfl (fun h38 => ?_) (fun h38 => ?_)
        · refine ev_iload_3 dX6_ask_123 ?_
          exact ev_ireturn dX6_ask_124 ⟨by rfl, by rfl⟩
        · exact absurd q7 h38
    · exact absurd h1 (b2i_0.mp h5)
  rw [mAsk, if_neg q7, ← hg, ← hA]
  dsimp only
  obtain ⟨F, hF⟩ : ∃ F : Option Value → xS → Prop, F = fun v t => v = some (.int (tlS g A 6 set 31).1) ∧ t = xrow σ 80 (rwM g A 6 31) := ⟨_, rfl⟩
  have inner : ∀ (best few : Int32) (t : Nat) (h : Nat → Int32), (∀ z, Ev E (rm (d + 2)) RX6 cX6_ask 7 F 80 [some (.ref (E.1 73)), some (.int (nI p)), some (.int set), some (.int best), some (.int few), some (.int (nI t)), z] [] (xrow σ 80 (tmF h (A t) 6))) →
      ∀ (n b : Nat), b + n = 6 → Ev E (rm (d + 2)) RX6 cX6_ask 7 F 44 [some (.ref (E.1 73)), some (.int (nI p)), some (.int set), some (.int best), some (.int few), some (.int (nI t)), some (.int (nI b))] [] (xrow σ 80 (tmF h (A t) b)) := by
    intro best few t h K n
    induction n with
    | zero =>
      intro b hb
      refine ev_iload_6 dX6_ask_44 ?_
      refine ev_bipush (6) dX6_ask_46 rfl ?_
      refine ev_icmp_ge 80 dX6_ask_48 rfl (fun h48 => ?_) (fun h48 => ?_)
      · rw [show b = 6 by omega]
        exact K _
      · exact absurd (show nI 6 ≤ nI b from nI_le (by omega) (by omega)) h48
    | succ n ih =>
      intro b hb
      refine ev_iload_6 dX6_ask_44 ?_
      refine ev_bipush (6) dX6_ask_46 rfl ?_
      refine ev_icmp_ge 80 dX6_ask_48 rfl (fun h48 => ?_) (fun h48 => ?_)
      · exact absurd h48 (show ¬ nI 6 ≤ nI b from nI_ge (by omega) (by omega))
      · refine ev_aload_0 dX6_ask_51 ?_
        refine ev_get dX6_ask_52 fk_X6_33 (by first | assumption | decide) (by decide) rfl ?_
        refine ev_iload_6 dX6_ask_55 ?_
        refine ev_iload_6 dX6_ask_57 ?_
        refine ev_iload_5 dX6_ask_59 ?_
        refine Ev.pc 61 rfl ?_
        refine ev_aload_0 dX6_ask_61 ?_
        refine ev_get dX6_ask_62 fk_X6_7 (by first | assumption | decide) (by decide) rfl ?_
        refine ev_bipush (44) dX6_ask_65 rfl ?_
        refine ev_iload_1 dX6_ask_67 ?_
        refine ev_iadd dX6_ask_68 ?_
        refine Ev.pc 69 rfl ?_
        refine ev_aldA (n := 44) dX6_ask_69 (by first | assumption | decide) (by have := xls; omega) ?_
        refine ev_invS dX6_ask_70 ml_X6_92 mt_X6_joyAs (c_X6_joyAs d) rfl rfl (rm_ok (by omega)) (Nat.le_of_ble_eq_true rfl) ?_
        refine Ev.pc 73 rfl ?_
        rw [xrow_ne _ _ (by decide), show joyM (nI b) (nI t) (σ.1 74 (44 + p)) = A t b by rw [hA]]
        refine ev_astN (k := b) dX6_ask_73 (by first | assumption | decide) (by first | rfl | (simp only [fa_lit, nI_add, pk_mul]; done) | (simp only [fa_lit, nI_add, pk_mul]; congr 1; omega)) (by have := xls; omega) ?_
        refine ev_iinc_6 (1) dX6_ask_74 rfl rfl ?_
        refine ev_goto 44 dX6_ask_77 rfl ?_
        rw [xrow_at, xrow_row, nI_1, tmF_s]
        exact ih (b + 1) (by omega)
  have loop : ∀ (n t : Nat) (best few : Int32) (z : Option Value), t + n = 31 → (best, few) = tlS g A 6 set t → Ev E (rm (d + 2)) RX6 cX6_ask 7 F 30 [some (.ref (E.1 73)), some (.int (nI p)), some (.int set), some (.int best), some (.int few), some (.int (nI t)), z] [] (xrow σ 80 (rwM g A 6 t)) := by
    intro n
    induction n with
    | zero =>
      intro t best few z ht hs
      rw [hF]
      refine ev_iload_5 dX6_ask_30 ?_
      refine ev_bipush (30) dX6_ask_32 rfl ?_
      refine ev_icmp_gt 123 dX6_ask_34 rfl (fun h34 => ?_) (fun h34 => ?_)
      · refine ev_iload_3 dX6_ask_123 ?_
        exact ev_ireturn dX6_ask_124 ⟨by (rw [show 31 = t by omega, ← hs]), by (rw [show 31 = t by omega])⟩
      · exact absurd (show nI 30 < nI t from nI_lt (by omega) (by omega)) h34
    | succ n ih =>
      intro t best few z ht hs
      have hs2 : few = (tlS g A 6 set t).2 := by rw [← hs]
      refine ev_iload_5 dX6_ask_30 ?_
      refine ev_bipush (30) dX6_ask_32 rfl ?_
      refine ev_icmp_gt 123 dX6_ask_34 rfl (fun h34 => ?_) (fun h34 => ?_)
      · exact absurd h34 (show ¬ nI 30 < nI t from nI_nlt (by omega) (by omega))
      · refine ev_iload_2 dX6_ask_37 ?_
        refine ev_if_le 123 dX6_ask_38 rfl (fun h38 => ?_) (fun h38 => ?_)
        · exact absurd h38 q7
        · refine ev_iconst_0 dX6_ask_41 ?_
          refine ev_istore_6 dX6_ask_42 rfl ?_
          have hi := inner best few t (rwM g A 6 t) ?_ 6 0 (by omega)
          · rw [tmF_0] at hi
            exact hi
          · intro z
            rw [rwM_s]
            refine ev_aload_0 dX6_ask_80 ?_
            refine ev_iload_2 dX6_ask_81 ?_
            refine ev_invV (ci := 6) dX6_ask_82 ml_X6_176 mt_X6_mostAlike (c_X6_mostAlike d) (by first | assumption | decide) (by decide) rfl rfl rfl (rm_ok (by omega)) (Nat.le_of_ble_eq_true rfl) ?_
            rw [xrow_at]
            refine Ev.pc 85 rfl ?_
            refine ev_istore_6 dX6_ask_85 rfl ?_
            refine ev_iload_6 dX6_ask_87 ?_
            refine Ev.pc 89 rfl ?_
            refine ev_iload_4 dX6_ask_89 ?_
            refine ev_icmp_ge 99 dX6_ask_91 rfl (fun h91 => ?_) (fun h91 => ?_)
            · refine ev_iload_3 dX6_ask_99 ?_
              refine ev_istore_3 dX6_ask_100 rfl ?_
              refine ev_iload_6 dX6_ask_101 ?_
              refine ev_iload_4 dX6_ask_103 ?_
              refine ev_icmp_ge 113 dX6_ask_105 rfl (fun h105 => ?_) (fun h105 => ?_)
              · refine ev_iload_4 dX6_ask_113 ?_
                refine ev_istore_4 dX6_ask_115 rfl ?_
                refine ev_iinc_5 (1) dX6_ask_117 rfl rfl ?_
                refine ev_goto 30 dX6_ask_120 rfl ?_
                rw [nI_1]
                exact ih (t + 1) _ _ _ (by omega) (by rw [tlS, ← hs2, ← hs]; first | exact absurd h91 h105 | exact absurd h105 h91 | rw [if_neg (Int32.not_lt.mpr h91)] | rw [if_pos (Int32.not_le.mp h91)])
              · refine ev_iload_6 dX6_ask_108 ?_
                refine ev_goto 115 dX6_ask_110 rfl ?_
                refine ev_istore_4 dX6_ask_115 rfl ?_
                refine ev_iinc_5 (1) dX6_ask_117 rfl rfl ?_
                refine ev_goto 30 dX6_ask_120 rfl ?_
                rw [nI_1]
                exact ih (t + 1) _ _ _ (by omega) (by rw [tlS, ← hs2, ← hs]; first | exact absurd h91 h105 | exact absurd h105 h91 | rw [if_neg (Int32.not_lt.mpr h91)] | rw [if_pos (Int32.not_le.mp h91)])
            · refine ev_iload_5 dX6_ask_94 ?_
              refine ev_goto 100 dX6_ask_96 rfl ?_
              refine ev_istore_3 dX6_ask_100 rfl ?_
              refine ev_iload_6 dX6_ask_101 ?_
              refine ev_iload_4 dX6_ask_103 ?_
              refine ev_icmp_ge 113 dX6_ask_105 rfl (fun h105 => ?_) (fun h105 => ?_)
              · refine ev_iload_4 dX6_ask_113 ?_
                refine ev_istore_4 dX6_ask_115 rfl ?_
                refine ev_iinc_5 (1) dX6_ask_117 rfl rfl ?_
                refine ev_goto 30 dX6_ask_120 rfl ?_
                rw [nI_1]
                exact ih (t + 1) _ _ _ (by omega) (by rw [tlS, ← hs2, ← hs]; first | exact absurd h91 h105 | exact absurd h105 h91 | rw [if_neg (Int32.not_lt.mpr h91)] | rw [if_pos (Int32.not_le.mp h91)])
              · refine ev_iload_6 dX6_ask_108 ?_
                refine ev_goto 115 dX6_ask_110 rfl ?_
                refine ev_istore_4 dX6_ask_115 rfl ?_
                refine ev_iinc_5 (1) dX6_ask_117 rfl rfl ?_
                refine ev_goto 30 dX6_ask_120 rfl ?_
                rw [nI_1]
                exact ih (t + 1) _ _ _ (by omega) (by rw [tlS, ← hs2, ← hs]; first | exact absurd h91 h105 | exact absurd h105 h91 | rw [if_neg (Int32.not_lt.mpr h91)] | rw [if_pos (Int32.not_le.mp h91)])
  rw [hF] at loop
  refine Ct.of (by decide +kernel) (Nat.le_of_ble_eq_true rfl) ⟨_, rfl, rfl⟩ ?_
  show Ev E _ RX6 cX6_ask 7 _ 0 [some (.ref (E.1 73)), some (.int (nI p)), none, none, none, none, none] [] _
  refine ev_aload_0 dX6_ask_0 ?_
  refine ev_iload_1 dX6_ask_1 ?_
  refine ev_invV (ci := 6) dX6_ask_2 ml_X6_134 mt_X6_isHearer (c_X6_isHearer d) (by first | assumption | decide) (by decide) rfl rfl rfl (rm_ok (by omega)) (Nat.le_of_ble_eq_true rfl) ?_
  refine Ev.pc 5 rfl ?_
  refine ev_if_ne 15 dX6_ask_5 rfl (fun h5 => ?_) (fun h5 => ?_)
  · refine ev_aload_0 dX6_ask_15 ?_
    refine ev_iload_1 dX6_ask_16 ?_
    refine ev_invV (ci := 6) dX6_ask_17 ml_X6_188 mt_X6_kindsOfHearer (c_X6_kindsOfHearer d hN hN6) (by first | assumption | decide) (by decide) rfl rfl rfl (rm_ok (by omega)) (Nat.le_of_ble_eq_true rfl) ?_
    rw [← hset]
    refine Ev.pc 20 rfl ?_
    refine ev_istore_2 dX6_ask_20 rfl ?_
    refine ev_iconst_m1 dX6_ask_21 ?_
    refine Ev.pc 22 rfl ?_
    refine ev_istore_3 dX6_ask_22 rfl ?_
    refine ev_ldc dX6_ask_23 cn_X6_172 ?_
    refine ev_topi (fun K hK => ?_)
    refine ev_istore_4 dX6_ask_25 rfl ?_
    refine ev_iconst_0 dX6_ask_27 ?_
    refine ev_istore_5 dX6_ask_28 rfl ?_
    refine Ev.pc 30 rfl ?_
    have h := loop 31 0 (-1) K none (by omega) (by rw [hK, tlS])
    rw [show xrow σ 80 (rwM g A 6 0) = σ by rw [rwM, hg, xrow_id]] at h
    exact h
  · exact absurd h1 (b2i_0.mp h5)
