/-! the reference: what is known of kinds -/
theorem allB_no1 {g : Nat → Bool} {n : Nat} {x : Int32} (hx : x = b2i (allB g n = true)) (h : x = 0) : (0 : Int32) = b2i (allB g (n + 1) = true) := by
  rw [hx] at h
  have q := b2i_0.mp h
  exact b2i_f (by simp [allB, q])
theorem allB_no2 {g : Nat → Bool} {n : Nat} (h : g n = false) : (0 : Int32) = b2i (allB g (n + 1) = true) := b2i_f (by simp [allB, h])
theorem allB_yes {g : Nat → Bool} {n : Nat} {x : Int32} (hx : x = b2i (allB g n = true)) (h : ¬ x = 0) (h2 : g n = true) : (1 : Int32) = b2i (allB g (n + 1) = true) := by
  rw [hx] at h
  exact b2i_t (by simp [allB, h2, b2i_n0.mp h])
theorem mkI_step (g : Nat → Bool) {n : Nat} {x bits : Int32} (hb : bits = mkI g n) (hx : x = b2i (g n = true)) : (¬ x = 0 → bits ||| (1 <<< (nI n &&& 31)) = mkI g (n + 1)) ∧ (x = 0 → bits ||| 0 = mkI g (n + 1)) := by
  subst hb hx
  refine ⟨fun h => ?_, fun h => ?_⟩
  · rw [mkI, if_pos (b2i_n0.mp h)]
  · rw [mkI, if_neg (b2i_0.mp h)]; simp
def seenB (f : Nat → Int32) (p k : Nat) : Bool := decide (goodM (f (26 + p)) (f (33 + p)) (f (48 + 2 * k)) = f (48 + 2 * k + 1))
def seenM (f : Nat → Int32) (P S : Nat) : Int32 := mkI (fun p => allB (seenB f p) S) P
theorem c_X6_seenOnes (d : Nat) {E : xE} {σ : xS} {P S : Nat} (hP : σ.1 74 0 = nI P) (hP7 : P ≤ 7) (hS : σ.1 74 3 = nI S) (hS5 : S ≤ 5) : Ct E (d + 1) yX6_seenOnes cX6_seenOnes 5 (some .int) [.ref (E.1 73)] σ (some (.int (seenM (σ.1 74) P S))) σ := by
  obtain ⟨F, hF⟩ : ∃ F : Option Value → xS → Prop, F = fun v t => v = some (.int (seenM (σ.1 74) P S)) ∧ t = σ := ⟨_, rfl⟩
  have inner : ∀ (bits : Int32) (p : Nat), p < 7 → (∀ (x : Int32) (z : Option Value), x = b2i (allB (seenB (σ.1 74) p) S = true) → Ev E (rm (d + 1)) RX6 cX6_seenOnes 5 F 94 [some (.ref (E.1 73)), some (.int bits), some (.int (nI p)), some (.int x), z] [] σ) →
      ∀ (n k : Nat) (x : Int32), k + n = S → x = b2i (allB (seenB (σ.1 74) p) k = true) → Ev E (rm (d + 1)) RX6 cX6_seenOnes 5 F 17 [some (.ref (E.1 73)), some (.int bits), some (.int (nI p)), some (.int x), some (.int (nI k))] [] σ := by
    intro bits p hp K n
    induction n with
    | zero =>
      intro k x hk hx
      refine ev_iload_4 dX6_seenOnes_17 ?_
      refine ev_aload_0 dX6_seenOnes_19 ?_
      refine ev_get dX6_seenOnes_20 fk_X6_7 (by first | assumption | decide) (by decide) rfl ?_
      refine ev_iconst_3 dX6_seenOnes_23 ?_
      refine ev_aldL (n := 3) dX6_seenOnes_24 (by first | assumption | decide) (by have := xls; omega) ?_
      refine Ev.pc 25 rfl ?_
      refine ev_icmp_ge 94 dX6_seenOnes_25 rfl (fun h25 => ?_) (fun h25 => ?_)
      · exact K x _ (by rw [hx, show k = S by omega])
      · exact absurd (show σ.1 74 3 ≤ nI k by rw [hS]; exact nI_le (by omega) (by omega)) h25
    | succ n ih =>
      intro k x hk hx
      refine ev_iload_4 dX6_seenOnes_17 ?_
      refine ev_aload_0 dX6_seenOnes_19 ?_
      refine ev_get dX6_seenOnes_20 fk_X6_7 (by first | assumption | decide) (by decide) rfl ?_
      refine ev_iconst_3 dX6_seenOnes_23 ?_
      refine ev_aldL (n := 3) dX6_seenOnes_24 (by first | assumption | decide) (by have := xls; omega) ?_
      refine Ev.pc 25 rfl ?_
      refine ev_icmp_ge 94 dX6_seenOnes_25 rfl (fun h25 => ?_) (fun h25 => ?_)
      · exact absurd h25 (by rw [hS]; exact nI_ge (by omega) (by omega))
      · refine ev_iload_3 dX6_seenOnes_28 ?_
        refine ev_if_eq 86 dX6_seenOnes_29 rfl (fun h29 => ?_) (fun h29 => ?_)
        · refine ev_iconst_0 dX6_seenOnes_86 ?_
          refine ev_istore_3 dX6_seenOnes_87 rfl ?_
          refine ev_iinc_4 (1) dX6_seenOnes_88 rfl rfl ?_
          refine ev_goto 17 dX6_seenOnes_91 rfl ?_
          rw [nI_1]
          exact ih (k + 1) _ (by omega) (by first | exact allB_no1 hx h29 | exact allB_no2 (decide_eq_false h79) | exact allB_yes hx h29 (decide_eq_true h79))
        · refine ev_aload_0 dX6_seenOnes_32 ?_
          refine ev_get dX6_seenOnes_33 fk_X6_7 (by first | assumption | decide) (by decide) rfl ?_
          refine ev_bipush (26) dX6_seenOnes_36 rfl ?_
          refine ev_iload_2 dX6_seenOnes_38 ?_
          refine ev_iadd dX6_seenOnes_39 ?_
          refine Ev.pc 40 rfl ?_
          refine ev_aldA (n := 26) dX6_seenOnes_40 (by first | assumption | decide) (by have := xls; omega) ?_
          refine ev_aload_0 dX6_seenOnes_41 ?_
          refine ev_get dX6_seenOnes_42 fk_X6_7 (by first | assumption | decide) (by decide) rfl ?_
          refine ev_bipush (33) dX6_seenOnes_45 rfl ?_
          refine ev_iload_2 dX6_seenOnes_47 ?_
          refine Ev.pc 48 rfl ?_
          refine ev_iadd dX6_seenOnes_48 ?_
          refine ev_aldA (n := 33) dX6_seenOnes_49 (by first | assumption | decide) (by have := xls; omega) ?_
          refine ev_aload_0 dX6_seenOnes_50 ?_
          refine ev_get dX6_seenOnes_51 fk_X6_7 (by first | assumption | decide) (by decide) rfl ?_
          refine ev_bipush (48) dX6_seenOnes_54 rfl ?_
          refine Ev.pc 56 rfl ?_
          refine ev_iconst_2 dX6_seenOnes_56 ?_
          refine ev_iload_4 dX6_seenOnes_57 ?_
          refine ev_imul dX6_seenOnes_59 ?_
          refine ev_iadd dX6_seenOnes_60 ?_
          refine ev_aldN (k := 48 + 2 * k) dX6_seenOnes_61 (by first | assumption | decide) (by first | rfl | (simp only [fa_lit, nI_add, pk_mul]; done) | (simp only [fa_lit, nI_add, pk_mul]; congr 1; omega)) (by have := xls; omega) ?_
          refine Ev.pc 62 rfl ?_
          refine ev_invS dX6_seenOnes_62 ml_X6_84 mt_X6_goodAs (c_X6_goodAs d) rfl rfl (rm_ok (by omega)) (Nat.le_of_ble_eq_true rfl) ?_
          refine Ev.pc 65 rfl ?_
          refine ev_aload_0 dX6_seenOnes_65 ?_
          refine ev_get dX6_seenOnes_66 fk_X6_7 (by first | assumption | decide) (by decide) rfl ?_
          refine ev_bipush (48) dX6_seenOnes_69 rfl ?_
          refine ev_iconst_2 dX6_seenOnes_71 ?_
          refine Ev.pc 72 rfl ?_
          refine ev_iload_4 dX6_seenOnes_72 ?_
          refine ev_imul dX6_seenOnes_74 ?_
          refine ev_iadd dX6_seenOnes_75 ?_
          refine ev_iconst_1 dX6_seenOnes_76 ?_
          refine ev_iadd dX6_seenOnes_77 ?_
          refine Ev.pc 78 rfl ?_
          refine ev_aldN (k := 48 + 2 * k + 1) dX6_seenOnes_78 (by first | assumption | decide) (by first | rfl | (simp only [fa_lit, nI_add, pk_mul]; done) | (simp only [fa_lit, nI_add, pk_mul]; congr 1; omega)) (by have := xls; omega) ?_
          refine ev_icmp_ne 86 dX6_seenOnes_79 rfl (fun h79 => ?_) (fun h79 => ?_)
          · refine ev_iconst_0 dX6_seenOnes_86 ?_
            refine ev_istore_3 dX6_seenOnes_87 rfl ?_
            refine ev_iinc_4 (1) dX6_seenOnes_88 rfl rfl ?_
            refine ev_goto 17 dX6_seenOnes_91 rfl ?_
            rw [nI_1]
            exact ih (k + 1) _ (by omega) (by first | exact allB_no1 hx h29 | exact allB_no2 (decide_eq_false h79) | exact allB_yes hx h29 (decide_eq_true h79))
          · refine ev_iconst_1 dX6_seenOnes_82 ?_
            refine ev_goto 87 dX6_seenOnes_83 rfl ?_
            refine ev_istore_3 dX6_seenOnes_87 rfl ?_
            refine ev_iinc_4 (1) dX6_seenOnes_88 rfl rfl ?_
            refine ev_goto 17 dX6_seenOnes_91 rfl ?_
            rw [nI_1]
            exact ih (k + 1) _ (by omega) (by first | exact allB_no1 hx h29 | exact allB_no2 (decide_eq_false h79) | exact allB_yes hx h29 (decide_eq_true h79))
  have loop : ∀ (n p : Nat) (bits : Int32) (z3 z4 : Option Value), p + n = P → bits = mkI (fun p => allB (seenB (σ.1 74) p) S) p → Ev E (rm (d + 1)) RX6 cX6_seenOnes 5 F 4 [some (.ref (E.1 73)), some (.int bits), some (.int (nI p)), z3, z4] [] σ := by
    intro n
    induction n with
    | zero =>
      intro k bits z3 z4 hk hb
      rw [hF]
      refine ev_iload_2 dX6_seenOnes_4 ?_
      refine ev_aload_0 dX6_seenOnes_5 ?_
      refine ev_invV (ci := 6) dX6_seenOnes_6 ml_X6_52 mt_X6_many (c_X6_many d) (by first | assumption | decide) (by decide) rfl rfl rfl (rm_ok (by omega)) (Nat.le_of_ble_eq_true rfl) ?_
      refine Ev.pc 9 rfl ?_
      refine ev_icmp_ge 114 dX6_seenOnes_9 rfl (fun h9 => ?_) (fun h9 => ?_)
      · refine ev_iload_1 dX6_seenOnes_114 ?_
        exact ev_ireturn dX6_seenOnes_115 ⟨by (rw [hb, show k = P by omega]; rfl), by rfl⟩
      · exact absurd (show σ.1 74 0 ≤ nI k by rw [hP]; exact nI_le (by omega) (by omega)) h9
    | succ n ih =>
      intro k bits z3 z4 hk hb
      refine ev_iload_2 dX6_seenOnes_4 ?_
      refine ev_aload_0 dX6_seenOnes_5 ?_
      refine ev_invV (ci := 6) dX6_seenOnes_6 ml_X6_52 mt_X6_many (c_X6_many d) (by first | assumption | decide) (by decide) rfl rfl rfl (rm_ok (by omega)) (Nat.le_of_ble_eq_true rfl) ?_
      refine Ev.pc 9 rfl ?_
      refine ev_icmp_ge 114 dX6_seenOnes_9 rfl (fun h9 => ?_) (fun h9 => ?_)
      · exact absurd h9 (by rw [hP]; exact nI_ge (by omega) (by omega))
      · refine ev_iconst_1 dX6_seenOnes_12 ?_
        refine ev_istore_3 dX6_seenOnes_13 rfl ?_
        refine ev_iconst_0 dX6_seenOnes_14 ?_
        refine ev_istore_4 dX6_seenOnes_15 rfl ?_
        refine inner bits k (by omega) (fun x z hx => ?_) S 0 1 (by omega) rfl
        have ms := mkI_step (fun p => allB (seenB (σ.1 74) p) S) hb hx
        refine ev_iload_1 dX6_seenOnes_94 ?_
        refine ev_iload_3 dX6_seenOnes_95 ?_
        refine ev_if_eq 105 dX6_seenOnes_96 rfl (fun h96 => ?_) (fun h96 => ?_)
        · refine ev_iconst_0 dX6_seenOnes_105 ?_
          refine ev_ior dX6_seenOnes_106 ?_
          refine ev_istore_1 dX6_seenOnes_107 rfl ?_
          refine ev_iinc_2 (1) dX6_seenOnes_108 rfl rfl ?_
          refine ev_goto 4 dX6_seenOnes_111 rfl ?_
          rw [nI_1]
          exact ih (k + 1) _ _ _ (by omega) (by first | exact ms.1 h96 | exact ms.2 h96)
        · refine ev_iconst_1 dX6_seenOnes_99 ?_
          refine ev_iload_2 dX6_seenOnes_100 ?_
          refine ev_ishl dX6_seenOnes_101 ?_
          refine ev_goto 106 dX6_seenOnes_102 rfl ?_
          refine ev_ior dX6_seenOnes_106 ?_
          refine ev_istore_1 dX6_seenOnes_107 rfl ?_
          refine Ev.pc 108 rfl ?_
          refine ev_iinc_2 (1) dX6_seenOnes_108 rfl rfl ?_
          refine ev_goto 4 dX6_seenOnes_111 rfl ?_
          rw [nI_1]
          exact ih (k + 1) _ _ _ (by omega) (by first | exact ms.1 h96 | exact ms.2 h96)
  rw [hF] at loop
  refine Ct.of (by decide +kernel) (Nat.le_of_ble_eq_true rfl) ⟨_, rfl, rfl⟩ ?_
  show Ev E _ RX6 cX6_seenOnes 5 _ 0 [some (.ref (E.1 73)), none, none, none, none] [] _
  refine ev_iconst_0 dX6_seenOnes_0 ?_
  refine ev_istore_1 dX6_seenOnes_1 rfl ?_
  refine ev_iconst_0 dX6_seenOnes_2 ?_
  refine ev_istore_2 dX6_seenOnes_3 rfl ?_
  exact loop P 0 0 _ _ (by omega) rfl
theorem c_X6_which (d : Nat) {E : xE} {σ : xS} {P S : Nat} (hP : σ.1 74 0 = nI P) (hP7 : P ≤ 7) (hS : σ.1 74 3 = nI S) (hS5 : S ≤ 5) : Ct E (d + 2) yX6_which cX6_which 1 (some .int) [.ref (E.1 73)] σ (some (.int (seenM (σ.1 74) P S))) σ := by
  refine Ct.of (by decide +kernel) (Nat.le_of_ble_eq_true rfl) ⟨_, rfl, rfl⟩ ?_
  show Ev E _ RX6 cX6_which 1 _ 0 [some (.ref (E.1 73))] [] _
  refine ev_aload_0 dX6_which_0 ?_
  refine ev_invV (ci := 6) dX6_which_1 ml_X6_173 mt_X6_seenOnes (c_X6_seenOnes d hP hP7 hS hS5) (by first | assumption | decide) (by decide) rfl rfl rfl (rm_ok (by omega)) (Nat.le_of_ble_eq_true rfl) ?_
  refine Ev.pc 4 rfl ?_
  exact ev_ireturn dX6_which_4 ⟨by rfl, by rfl⟩
def mFour (f : Nat → Int32) (k : Nat) (a b c e : Int32) : Nat → Int32 := upd (upd (upd (upd f k a) (k + 1) b) (k + 2) c) (k + 3) e
theorem mFour_lo (f : Nat → Int32) {k j : Nat} (a b c e : Int32) (h : j < k) : mFour f k a b c e j = f j := by
  rw [mFour, upd_ne _ _ (by omega), upd_ne _ _ (by omega), upd_ne _ _ (by omega), upd_ne _ _ (by omega)]
theorem c_X6_layFour (d : Nat) {E : xE} {σ : xS} {k : Nat} {i a b c e : Int32} (hi : i = nI k) (hk : k + 3 < 106) : Ct E d yX6_layFour cX6_layFour 6 none [.ref (E.1 73), .int i, .int a, .int b, .int c, .int e] σ none (xrow σ 74 (mFour (σ.1 74) k a b c e)) := by
  subst hi
  refine Ct.of (by decide +kernel) (Nat.le_of_ble_eq_true rfl) rfl ?_
  show Ev E _ RX6 cX6_layFour 6 _ 0 [some (.ref (E.1 73)), some (.int (nI k)), some (.int a), some (.int b), some (.int c), some (.int e)] [] _
  refine ev_aload_0 dX6_layFour_0 ?_
  refine ev_get dX6_layFour_1 fk_X6_7 (by first | assumption | decide) (by decide) rfl ?_
  refine ev_iload_1 dX6_layFour_4 ?_
  refine ev_iload_2 dX6_layFour_5 ?_
  refine ev_astV dX6_layFour_6 (by first | assumption | decide) (by have := xls; omega) ?_
  refine Ev.pc 7 rfl ?_
  refine ev_aload_0 dX6_layFour_7 ?_
  refine ev_get dX6_layFour_8 fk_X6_7 (by first | assumption | decide) (by decide) rfl ?_
  refine ev_iload_1 dX6_layFour_11 ?_
  refine ev_iconst_1 dX6_layFour_12 ?_
  refine ev_iadd dX6_layFour_13 ?_
  refine Ev.pc 14 rfl ?_
  refine ev_iload_3 dX6_layFour_14 ?_
  refine ev_astN (k := k + 1) dX6_layFour_15 (by first | assumption | decide) (by first | rfl | (simp only [fa_lit, nI_add, pk_mul]; done) | (simp only [fa_lit, nI_add, pk_mul]; congr 1; omega)) (by have := xls; omega) ?_
  refine ev_aload_0 dX6_layFour_16 ?_
  refine ev_get dX6_layFour_17 fk_X6_7 (by first | assumption | decide) (by decide) rfl ?_
  refine ev_iload_1 dX6_layFour_20 ?_
  refine Ev.pc 21 rfl ?_
  refine ev_iconst_2 dX6_layFour_21 ?_
  refine ev_iadd dX6_layFour_22 ?_
  refine ev_iload_4 dX6_layFour_23 ?_
  refine ev_astN (k := k + 2) dX6_layFour_25 (by first | assumption | decide) (by first | rfl | (simp only [fa_lit, nI_add, pk_mul]; done) | (simp only [fa_lit, nI_add, pk_mul]; congr 1; omega)) (by have := xls; omega) ?_
  refine ev_aload_0 dX6_layFour_26 ?_
  refine Ev.pc 27 rfl ?_
  refine ev_get dX6_layFour_27 fk_X6_7 (by first | assumption | decide) (by decide) rfl ?_
  refine ev_iload_1 dX6_layFour_30 ?_
  refine ev_iconst_3 dX6_layFour_31 ?_
  refine ev_iadd dX6_layFour_32 ?_
  refine ev_iload_5 dX6_layFour_33 ?_
  refine Ev.pc 35 rfl ?_
  refine ev_astN (k := k + 3) dX6_layFour_35 (by first | assumption | decide) (by first | rfl | (simp only [fa_lit, nI_add, pk_mul]; done) | (simp only [fa_lit, nI_add, pk_mul]; congr 1; omega)) (by have := xls; omega) ?_
  exact ev_return dX6_layFour_36 ⟨by rfl, by (simp only [xrow_at, xrow_row]; rfl)⟩
def mNote (σ : xS) (N : Nat) (p v a x : Int32) : Int32 × xS :=
  if N = 6 then (-4, mFull σ) else (nI (N + 1), xrow σ 74 (upd (mFour (σ.1 74) (58 + 4 * N) p v a x) 4 (nI (N + 1))))
theorem c_X6_note_bad (d : Nat) {E : xE} {σ : xS} {p v a x : Int32} (q7 : ¬ (hasIn (σ.1 74 0) p ∧ btw v 1 9 ∧ btw a 0 99 ∧ btw x 0 30)) : Ct E (d + 2) yX6_note cX6_note 5 (some .int) [.ref (E.1 73), .int p, .int v, .int a, .int x] σ (some (.int (-2))) (mBad σ) := by
  refine Ct.of (by decide +kernel) (Nat.le_of_ble_eq_true rfl) ⟨_, rfl, rfl⟩ ?_
  show Ev E _ RX6 cX6_note 5 _ 0 [some (.ref (E.1 73)), some (.int p), some (.int v), some (.int a), some (.int x)] [] _
  refine ev_aload_0 dX6_note_0 ?_
  refine ev_iload_1 dX6_note_1 ?_
  refine ev_invV (ci := 6) dX6_note_2 ml_X6_121 mt_X6_isPromise (c_X6_isPromise d) (by first | assumption | decide) (by decide) rfl rfl rfl (rm_ok (by omega)) (Nat.le_of_ble_eq_true rfl) ?_
  refine Ev.pc 5 rfl ?_
  refine ev_if_eq 40 dX6_note_5 rfl (fun h5 => ?_) (fun h5 => ?_)
  · refine ev_aload_0 dX6_note_40 ?_
    refine ev_bipush (-2) dX6_note_41 rfl ?_
    refine ev_invV (ci := 6) dX6_note_43 ml_X6_71 mt_X6_bad (c_X6_bad d) (by first | assumption | decide) (by decide) rfl rfl rfl (rm_ok (by omega)) (Nat.le_of_ble_eq_true rfl) ?_
    refine Ev.pc 46 rfl ?_
    exact ev_ireturn dX6_note_46 ⟨by rfl, by rfl⟩
  · refine ev_iload_2 dX6_note_8 ?_
    refine ev_invS dX6_note_9 ml_X6_68 mt_X6_isNine (c_X6_isNine d) rfl rfl (rm_ok (by omega)) (Nat.le_of_ble_eq_true rfl) ?_
    refine Ev.pc 12 rfl ?_
    refine ev_if_eq 40 dX6_note_12 rfl (fun h12 => ?_) (fun h12 => ?_)
    · refine ev_aload_0 dX6_note_40 ?_
      refine ev_bipush (-2) dX6_note_41 rfl ?_
      refine ev_invV (ci := 6) dX6_note_43 ml_X6_71 mt_X6_bad (c_X6_bad d) (by first | assumption | decide) (by decide) rfl rfl rfl (rm_ok (by omega)) (Nat.le_of_ble_eq_true rfl) ?_
      refine Ev.pc 46 rfl ?_
      exact ev_ireturn dX6_note_46 ⟨by rfl, by rfl⟩
    · refine ev_iload_3 dX6_note_15 ?_
      refine ev_i2l dX6_note_16 ?_
      refine ev_lconst_0 dX6_note_17 ?_
      refine ev_ldc2_w dX6_note_18 cn_X6_102 ?_
      refine ev_invS dX6_note_21 ml_X6_56 mt_X6_in (c_X6_in d (v := a) (lo := 0) (hi := 99) (by first | rfl | decide) (by first | rfl | decide) (by first | rfl | decide)) rfl rfl (rm_ok (by omega)) (Nat.le_of_ble_eq_true rfl) ?_
      refine Ev.pc 24 rfl ?_
      refine ev_if_eq 40 dX6_note_24 rfl (fun h24 => ?_) (fun h24 => ?_)
      · refine ev_aload_0 dX6_note_40 ?_
        refine ev_bipush (-2) dX6_note_41 rfl ?_
        refine ev_invV (ci := 6) dX6_note_43 ml_X6_71 mt_X6_bad (c_X6_bad d) (by first | assumption | decide) (by decide) rfl rfl rfl (rm_ok (by omega)) (Nat.le_of_ble_eq_true rfl) ?_
        refine Ev.pc 46 rfl ?_
        exact ev_ireturn dX6_note_46 ⟨by rfl, by rfl⟩
      · refine ev_iload_4 dX6_note_27 ?_
        refine ev_i2l dX6_note_29 ?_
        refine ev_lconst_0 dX6_note_30 ?_
        refine ev_ldc2_w dX6_note_31 cn_X6_157 ?_
        refine ev_invS dX6_note_34 ml_X6_56 mt_X6_in (c_X6_in d (v := x) (lo := 0) (hi := 30) (by first | rfl | decide) (by first | rfl | decide) (by first | rfl | decide)) rfl rfl (rm_ok (by omega)) (Nat.le_of_ble_eq_true rfl) ?_
        refine Ev.pc 37 rfl ?_
        refine ev_if_ne 47 dX6_note_37 rfl (fun h37 => ?_) (fun h37 => ?_)
        · exact absurd ⟨b2i_n0.mp h5, b2i_n0.mp h12, b2i_n0.mp h24, b2i_n0.mp h37⟩ q7
        · refine ev_aload_0 dX6_note_40 ?_
          refine ev_bipush (-2) dX6_note_41 rfl ?_
          refine ev_invV (ci := 6) dX6_note_43 ml_X6_71 mt_X6_bad (c_X6_bad d) (by first | assumption | decide) (by decide) rfl rfl rfl (rm_ok (by omega)) (Nat.le_of_ble_eq_true rfl) ?_
          refine Ev.pc 46 rfl ?_
          exact ev_ireturn dX6_note_46 ⟨by rfl, by rfl⟩
theorem c_X6_note (d : Nat) {E : xE} {σ : xS} {N : Nat} {p v a x : Int32} (hN : σ.1 74 4 = nI N) (hN6 : N ≤ 6) (h1 : hasIn (σ.1 74 0) p) (h2 : btw v 1 9) (h3 : btw a 0 99) (h4 : btw x 0 30) : Ct E (d + 2) yX6_note cX6_note 5 (some .int) [.ref (E.1 73), .int p, .int v, .int a, .int x] σ (some (.int (mNote σ N p v a x).1)) (mNote σ N p v a x).2 := by
  by_cases q7 : N = 6
  · rw [mNote, if_pos q7]
    refine Ct.of (by decide +kernel) (Nat.le_of_ble_eq_true rfl) ⟨_, rfl, rfl⟩ ?_
    show Ev E _ RX6 cX6_note 5 _ 0 [some (.ref (E.1 73)), some (.int p), some (.int v), some (.int a), some (.int x)] [] _
    refine ev_aload_0 dX6_note_0 ?_
    refine ev_iload_1 dX6_note_1 ?_
    refine ev_invV (ci := 6) dX6_note_2 ml_X6_121 mt_X6_isPromise (c_X6_isPromise d) (by first | assumption | decide) (by decide) rfl rfl rfl (rm_ok (by omega)) (Nat.le_of_ble_eq_true rfl) ?_
    refine Ev.pc 5 rfl ?_
    refine ev_if_eq 40 dX6_note_5 rfl (fun h5 => ?_) (fun h5 => ?_)
    · exact absurd h1 (b2i_0.mp h5)
    · refine ev_iload_2 dX6_note_8 ?_
      refine ev_invS dX6_note_9 ml_X6_68 mt_X6_isNine (c_X6_isNine d) rfl rfl (rm_ok (by omega)) (Nat.le_of_ble_eq_true rfl) ?_
      refine Ev.pc 12 rfl ?_
      refine ev_if_eq 40 dX6_note_12 rfl (fun h12 => ?_) (fun h12 => ?_)
      · exact absurd h2 (b2i_0.mp h12)
      · refine ev_iload_3 dX6_note_15 ?_
        refine ev_i2l dX6_note_16 ?_
        refine ev_lconst_0 dX6_note_17 ?_
        refine ev_ldc2_w dX6_note_18 cn_X6_102 ?_
        refine ev_invS dX6_note_21 ml_X6_56 mt_X6_in (c_X6_in d (v := a) (lo := 0) (hi := 99) (by first | rfl | decide) (by first | rfl | decide) (by first | rfl | decide)) rfl rfl (rm_ok (by omega)) (Nat.le_of_ble_eq_true rfl) ?_
        refine Ev.pc 24 rfl ?_
        refine ev_if_eq 40 dX6_note_24 rfl (fun h24 => ?_) (fun h24 => ?_)
        · exact absurd h3 (b2i_0.mp h24)
        · refine ev_iload_4 dX6_note_27 ?_
          refine ev_i2l dX6_note_29 ?_
          refine ev_lconst_0 dX6_note_30 ?_
          refine ev_ldc2_w dX6_note_31 cn_X6_157 ?_
          refine ev_invS dX6_note_34 ml_X6_56 mt_X6_in (c_X6_in d (v := x) (lo := 0) (hi := 30) (by first | rfl | decide) (by first | rfl | decide) (by first | rfl | decide)) rfl rfl (rm_ok (by omega)) (Nat.le_of_ble_eq_true rfl) ?_
          refine Ev.pc 37 rfl ?_
          refine ev_if_ne 47 dX6_note_37 rfl (fun h37 => ?_) (fun h37 => ?_)
          · refine ev_aload_0 dX6_note_47 ?_
            refine ev_get dX6_note_48 fk_X6_7 (by first | assumption | decide) (by decide) rfl ?_
            refine ev_iconst_4 dX6_note_51 ?_
            refine ev_aldL (n := 4) dX6_note_52 (by first | assumption | decide) (by have := xls; omega) ?_
            refine ev_bipush (6) dX6_note_53 rfl ?_
            refine Ev.pc 55 rfl ?_
            refine ev_icmp_ne 63 dX6_note_55 rfl (fun h55 => ?_) (fun h55 => ?_)
            · exact absurd (show σ.1 74 4 = 6 by rw [hN, q7]; rfl) h55
            · refine ev_aload_0 dX6_note_58 ?_
              refine ev_invV (ci := 6) dX6_note_59 ml_X6_75 mt_X6_full (c_X6_full d) (by first | assumption | decide) (by decide) rfl rfl rfl (rm_ok (by omega)) (Nat.le_of_ble_eq_true rfl) ?_
              refine Ev.pc 62 rfl ?_
              exact ev_ireturn dX6_note_62 ⟨by rfl, by rfl⟩
          · exact absurd h4 (b2i_0.mp h37)
  · rw [mNote, if_neg q7]
    refine Ct.of (by decide +kernel) (Nat.le_of_ble_eq_true rfl) ⟨_, rfl, rfl⟩ ?_
    show Ev E _ RX6 cX6_note 5 _ 0 [some (.ref (E.1 73)), some (.int p), some (.int v), some (.int a), some (.int x)] [] _
    refine ev_aload_0 dX6_note_0 ?_
    refine ev_iload_1 dX6_note_1 ?_
    refine ev_invV (ci := 6) dX6_note_2 ml_X6_121 mt_X6_isPromise (c_X6_isPromise d) (by first | assumption | decide) (by decide) rfl rfl rfl (rm_ok (by omega)) (Nat.le_of_ble_eq_true rfl) ?_
    refine Ev.pc 5 rfl ?_
    refine ev_if_eq 40 dX6_note_5 rfl (fun h5 => ?_) (fun h5 => ?_)
    · exact absurd h1 (b2i_0.mp h5)
    · refine ev_iload_2 dX6_note_8 ?_
      refine ev_invS dX6_note_9 ml_X6_68 mt_X6_isNine (c_X6_isNine d) rfl rfl (rm_ok (by omega)) (Nat.le_of_ble_eq_true rfl) ?_
      refine Ev.pc 12 rfl ?_
      refine ev_if_eq 40 dX6_note_12 rfl (fun h12 => ?_) (fun h12 => ?_)
      · exact absurd h2 (b2i_0.mp h12)
      · refine ev_iload_3 dX6_note_15 ?_
        refine ev_i2l dX6_note_16 ?_
        refine ev_lconst_0 dX6_note_17 ?_
        refine ev_ldc2_w dX6_note_18 cn_X6_102 ?_
        refine ev_invS dX6_note_21 ml_X6_56 mt_X6_in (c_X6_in d (v := a) (lo := 0) (hi := 99) (by first | rfl | decide) (by first | rfl | decide) (by first | rfl | decide)) rfl rfl (rm_ok (by omega)) (Nat.le_of_ble_eq_true rfl) ?_
        refine Ev.pc 24 rfl ?_
        refine ev_if_eq 40 dX6_note_24 rfl (fun h24 => ?_) (fun h24 => ?_)
        · exact absurd h3 (b2i_0.mp h24)
        · refine ev_iload_4 dX6_note_27 ?_
          refine ev_i2l dX6_note_29 ?_
          refine ev_lconst_0 dX6_note_30 ?_
          refine ev_ldc2_w dX6_note_31 cn_X6_157 ?_
          refine ev_invS dX6_note_34 ml_X6_56 mt_X6_in (c_X6_in d (v := x) (lo := 0) (hi := 30) (by first | rfl | decide) (by first | rfl | decide) (by first | rfl | decide)) rfl rfl (rm_ok (by omega)) (Nat.le_of_ble_eq_true rfl) ?_
          refine Ev.pc 37 rfl ?_
          refine ev_if_ne 47 dX6_note_37 rfl (fun h37 => ?_) (fun h37 => ?_)
          · refine ev_aload_0 dX6_note_47 ?_
            refine ev_get dX6_note_48 fk_X6_7 (by first | assumption | decide) (by decide) rfl ?_
            refine ev_iconst_4 dX6_note_51 ?_
            refine ev_aldL (n := 4) dX6_note_52 (by first | assumption | decide) (by have := xls; omega) ?_
            refine ev_bipush (6) dX6_note_53 rfl ?_
            refine Ev.pc 55 rfl ?_
            refine ev_icmp_ne 63 dX6_note_55 rfl (fun h55 => ?_) (fun h55 => ?_)
            · refine ev_aload_0 dX6_note_63 ?_
              refine ev_bipush (58) dX6_note_64 rfl ?_
              refine ev_iconst_4 dX6_note_66 ?_
              refine ev_aload_0 dX6_note_67 ?_
              refine ev_get dX6_note_68 fk_X6_7 (by first | assumption | decide) (by decide) rfl ?_
              refine Ev.pc 71 rfl ?_
              refine ev_iconst_4 dX6_note_71 ?_
              refine ev_aldL (n := 4) dX6_note_72 (by first | assumption | decide) (by have := xls; omega) ?_
              rw [hN]
              refine ev_imul dX6_note_73 ?_
              refine ev_iadd dX6_note_74 ?_
              refine ev_iload_1 dX6_note_75 ?_
              refine Ev.pc 76 rfl ?_
              refine ev_iload_2 dX6_note_76 ?_
              refine ev_iload_3 dX6_note_77 ?_
              refine ev_iload_4 dX6_note_78 ?_
              refine ev_invV (ci := 6) dX6_note_80 ml_X6_179 mt_X6_layFour (c_X6_layFour (d + 1) (k := 58 + 4 * N) (by simp only [fa_lit, nI_add, pk_mul]) (by omega)) (by first | assumption | decide) (by decide) rfl rfl rfl (rm_ok (by omega)) (Nat.le_of_ble_eq_true rfl) ?_
              refine Ev.pc 83 rfl ?_
              refine ev_aload_0 dX6_note_83 ?_
              refine Ev.pc 84 rfl ?_
              refine ev_get dX6_note_84 fk_X6_7 (by first | assumption | decide) (by decide) rfl ?_
              refine ev_iconst_4 dX6_note_87 ?_
              refine ev_dup2 dX6_note_88 rfl rfl ?_
              refine ev_aldL (n := 4) dX6_note_89 (by first | assumption | decide) (by have := xls; omega) ?_
              simp only [xrow_row, xrow_at]
              rw [mFour_lo _ _ _ _ _ (by omega), hN]
              refine ev_iconst_1 dX6_note_90 ?_
              refine Ev.pc 91 rfl ?_
              refine ev_iadd dX6_note_91 ?_
              rw [nI_1]
              refine ev_astL (n := 4) dX6_note_92 (by first | assumption | decide) (by have := xls; omega) ?_
              simp only [xrow_row, xrow_at]
              refine ev_aload_0 dX6_note_93 ?_
              refine ev_get dX6_note_94 fk_X6_7 (by first | assumption | decide) (by decide) rfl ?_
              refine ev_iconst_4 dX6_note_97 ?_
              refine Ev.pc 98 rfl ?_
              refine ev_aldL (n := 4) dX6_note_98 (by first | assumption | decide) (by have := xls; omega) ?_
              rw [xrow_at, upd_at]
              exact ev_ireturn dX6_note_99 ⟨by rfl, by rfl⟩
            · exact absurd ((nI_eq (a := N) (b := 6) (by omega) (by omega)).mp (by rw [← hN]; exact h55)) q7
          · exact absurd h4 (b2i_0.mp h37)
def mMark (σ : xS) (N : Nat) (p v a x : Int32) : Int32 × xS :=
  if N = 6 then (-4, mFull σ) else (nI (N + 1), xrow σ 74 (upd (mFour (σ.1 74) (82 + 4 * N) p v a x) 5 (nI (N + 1))))
theorem c_X6_mark_bad (d : Nat) {E : xE} {σ : xS} {p v a x : Int32} (q7 : ¬ (hasIn (σ.1 74 1) p ∧ btw v 1 9 ∧ btw a 0 30 ∧ btw x 0 20)) : Ct E (d + 2) yX6_mark cX6_mark 5 (some .int) [.ref (E.1 73), .int p, .int v, .int a, .int x] σ (some (.int (-2))) (mBad σ) := by
  refine Ct.of (by decide +kernel) (Nat.le_of_ble_eq_true rfl) ⟨_, rfl, rfl⟩ ?_
  show Ev E _ RX6 cX6_mark 5 _ 0 [some (.ref (E.1 73)), some (.int p), some (.int v), some (.int a), some (.int x)] [] _
  refine ev_aload_0 dX6_mark_0 ?_
  refine ev_iload_1 dX6_mark_1 ?_
  refine ev_invV (ci := 6) dX6_mark_2 ml_X6_134 mt_X6_isHearer (c_X6_isHearer d) (by first | assumption | decide) (by decide) rfl rfl rfl (rm_ok (by omega)) (Nat.le_of_ble_eq_true rfl) ?_
  refine Ev.pc 5 rfl ?_
  refine ev_if_eq 40 dX6_mark_5 rfl (fun h5 => ?_) (fun h5 => ?_)
  · refine ev_aload_0 dX6_mark_40 ?_
    refine ev_bipush (-2) dX6_mark_41 rfl ?_
    refine ev_invV (ci := 6) dX6_mark_43 ml_X6_71 mt_X6_bad (c_X6_bad d) (by first | assumption | decide) (by decide) rfl rfl rfl (rm_ok (by omega)) (Nat.le_of_ble_eq_true rfl) ?_
    refine Ev.pc 46 rfl ?_
    exact ev_ireturn dX6_mark_46 ⟨by rfl, by rfl⟩
  · refine ev_iload_2 dX6_mark_8 ?_
    refine ev_invS dX6_mark_9 ml_X6_68 mt_X6_isNine (c_X6_isNine d) rfl rfl (rm_ok (by omega)) (Nat.le_of_ble_eq_true rfl) ?_
    refine Ev.pc 12 rfl ?_
    refine ev_if_eq 40 dX6_mark_12 rfl (fun h12 => ?_) (fun h12 => ?_)
    · refine ev_aload_0 dX6_mark_40 ?_
      refine ev_bipush (-2) dX6_mark_41 rfl ?_
      refine ev_invV (ci := 6) dX6_mark_43 ml_X6_71 mt_X6_bad (c_X6_bad d) (by first | assumption | decide) (by decide) rfl rfl rfl (rm_ok (by omega)) (Nat.le_of_ble_eq_true rfl) ?_
      refine Ev.pc 46 rfl ?_
      exact ev_ireturn dX6_mark_46 ⟨by rfl, by rfl⟩
    · refine ev_iload_3 dX6_mark_15 ?_
      refine ev_i2l dX6_mark_16 ?_
      refine ev_lconst_0 dX6_mark_17 ?_
      refine ev_ldc2_w dX6_mark_18 cn_X6_157 ?_
      refine ev_invS dX6_mark_21 ml_X6_56 mt_X6_in (c_X6_in d (v := a) (lo := 0) (hi := 30) (by first | rfl | decide) (by first | rfl | decide) (by first | rfl | decide)) rfl rfl (rm_ok (by omega)) (Nat.le_of_ble_eq_true rfl) ?_
      refine Ev.pc 24 rfl ?_
      refine ev_if_eq 40 dX6_mark_24 rfl (fun h24 => ?_) (fun h24 => ?_)
      · refine ev_aload_0 dX6_mark_40 ?_
        refine ev_bipush (-2) dX6_mark_41 rfl ?_
        refine ev_invV (ci := 6) dX6_mark_43 ml_X6_71 mt_X6_bad (c_X6_bad d) (by first | assumption | decide) (by decide) rfl rfl rfl (rm_ok (by omega)) (Nat.le_of_ble_eq_true rfl) ?_
        refine Ev.pc 46 rfl ?_
        exact ev_ireturn dX6_mark_46 ⟨by rfl, by rfl⟩
      · refine ev_iload_4 dX6_mark_27 ?_
        refine ev_i2l dX6_mark_29 ?_
        refine ev_lconst_0 dX6_mark_30 ?_
        refine ev_ldc2_w dX6_mark_31 cn_X6_183 ?_
        refine ev_invS dX6_mark_34 ml_X6_56 mt_X6_in (c_X6_in d (v := x) (lo := 0) (hi := 20) (by first | rfl | decide) (by first | rfl | decide) (by first | rfl | decide)) rfl rfl (rm_ok (by omega)) (Nat.le_of_ble_eq_true rfl) ?_
        refine Ev.pc 37 rfl ?_
        refine ev_if_ne 47 dX6_mark_37 rfl (fun h37 => ?_) (fun h37 => ?_)
        · exact absurd ⟨b2i_n0.mp h5, b2i_n0.mp h12, b2i_n0.mp h24, b2i_n0.mp h37⟩ q7
        · refine ev_aload_0 dX6_mark_40 ?_
          refine ev_bipush (-2) dX6_mark_41 rfl ?_
          refine ev_invV (ci := 6) dX6_mark_43 ml_X6_71 mt_X6_bad (c_X6_bad d) (by first | assumption | decide) (by decide) rfl rfl rfl (rm_ok (by omega)) (Nat.le_of_ble_eq_true rfl) ?_
          refine Ev.pc 46 rfl ?_
          exact ev_ireturn dX6_mark_46 ⟨by rfl, by rfl⟩
theorem c_X6_mark (d : Nat) {E : xE} {σ : xS} {N : Nat} {p v a x : Int32} (hN : σ.1 74 5 = nI N) (hN6 : N ≤ 6) (h1 : hasIn (σ.1 74 1) p) (h2 : btw v 1 9) (h3 : btw a 0 30) (h4 : btw x 0 20) : Ct E (d + 2) yX6_mark cX6_mark 5 (some .int) [.ref (E.1 73), .int p, .int v, .int a, .int x] σ (some (.int (mMark σ N p v a x).1)) (mMark σ N p v a x).2 := by
  by_cases q7 : N = 6
  · rw [mMark, if_pos q7]
    refine Ct.of (by decide +kernel) (Nat.le_of_ble_eq_true rfl) ⟨_, rfl, rfl⟩ ?_
    show Ev E _ RX6 cX6_mark 5 _ 0 [some (.ref (E.1 73)), some (.int p), some (.int v), some (.int a), some (.int x)] [] _
    refine ev_aload_0 dX6_mark_0 ?_
    refine ev_iload_1 dX6_mark_1 ?_
    refine ev_invV (ci := 6) dX6_mark_2 ml_X6_134 mt_X6_isHearer (c_X6_isHearer d) (by first | assumption | decide) (by decide) rfl rfl rfl (rm_ok (by omega)) (Nat.le_of_ble_eq_true rfl) ?_
    refine Ev.pc 5 rfl ?_
    refine ev_if_eq 40 dX6_mark_5 rfl (fun h5 => ?_) (fun h5 => ?_)
    · exact absurd h1 (b2i_0.mp h5)
    · refine ev_iload_2 dX6_mark_8 ?_
      refine ev_invS dX6_mark_9 ml_X6_68 mt_X6_isNine (c_X6_isNine d) rfl rfl (rm_ok (by omega)) (Nat.le_of_ble_eq_true rfl) ?_
      refine Ev.pc 12 rfl ?_
      refine ev_if_eq 40 dX6_mark_12 rfl (fun h12 => ?_) (fun h12 => ?_)
      · exact absurd h2 (b2i_0.mp h12)
      · refine ev_iload_3 dX6_mark_15 ?_
        refine ev_i2l dX6_mark_16 ?_
        refine ev_lconst_0 dX6_mark_17 ?_
        refine ev_ldc2_w dX6_mark_18 cn_X6_157 ?_
        refine ev_invS dX6_mark_21 ml_X6_56 mt_X6_in (c_X6_in d (v := a) (lo := 0) (hi := 30) (by first | rfl | decide) (by first | rfl | decide) (by first | rfl | decide)) rfl rfl (rm_ok (by omega)) (Nat.le_of_ble_eq_true rfl) ?_
        refine Ev.pc 24 rfl ?_
        refine ev_if_eq 40 dX6_mark_24 rfl (fun h24 => ?_) (fun h24 => ?_)
        · exact absurd h3 (b2i_0.mp h24)
        · refine ev_iload_4 dX6_mark_27 ?_
          refine ev_i2l dX6_mark_29 ?_
          refine ev_lconst_0 dX6_mark_30 ?_
          refine ev_ldc2_w dX6_mark_31 cn_X6_183 ?_
          refine ev_invS dX6_mark_34 ml_X6_56 mt_X6_in (c_X6_in d (v := x) (lo := 0) (hi := 20) (by first | rfl | decide) (by first | rfl | decide) (by first | rfl | decide)) rfl rfl (rm_ok (by omega)) (Nat.le_of_ble_eq_true rfl) ?_
          refine Ev.pc 37 rfl ?_
          refine ev_if_ne 47 dX6_mark_37 rfl (fun h37 => ?_) (fun h37 => ?_)
          · refine ev_aload_0 dX6_mark_47 ?_
            refine ev_get dX6_mark_48 fk_X6_7 (by first | assumption | decide) (by decide) rfl ?_
            refine ev_iconst_5 dX6_mark_51 ?_
            refine ev_aldL (n := 5) dX6_mark_52 (by first | assumption | decide) (by have := xls; omega) ?_
            refine ev_bipush (6) dX6_mark_53 rfl ?_
            refine Ev.pc 55 rfl ?_
            refine ev_icmp_ne 63 dX6_mark_55 rfl (fun h55 => ?_) (fun h55 => ?_)
            · exact absurd (show σ.1 74 5 = 6 by rw [hN, q7]; rfl) h55
            · refine ev_aload_0 dX6_mark_58 ?_
              refine ev_invV (ci := 6) dX6_mark_59 ml_X6_75 mt_X6_full (c_X6_full d) (by first | assumption | decide) (by decide) rfl rfl rfl (rm_ok (by omega)) (Nat.le_of_ble_eq_true rfl) ?_
              refine Ev.pc 62 rfl ?_
              exact ev_ireturn dX6_mark_62 ⟨by rfl, by rfl⟩
          · exact absurd h4 (b2i_0.mp h37)
  · rw [mMark, if_neg q7]
    refine Ct.of (by decide +kernel) (Nat.le_of_ble_eq_true rfl) ⟨_, rfl, rfl⟩ ?_
    show Ev E _ RX6 cX6_mark 5 _ 0 [some (.ref (E.1 73)), some (.int p), some (.int v), some (.int a), some (.int x)] [] _
    refine ev_aload_0 dX6_mark_0 ?_
    refine ev_iload_1 dX6_mark_1 ?_
    refine ev_invV (ci := 6) dX6_mark_2 ml_X6_134 mt_X6_isHearer (c_X6_isHearer d) (by first | assumption | decide) (by decide) rfl rfl rfl (rm_ok (by omega)) (Nat.le_of_ble_eq_true rfl) ?_
    refine Ev.pc 5 rfl ?_
    refine ev_if_eq 40 dX6_mark_5 rfl (fun h5 => ?_) (fun h5 => ?_)
    · exact absurd h1 (b2i_0.mp h5)
    · refine ev_iload_2 dX6_mark_8 ?_
      refine ev_invS dX6_mark_9 ml_X6_68 mt_X6_isNine (c_X6_isNine d) rfl rfl (rm_ok (by omega)) (Nat.le_of_ble_eq_true rfl) ?_
      refine Ev.pc 12 rfl ?_
      refine ev_if_eq 40 dX6_mark_12 rfl (fun h12 => ?_) (fun h12 => ?_)
      · exact absurd h2 (b2i_0.mp h12)
      · refine ev_iload_3 dX6_mark_15 ?_
        refine ev_i2l dX6_mark_16 ?_
        refine ev_lconst_0 dX6_mark_17 ?_
        refine ev_ldc2_w dX6_mark_18 cn_X6_157 ?_
        refine ev_invS dX6_mark_21 ml_X6_56 mt_X6_in (c_X6_in d (v := a) (lo := 0) (hi := 30) (by first | rfl | decide) (by first | rfl | decide) (by first | rfl | decide)) rfl rfl (rm_ok (by omega)) (Nat.le_of_ble_eq_true rfl) ?_
        refine Ev.pc 24 rfl ?_
        refine ev_if_eq 40 dX6_mark_24 rfl (fun h24 => ?_) (fun h24 => ?_)
        · exact absurd h3 (b2i_0.mp h24)
        · refine ev_iload_4 dX6_mark_27 ?_
          refine ev_i2l dX6_mark_29 ?_
          refine ev_lconst_0 dX6_mark_30 ?_
          refine ev_ldc2_w dX6_mark_31 cn_X6_183 ?_
          refine ev_invS dX6_mark_34 ml_X6_56 mt_X6_in (c_X6_in d (v := x) (lo := 0) (hi := 20) (by first | rfl | decide) (by first | rfl | decide) (by first | rfl | decide)) rfl rfl (rm_ok (by omega)) (Nat.le_of_ble_eq_true rfl) ?_
          refine Ev.pc 37 rfl ?_
          refine ev_if_ne 47 dX6_mark_37 rfl (fun h37 => ?_) (fun h37 => ?_)
          · refine ev_aload_0 dX6_mark_47 ?_
            refine ev_get dX6_mark_48 fk_X6_7 (by first | assumption | decide) (by decide) rfl ?_
            refine ev_iconst_5 dX6_mark_51 ?_
            refine ev_aldL (n := 5) dX6_mark_52 (by first | assumption | decide) (by have := xls; omega) ?_
            refine ev_bipush (6) dX6_mark_53 rfl ?_
            refine Ev.pc 55 rfl ?_
            refine ev_icmp_ne 63 dX6_mark_55 rfl (fun h55 => ?_) (fun h55 => ?_)
            · refine ev_aload_0 dX6_mark_63 ?_
              refine ev_bipush (82) dX6_mark_64 rfl ?_
              refine ev_iconst_4 dX6_mark_66 ?_
              refine ev_aload_0 dX6_mark_67 ?_
              refine ev_get dX6_mark_68 fk_X6_7 (by first | assumption | decide) (by decide) rfl ?_
              refine Ev.pc 71 rfl ?_
              refine ev_iconst_5 dX6_mark_71 ?_
              refine ev_aldL (n := 5) dX6_mark_72 (by first | assumption | decide) (by have := xls; omega) ?_
              rw [hN]
              refine ev_imul dX6_mark_73 ?_
              refine ev_iadd dX6_mark_74 ?_
              refine ev_iload_1 dX6_mark_75 ?_
              refine Ev.pc 76 rfl ?_
              refine ev_iload_2 dX6_mark_76 ?_
              refine ev_iload_3 dX6_mark_77 ?_
              refine ev_iload_4 dX6_mark_78 ?_
              refine ev_invV (ci := 6) dX6_mark_80 ml_X6_179 mt_X6_layFour (c_X6_layFour (d + 1) (k := 82 + 4 * N) (by simp only [fa_lit, nI_add, pk_mul]) (by omega)) (by first | assumption | decide) (by decide) rfl rfl rfl (rm_ok (by omega)) (Nat.le_of_ble_eq_true rfl) ?_
              refine Ev.pc 83 rfl ?_
              refine ev_aload_0 dX6_mark_83 ?_
              refine Ev.pc 84 rfl ?_
              refine ev_get dX6_mark_84 fk_X6_7 (by first | assumption | decide) (by decide) rfl ?_
              refine ev_iconst_5 dX6_mark_87 ?_
              refine ev_dup2 dX6_mark_88 rfl rfl ?_
              refine ev_aldL (n := 5) dX6_mark_89 (by first | assumption | decide) (by have := xls; omega) ?_
              simp only [xrow_row, xrow_at]
              rw [mFour_lo _ _ _ _ _ (by omega), hN]
              refine ev_iconst_1 dX6_mark_90 ?_
              refine Ev.pc 91 rfl ?_
              refine ev_iadd dX6_mark_91 ?_
              rw [nI_1]
              refine ev_astL (n := 5) dX6_mark_92 (by first | assumption | decide) (by have := xls; omega) ?_
              simp only [xrow_row, xrow_at]
              refine ev_aload_0 dX6_mark_93 ?_
              refine ev_get dX6_mark_94 fk_X6_7 (by first | assumption | decide) (by decide) rfl ?_
              refine ev_iconst_5 dX6_mark_97 ?_
              refine Ev.pc 98 rfl ?_
              refine ev_aldL (n := 5) dX6_mark_98 (by first | assumption | decide) (by have := xls; omega) ?_
              rw [xrow_at, upd_at]
              exact ev_ireturn dX6_mark_99 ⟨by rfl, by rfl⟩
            · exact absurd ((nI_eq (a := N) (b := 6) (by omega) (by omega)).mp (by rw [← hN]; exact h55)) q7
          · exact absurd h4 (b2i_0.mp h37)
theorem c_X6_forget_bad (d : Nat) {E : xE} {σ : xS} {w : Int32} (q7 : ¬ btw w 0 2) : Ct E (d + 1) yX6_forget cX6_forget 3 (some .int) [.ref (E.1 73), .int w] σ (some (.int (-2))) (mBad σ) := by
  refine Ct.of (by decide +kernel) (Nat.le_of_ble_eq_true rfl) ⟨_, rfl, rfl⟩ ?_
  show Ev E _ RX6 cX6_forget 3 _ 0 [some (.ref (E.1 73)), some (.int w), none] [] _
  refine ev_iload_1 dX6_forget_0 ?_
  refine ev_i2l dX6_forget_1 ?_
  refine ev_lconst_0 dX6_forget_2 ?_
  refine ev_ldc2_w dX6_forget_3 cn_X6_147 ?_
  refine ev_invS dX6_forget_6 ml_X6_56 mt_X6_in (c_X6_in d (v := w) (lo := 0) (hi := 2) (by first | rfl | decide) (by first | rfl | decide) (by first | rfl | decide)) rfl rfl (rm_ok (by omega)) (Nat.le_of_ble_eq_true rfl) ?_
  refine Ev.pc 9 rfl ?_
  refine ev_if_ne 19 dX6_forget_9 rfl (fun h9 => ?_) (fun h9 => ?_)
  · exact absurd (b2i_n0.mp h9) q7
  · refine ev_aload_0 dX6_forget_12 ?_
    refine ev_bipush (-2) dX6_forget_13 rfl ?_
    refine ev_invV (ci := 6) dX6_forget_15 ml_X6_71 mt_X6_bad (c_X6_bad d) (by first | assumption | decide) (by decide) rfl rfl rfl (rm_ok (by omega)) (Nat.le_of_ble_eq_true rfl) ?_
    refine Ev.pc 18 rfl ?_
    exact ev_ireturn dX6_forget_18 ⟨by rfl, by rfl⟩
theorem c_X6_forget (d : Nat) {E : xE} {σ : xS} {k : Nat} (hk : k < 3) : Ct E (d + 1) yX6_forget cX6_forget 3 (some .int) [.ref (E.1 73), .int (nI k)] σ (some (.int (σ.1 74 (3 + k)))) (xrow σ 74 (upd (σ.1 74) (3 + k) 0)) := by
  have e1 : btw (nI k) 0 2 := ⟨nI_pos' (by omega), show nI k ≤ nI 2 from nI_le (by omega) (by omega)⟩
  refine Ct.of (by decide +kernel) (Nat.le_of_ble_eq_true rfl) ⟨_, rfl, rfl⟩ ?_
  show Ev E _ RX6 cX6_forget 3 _ 0 [some (.ref (E.1 73)), some (.int (nI k)), none] [] _
  refine ev_iload_1 dX6_forget_0 ?_
  refine ev_i2l dX6_forget_1 ?_
  refine ev_lconst_0 dX6_forget_2 ?_
  refine ev_ldc2_w dX6_forget_3 cn_X6_147 ?_
  refine ev_invS dX6_forget_6 ml_X6_56 mt_X6_in (c_X6_in d (v := nI k) (lo := 0) (hi := 2) (by first | rfl | decide) (by first | rfl | decide) (by first | rfl | decide)) rfl rfl (rm_ok (by omega)) (Nat.le_of_ble_eq_true rfl) ?_
  refine Ev.pc 9 rfl ?_
  refine ev_if_ne 19 dX6_forget_9 rfl (fun h9 => ?_) (fun h9 => ?_)
  · refine ev_aload_0 dX6_forget_19 ?_
    refine ev_get dX6_forget_20 fk_X6_7 (by first | assumption | decide) (by decide) rfl ?_
    refine ev_iconst_3 dX6_forget_23 ?_
    refine ev_iload_1 dX6_forget_24 ?_
    refine ev_iadd dX6_forget_25 ?_
    refine Ev.pc 26 rfl ?_
    refine ev_aldA (n := 3) dX6_forget_26 (by first | assumption | decide) (by have := xls; omega) ?_
    refine ev_istore_2 dX6_forget_27 rfl ?_
    refine ev_aload_0 dX6_forget_28 ?_
    refine ev_get dX6_forget_29 fk_X6_7 (by first | assumption | decide) (by decide) rfl ?_
    refine ev_iconst_3 dX6_forget_32 ?_
    refine Ev.pc 33 rfl ?_
    refine ev_iload_1 dX6_forget_33 ?_
    refine ev_iadd dX6_forget_34 ?_
    refine ev_iconst_0 dX6_forget_35 ?_
    refine ev_astA (n := 3) dX6_forget_36 (by first | assumption | decide) (by have := xls; omega) ?_
    refine ev_iload_2 dX6_forget_37 ?_
    refine Ev.pc 38 rfl ?_
    exact ev_ireturn dX6_forget_38 ⟨by rfl, by rfl⟩
  · exact absurd e1 (b2i_0.mp h9)
