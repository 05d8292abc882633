/-! the reference: kinds, and what to ask -/
def knB (f : Nat → Int32) (p kind : Int32) (k : Nat) : Bool := !(decide (f (58 + 4 * k) = p)) || decide (goodM kind (f (58 + 4 * k + 1)) (f (58 + 4 * k + 2)) = f (58 + 4 * k + 3))
def kmB (f : Nat → Int32) (p kind : Int32) (k : Nat) : Bool := !(decide (f (82 + 4 * k) = p)) || decide (joyM kind (f (82 + 4 * k + 2)) (f (82 + 4 * k + 1)) = f (82 + 4 * k + 3))
def kindP (f : Nat → Int32) (p : Int32) (N : Nat) : Int32 := mkI (fun i => allB (knB f p (nI i)) N) 6
def kindH (f : Nat → Int32) (p : Int32) (N : Nat) : Int32 := mkI (fun i => allB (kmB f p (nI i)) N) 6
theorem knB_no {f : Nat → Int32} {p kind : Int32} {k : Nat} (h : f (58 + 4 * k) = p) (h2 : ¬ goodM kind (f (58 + 4 * k + 1)) (f (58 + 4 * k + 2)) = f (58 + 4 * k + 3)) : knB f p kind k = false := by rw [knB, decide_eq_true h, decide_eq_false h2]; rfl
theorem knB_y1 {f : Nat → Int32} {p kind : Int32} {k : Nat} (h : ¬ f (58 + 4 * k) = p) : knB f p kind k = true := by rw [knB, decide_eq_false h]; rfl
theorem knB_y2 {f : Nat → Int32} {p kind : Int32} {k : Nat} (h2 : goodM kind (f (58 + 4 * k + 1)) (f (58 + 4 * k + 2)) = f (58 + 4 * k + 3)) : knB f p kind k = true := by rw [knB, decide_eq_true h2, Bool.or_true]
theorem kmB_no {f : Nat → Int32} {p kind : Int32} {k : Nat} (h : f (82 + 4 * k) = p) (h2 : ¬ joyM kind (f (82 + 4 * k + 2)) (f (82 + 4 * k + 1)) = f (82 + 4 * k + 3)) : kmB f p kind k = false := by rw [kmB, decide_eq_true h, decide_eq_false h2]; rfl
theorem kmB_y1 {f : Nat → Int32} {p kind : Int32} {k : Nat} (h : ¬ f (82 + 4 * k) = p) : kmB f p kind k = true := by rw [kmB, decide_eq_false h]; rfl
theorem kmB_y2 {f : Nat → Int32} {p kind : Int32} {k : Nat} (h2 : joyM kind (f (82 + 4 * k + 2)) (f (82 + 4 * k + 1)) = f (82 + 4 * k + 3)) : kmB f p kind k = true := by rw [kmB, decide_eq_true h2, Bool.or_true]
theorem c_X6_kindsOfPromise (d : Nat) {E : xE} {σ : xS} {N : Nat} {p : Int32} (hN : σ.1 74 4 = nI N) (hN6 : N ≤ 6) : Ct E (d + 1) yX6_kindsOfPromise cX6_kindsOfPromise 7 (some .int) [.ref (E.1 73), .int p] σ (some (.int (kindP (σ.1 74) p N))) σ := by
  obtain ⟨F, hF⟩ : ∃ F : Option Value → xS → Prop, F = fun v t => v = some (.int (kindP (σ.1 74) p N)) ∧ t = σ := ⟨_, rfl⟩
  have inner : ∀ (bits : Int32) (i : Nat), i < 7 → (∀ (x : Int32) (z z6 : Option Value), x = b2i (allB (knB (σ.1 74) p (nI i)) N = true) → Ev E (rm (d + 1)) RX6 cX6_kindsOfPromise 7 F 99 [some (.ref (E.1 73)), some (.int p), some (.int bits), some (.int (nI i)), some (.int x), z, z6] [] σ) →
      ∀ (n k : Nat) (x : Int32) (z6 : Option Value), k + n = N → x = b2i (allB (knB (σ.1 74) p (nI i)) k = true) → Ev E (rm (d + 1)) RX6 cX6_kindsOfPromise 7 F 16 [some (.ref (E.1 73)), some (.int p), some (.int bits), some (.int (nI i)), some (.int x), some (.int (nI k)), z6] [] σ := by
    intro bits i hi K n
    induction n with
    | zero =>
      intro k x z6 hk hx
      refine ev_iload_5 dX6_kindsOfPromise_16 ?_
      refine ev_aload_0 dX6_kindsOfPromise_18 ?_
      refine ev_get dX6_kindsOfPromise_19 fk_X6_7 (by first | assumption | decide) (by decide) rfl ?_
      refine ev_iconst_4 dX6_kindsOfPromise_22 ?_
      refine ev_aldL (n := 4) dX6_kindsOfPromise_23 (by first | assumption | decide) (by have := xls; omega) ?_
      refine Ev.pc 24 rfl ?_
      refine ev_icmp_ge 99 dX6_kindsOfPromise_24 rfl (fun h24 => ?_) (fun h24 => ?_)
      · exact K x _ _ (by rw [hx, show k = N by omega])
      · exact absurd (show σ.1 74 4 ≤ nI k by rw [hN]; exact nI_le (by omega) (by omega)) h24
    | succ n ih =>
      intro k x z6 hk hx
      refine ev_iload_5 dX6_kindsOfPromise_16 ?_
      refine ev_aload_0 dX6_kindsOfPromise_18 ?_
      refine ev_get dX6_kindsOfPromise_19 fk_X6_7 (by first | assumption | decide) (by decide) rfl ?_
      refine ev_iconst_4 dX6_kindsOfPromise_22 ?_
      refine ev_aldL (n := 4) dX6_kindsOfPromise_23 (by first | assumption | decide) (by have := xls; omega) ?_
      refine Ev.pc 24 rfl ?_
      refine ev_icmp_ge 99 dX6_kindsOfPromise_24 rfl (fun h24 => ?_) (fun h24 => ?_)
      · exact absurd h24 (by rw [hN]; exact nI_ge (by omega) (by omega))
      · refine ev_bipush (58) dX6_kindsOfPromise_27 rfl ?_
        refine ev_iconst_4 dX6_kindsOfPromise_29 ?_
        refine ev_iload_5 dX6_kindsOfPromise_30 ?_
        refine ev_imul dX6_kindsOfPromise_32 ?_
        refine ev_iadd dX6_kindsOfPromise_33 ?_
        refine Ev.pc 34 rfl ?_
        refine ev_istore_6 dX6_kindsOfPromise_34 rfl ?_
        refine ev_iload_4 dX6_kindsOfPromise_36 ?_
        refine ev_if_eq 90 dX6_kindsOfPromise_38 rfl (fun h38 => ?_) (fun h38 => ?_)
        · refine ev_iconst_0 dX6_kindsOfPromise_90 ?_
          refine ev_istore_4 dX6_kindsOfPromise_91 rfl ?_
          refine ev_iinc_5 (1) dX6_kindsOfPromise_93 rfl rfl ?_
          refine ev_goto 16 dX6_kindsOfPromise_96 rfl ?_
          rw [nI_1]
          exact ih (k + 1) _ _ (by omega) (by first | exact allB_no1 hx h38 | exact allB_no2 (knB_no h49 h83) | exact allB_yes hx h38 (knB_y1 h49) | exact allB_yes hx h38 (knB_y2 h83))
        · refine ev_aload_0 dX6_kindsOfPromise_41 ?_
          refine ev_get dX6_kindsOfPromise_42 fk_X6_7 (by first | assumption | decide) (by decide) rfl ?_
          refine ev_iload_6 dX6_kindsOfPromise_45 ?_
          refine ev_aldN (k := 58 + 4 * k) dX6_kindsOfPromise_47 (by first | assumption | decide) (by first | rfl | (simp only [fa_lit, nI_add, pk_mul]; done) | (simp only [fa_lit, nI_add, pk_mul]; congr 1; omega)) (by have := xls; omega) ?_
          refine ev_iload_1 dX6_kindsOfPromise_48 ?_
          refine Ev.pc 49 rfl ?_
          refine ev_icmp_ne 86 dX6_kindsOfPromise_49 rfl (fun h49 => ?_) (fun h49 => ?_)
          · refine ev_iconst_1 dX6_kindsOfPromise_86 ?_
            refine ev_goto 91 dX6_kindsOfPromise_87 rfl ?_
            refine ev_istore_4 dX6_kindsOfPromise_91 rfl ?_
            refine ev_iinc_5 (1) dX6_kindsOfPromise_93 rfl rfl ?_
            refine ev_goto 16 dX6_kindsOfPromise_96 rfl ?_
            rw [nI_1]
            exact ih (k + 1) _ _ (by omega) (by first | exact allB_no1 hx h38 | exact allB_no2 (knB_no h49 h83) | exact allB_yes hx h38 (knB_y1 h49) | exact allB_yes hx h38 (knB_y2 h83))
          · refine ev_iload_3 dX6_kindsOfPromise_52 ?_
            refine ev_aload_0 dX6_kindsOfPromise_53 ?_
            refine ev_get dX6_kindsOfPromise_54 fk_X6_7 (by first | assumption | decide) (by decide) rfl ?_
            refine ev_iload_6 dX6_kindsOfPromise_57 ?_
            refine ev_iconst_1 dX6_kindsOfPromise_59 ?_
            refine Ev.pc 60 rfl ?_
            refine ev_iadd dX6_kindsOfPromise_60 ?_
            refine ev_aldN (k := 58 + 4 * k + 1) dX6_kindsOfPromise_61 (by first | assumption | decide) (by first | rfl | (simp only [fa_lit, nI_add, pk_mul]; done) | (simp only [fa_lit, nI_add, pk_mul]; congr 1; omega)) (by have := xls; omega) ?_
            refine ev_aload_0 dX6_kindsOfPromise_62 ?_
            refine ev_get dX6_kindsOfPromise_63 fk_X6_7 (by first | assumption | decide) (by decide) rfl ?_
            refine ev_iload_6 dX6_kindsOfPromise_66 ?_
            refine Ev.pc 68 rfl ?_
            refine ev_iconst_2 dX6_kindsOfPromise_68 ?_
            refine ev_iadd dX6_kindsOfPromise_69 ?_
            refine ev_aldN (k := 58 + 4 * k + 2) dX6_kindsOfPromise_70 (by first | assumption | decide) (by first | rfl | (simp only [fa_lit, nI_add, pk_mul]; done) | (simp only [fa_lit, nI_add, pk_mul]; congr 1; omega)) (by have := xls; omega) ?_
            refine ev_invS dX6_kindsOfPromise_71 ml_X6_84 mt_X6_goodAs (c_X6_goodAs d) rfl rfl (rm_ok (by omega)) (Nat.le_of_ble_eq_true rfl) ?_
            refine Ev.pc 74 rfl ?_
            refine ev_aload_0 dX6_kindsOfPromise_74 ?_
            refine Ev.pc 75 rfl ?_
            refine ev_get dX6_kindsOfPromise_75 fk_X6_7 (by first | assumption | decide) (by decide) rfl ?_
            refine ev_iload_6 dX6_kindsOfPromise_78 ?_
            refine ev_iconst_3 dX6_kindsOfPromise_80 ?_
            refine ev_iadd dX6_kindsOfPromise_81 ?_
            refine ev_aldN (k := 58 + 4 * k + 3) dX6_kindsOfPromise_82 (by first | assumption | decide) (by first | rfl | (simp only [fa_lit, nI_add, pk_mul]; done) | (simp only [fa_lit, nI_add, pk_mul]; congr 1; omega)) (by have := xls; omega) ?_
            refine Ev.pc 83 rfl ?_
            refine ev_icmp_ne 90 dX6_kindsOfPromise_83 rfl (fun h83 => ?_) (fun h83 => ?_)
            · refine ev_iconst_0 dX6_kindsOfPromise_90 ?_
              refine ev_istore_4 dX6_kindsOfPromise_91 rfl ?_
              refine ev_iinc_5 (1) dX6_kindsOfPromise_93 rfl rfl ?_
              refine ev_goto 16 dX6_kindsOfPromise_96 rfl ?_
              rw [nI_1]
              exact ih (k + 1) _ _ (by omega) (by first | exact allB_no1 hx h38 | exact allB_no2 (knB_no h49 h83) | exact allB_yes hx h38 (knB_y1 h49) | exact allB_yes hx h38 (knB_y2 h83))
            · refine ev_iconst_1 dX6_kindsOfPromise_86 ?_
              refine ev_goto 91 dX6_kindsOfPromise_87 rfl ?_
              refine ev_istore_4 dX6_kindsOfPromise_91 rfl ?_
              refine ev_iinc_5 (1) dX6_kindsOfPromise_93 rfl rfl ?_
              refine ev_goto 16 dX6_kindsOfPromise_96 rfl ?_
              rw [nI_1]
              exact ih (k + 1) _ _ (by omega) (by first | exact allB_no1 hx h38 | exact allB_no2 (knB_no h49 h83) | exact allB_yes hx h38 (knB_y1 h49) | exact allB_yes hx h38 (knB_y2 h83))
  have loop : ∀ (n i : Nat) (bits : Int32) (z4 z5 z6 : Option Value), i + n = 6 → bits = mkI (fun i => allB (knB (σ.1 74) p (nI i)) N) i → Ev E (rm (d + 1)) RX6 cX6_kindsOfPromise 7 F 4 [some (.ref (E.1 73)), some (.int p), some (.int bits), some (.int (nI i)), z4, z5, z6] [] σ := by
    intro n
    induction n with
    | zero =>
      intro k bits z4 z5 z6 hk hb
      rw [hF]
      refine ev_iload_3 dX6_kindsOfPromise_4 ?_
      refine ev_bipush (6) dX6_kindsOfPromise_5 rfl ?_
      refine ev_icmp_ge 120 dX6_kindsOfPromise_7 rfl (fun h7 => ?_) (fun h7 => ?_)
      · refine ev_iload_2 dX6_kindsOfPromise_120 ?_
        exact ev_ireturn dX6_kindsOfPromise_121 ⟨by (rw [hb, show k = 6 by omega]; rfl), by rfl⟩
      · exact absurd (show nI 6 ≤ nI k from nI_le (by omega) (by omega)) h7
    | succ n ih =>
      intro k bits z4 z5 z6 hk hb
      refine ev_iload_3 dX6_kindsOfPromise_4 ?_
      refine ev_bipush (6) dX6_kindsOfPromise_5 rfl ?_
      refine ev_icmp_ge 120 dX6_kindsOfPromise_7 rfl (fun h7 => ?_) (fun h7 => ?_)
      · exact absurd h7 (show ¬ nI 6 ≤ nI k from nI_ge (by omega) (by omega))
      · refine ev_iconst_1 dX6_kindsOfPromise_10 ?_
        refine ev_istore_4 dX6_kindsOfPromise_11 rfl ?_
        refine ev_iconst_0 dX6_kindsOfPromise_13 ?_
        refine ev_istore_5 dX6_kindsOfPromise_14 rfl ?_
        refine inner bits k (by omega) (fun x z z6 hx => ?_) N 0 1 _ (by omega) rfl
        have ms := mkI_step (fun i => allB (knB (σ.1 74) p (nI i)) N) hb hx
        refine ev_iload_2 dX6_kindsOfPromise_99 ?_
        refine ev_iload_4 dX6_kindsOfPromise_100 ?_
        refine ev_if_eq 111 dX6_kindsOfPromise_102 rfl (fun h102 => ?_) (fun h102 => ?_)
        · refine ev_iconst_0 dX6_kindsOfPromise_111 ?_
          refine ev_ior dX6_kindsOfPromise_112 ?_
          refine ev_istore_2 dX6_kindsOfPromise_113 rfl ?_
          refine ev_iinc_3 (1) dX6_kindsOfPromise_114 rfl rfl ?_
          refine ev_goto 4 dX6_kindsOfPromise_117 rfl ?_
          rw [nI_1]
          exact ih (k + 1) _ _ _ _ (by omega) (by first | exact ms.1 h102 | exact ms.2 h102)
        · refine ev_iconst_1 dX6_kindsOfPromise_105 ?_
          refine ev_iload_3 dX6_kindsOfPromise_106 ?_
          refine ev_ishl dX6_kindsOfPromise_107 ?_
          refine ev_goto 112 dX6_kindsOfPromise_108 rfl ?_
          refine ev_ior dX6_kindsOfPromise_112 ?_
          refine ev_istore_2 dX6_kindsOfPromise_113 rfl ?_
          refine Ev.pc 114 rfl ?_
          refine ev_iinc_3 (1) dX6_kindsOfPromise_114 rfl rfl ?_
          refine ev_goto 4 dX6_kindsOfPromise_117 rfl ?_
          rw [nI_1]
          exact ih (k + 1) _ _ _ _ (by omega) (by first | exact ms.1 h102 | exact ms.2 h102)
  rw [hF] at loop
  refine Ct.of (by decide +kernel) (Nat.le_of_ble_eq_true rfl) ⟨_, rfl, rfl⟩ ?_
  show Ev E _ RX6 cX6_kindsOfPromise 7 _ 0 [some (.ref (E.1 73)), some (.int p), none, none, none, none, none] [] _
  refine ev_iconst_0 dX6_kindsOfPromise_0 ?_
  refine ev_istore_2 dX6_kindsOfPromise_1 rfl ?_
  refine ev_iconst_0 dX6_kindsOfPromise_2 ?_
  refine ev_istore_3 dX6_kindsOfPromise_3 rfl ?_
  exact loop 6 0 0 _ _ _ (by omega) rfl
theorem c_X6_kindsOfHearer (d : Nat) {E : xE} {σ : xS} {N : Nat} {p : Int32} (hN : σ.1 74 5 = nI N) (hN6 : N ≤ 6) : Ct E (d + 1) yX6_kindsOfHearer cX6_kindsOfHearer 7 (some .int) [.ref (E.1 73), .int p] σ (some (.int (kindH (σ.1 74) p N))) σ := by
  obtain ⟨F, hF⟩ : ∃ F : Option Value → xS → Prop, F = fun v t => v = some (.int (kindH (σ.1 74) p N)) ∧ t = σ := ⟨_, rfl⟩
  have inner : ∀ (bits : Int32) (i : Nat), i < 7 → (∀ (x : Int32) (z z6 : Option Value), x = b2i (allB (kmB (σ.1 74) p (nI i)) N = true) → Ev E (rm (d + 1)) RX6 cX6_kindsOfHearer 7 F 99 [some (.ref (E.1 73)), some (.int p), some (.int bits), some (.int (nI i)), some (.int x), z, z6] [] σ) →
      ∀ (n k : Nat) (x : Int32) (z6 : Option Value), k + n = N → x = b2i (allB (kmB (σ.1 74) p (nI i)) k = true) → Ev E (rm (d + 1)) RX6 cX6_kindsOfHearer 7 F 16 [some (.ref (E.1 73)), some (.int p), some (.int bits), some (.int (nI i)), some (.int x), some (.int (nI k)), z6] [] σ := by
    intro bits i hi K n
    induction n with
    | zero =>
      intro k x z6 hk hx
      refine ev_iload_5 dX6_kindsOfHearer_16 ?_
      refine ev_aload_0 dX6_kindsOfHearer_18 ?_
      refine ev_get dX6_kindsOfHearer_19 fk_X6_7 (by first | assumption | decide) (by decide) rfl ?_
      refine ev_iconst_5 dX6_kindsOfHearer_22 ?_
      refine ev_aldL (n := 5) dX6_kindsOfHearer_23 (by first | assumption | decide) (by have := xls; omega) ?_
      refine Ev.pc 24 rfl ?_
      refine ev_icmp_ge 99 dX6_kindsOfHearer_24 rfl (fun h24 => ?_) (fun h24 => ?_)
      · exact K x _ _ (by rw [hx, show k = N by omega])
      · exact absurd (show σ.1 74 5 ≤ nI k by rw [hN]; exact nI_le (by omega) (by omega)) h24
    | succ n ih =>
      intro k x z6 hk hx
      refine ev_iload_5 dX6_kindsOfHearer_16 ?_
      refine ev_aload_0 dX6_kindsOfHearer_18 ?_
      refine ev_get dX6_kindsOfHearer_19 fk_X6_7 (by first | assumption | decide) (by decide) rfl ?_
      refine ev_iconst_5 dX6_kindsOfHearer_22 ?_
      refine ev_aldL (n := 5) dX6_kindsOfHearer_23 (by first | assumption | decide) (by have := xls; omega) ?_
      refine Ev.pc 24 rfl ?_
      refine ev_icmp_ge 99 dX6_kindsOfHearer_24 rfl (fun h24 => ?_) (fun h24 => ?_)
      · exact absurd h24 (by rw [hN]; exact nI_ge (by omega) (by omega))
      · refine ev_bipush (82) dX6_kindsOfHearer_27 rfl ?_
        refine ev_iconst_4 dX6_kindsOfHearer_29 ?_
        refine ev_iload_5 dX6_kindsOfHearer_30 ?_
        refine ev_imul dX6_kindsOfHearer_32 ?_
        refine ev_iadd dX6_kindsOfHearer_33 ?_
        refine Ev.pc 34 rfl ?_
        refine ev_istore_6 dX6_kindsOfHearer_34 rfl ?_
        refine ev_iload_4 dX6_kindsOfHearer_36 ?_
        refine ev_if_eq 90 dX6_kindsOfHearer_38 rfl (fun h38 => ?_) (fun h38 => ?_)
        · refine ev_iconst_0 dX6_kindsOfHearer_90 ?_
          refine ev_istore_4 dX6_kindsOfHearer_91 rfl ?_
          refine ev_iinc_5 (1) dX6_kindsOfHearer_93 rfl rfl ?_
          refine ev_goto 16 dX6_kindsOfHearer_96 rfl ?_
          rw [nI_1]
          exact ih (k + 1) _ _ (by omega) (by first | exact allB_no1 hx h38 | exact allB_no2 (kmB_no h49 h83) | exact allB_yes hx h38 (kmB_y1 h49) | exact allB_yes hx h38 (kmB_y2 h83))
        · refine ev_aload_0 dX6_kindsOfHearer_41 ?_
          refine ev_get dX6_kindsOfHearer_42 fk_X6_7 (by first | assumption | decide) (by decide) rfl ?_
          refine ev_iload_6 dX6_kindsOfHearer_45 ?_
          refine ev_aldN (k := 82 + 4 * k) dX6_kindsOfHearer_47 (by first | assumption | decide) (by first | rfl | (simp only [fa_lit, nI_add, pk_mul]; done) | (simp only [fa_lit, nI_add, pk_mul]; congr 1; omega)) (by have := xls; omega) ?_
          refine ev_iload_1 dX6_kindsOfHearer_48 ?_
          refine Ev.pc 49 rfl ?_
          refine ev_icmp_ne 86 dX6_kindsOfHearer_49 rfl (fun h49 => ?_) (fun h49 => ?_)
          · refine ev_iconst_1 dX6_kindsOfHearer_86 ?_
            refine ev_goto 91 dX6_kindsOfHearer_87 rfl ?_
            refine ev_istore_4 dX6_kindsOfHearer_91 rfl ?_
            refine ev_iinc_5 (1) dX6_kindsOfHearer_93 rfl rfl ?_
            refine ev_goto 16 dX6_kindsOfHearer_96 rfl ?_
            rw [nI_1]
            exact ih (k + 1) _ _ (by omega) (by first | exact allB_no1 hx h38 | exact allB_no2 (kmB_no h49 h83) | exact allB_yes hx h38 (kmB_y1 h49) | exact allB_yes hx h38 (kmB_y2 h83))
          · refine ev_iload_3 dX6_kindsOfHearer_52 ?_
            refine ev_aload_0 dX6_kindsOfHearer_53 ?_
            refine ev_get dX6_kindsOfHearer_54 fk_X6_7 (by first | assumption | decide) (by decide) rfl ?_
            refine ev_iload_6 dX6_kindsOfHearer_57 ?_
            refine ev_iconst_2 dX6_kindsOfHearer_59 ?_
            refine Ev.pc 60 rfl ?_
            refine ev_iadd dX6_kindsOfHearer_60 ?_
            refine ev_aldN (k := 82 + 4 * k + 2) dX6_kindsOfHearer_61 (by first | assumption | decide) (by first | rfl | (simp only [fa_lit, nI_add, pk_mul]; done) | (simp only [fa_lit, nI_add, pk_mul]; congr 1; omega)) (by have := xls; omega) ?_
            refine ev_aload_0 dX6_kindsOfHearer_62 ?_
            refine ev_get dX6_kindsOfHearer_63 fk_X6_7 (by first | assumption | decide) (by decide) rfl ?_
            refine ev_iload_6 dX6_kindsOfHearer_66 ?_
            refine Ev.pc 68 rfl ?_
            refine ev_iconst_1 dX6_kindsOfHearer_68 ?_
            refine ev_iadd dX6_kindsOfHearer_69 ?_
            refine ev_aldN (k := 82 + 4 * k + 1) dX6_kindsOfHearer_70 (by first | assumption | decide) (by first | rfl | (simp only [fa_lit, nI_add, pk_mul]; done) | (simp only [fa_lit, nI_add, pk_mul]; congr 1; omega)) (by have := xls; omega) ?_
            refine ev_invS dX6_kindsOfHearer_71 ml_X6_92 mt_X6_joyAs (c_X6_joyAs d) rfl rfl (rm_ok (by omega)) (Nat.le_of_ble_eq_true rfl) ?_
            refine Ev.pc 74 rfl ?_
            refine ev_aload_0 dX6_kindsOfHearer_74 ?_
            refine Ev.pc 75 rfl ?_
            refine ev_get dX6_kindsOfHearer_75 fk_X6_7 (by first | assumption | decide) (by decide) rfl ?_
            refine ev_iload_6 dX6_kindsOfHearer_78 ?_
            refine ev_iconst_3 dX6_kindsOfHearer_80 ?_
            refine ev_iadd dX6_kindsOfHearer_81 ?_
            refine ev_aldN (k := 82 + 4 * k + 3) dX6_kindsOfHearer_82 (by first | assumption | decide) (by first | rfl | (simp only [fa_lit, nI_add, pk_mul]; done) | (simp only [fa_lit, nI_add, pk_mul]; congr 1; omega)) (by have := xls; omega) ?_
            refine Ev.pc 83 rfl ?_
            refine ev_icmp_ne 90 dX6_kindsOfHearer_83 rfl (fun h83 => ?_) (fun h83 => ?_)
            · refine ev_iconst_0 dX6_kindsOfHearer_90 ?_
              refine ev_istore_4 dX6_kindsOfHearer_91 rfl ?_
              refine ev_iinc_5 (1) dX6_kindsOfHearer_93 rfl rfl ?_
              refine ev_goto 16 dX6_kindsOfHearer_96 rfl ?_
              rw [nI_1]
              exact ih (k + 1) _ _ (by omega) (by first | exact allB_no1 hx h38 | exact allB_no2 (kmB_no h49 h83) | exact allB_yes hx h38 (kmB_y1 h49) | exact allB_yes hx h38 (kmB_y2 h83))
            · refine ev_iconst_1 dX6_kindsOfHearer_86 ?_
              refine ev_goto 91 dX6_kindsOfHearer_87 rfl ?_
              refine ev_istore_4 dX6_kindsOfHearer_91 rfl ?_
              refine ev_iinc_5 (1) dX6_kindsOfHearer_93 rfl rfl ?_
              refine ev_goto 16 dX6_kindsOfHearer_96 rfl ?_
              rw [nI_1]
              exact ih (k + 1) _ _ (by omega) (by first | exact allB_no1 hx h38 | exact allB_no2 (kmB_no h49 h83) | exact allB_yes hx h38 (kmB_y1 h49) | exact allB_yes hx h38 (kmB_y2 h83))
  have loop : ∀ (n i : Nat) (bits : Int32) (z4 z5 z6 : Option Value), i + n = 6 → bits = mkI (fun i => allB (kmB (σ.1 74) p (nI i)) N) i → Ev E (rm (d + 1)) RX6 cX6_kindsOfHearer 7 F 4 [some (.ref (E.1 73)), some (.int p), some (.int bits), some (.int (nI i)), z4, z5, z6] [] σ := by
    intro n
    induction n with
    | zero =>
      intro k bits z4 z5 z6 hk hb
      rw [hF]
      refine ev_iload_3 dX6_kindsOfHearer_4 ?_
      refine ev_bipush (6) dX6_kindsOfHearer_5 rfl ?_
      refine ev_icmp_ge 120 dX6_kindsOfHearer_7 rfl (fun h7 => ?_) (fun h7 => ?_)
      · refine ev_iload_2 dX6_kindsOfHearer_120 ?_
        exact ev_ireturn dX6_kindsOfHearer_121 ⟨by (rw [hb, show k = 6 by omega]; rfl), by rfl⟩
      · exact absurd (show nI 6 ≤ nI k from nI_le (by omega) (by omega)) h7
    | succ n ih =>
      intro k bits z4 z5 z6 hk hb
      refine ev_iload_3 dX6_kindsOfHearer_4 ?_
      refine ev_bipush (6) dX6_kindsOfHearer_5 rfl ?_
      refine ev_icmp_ge 120 dX6_kindsOfHearer_7 rfl (fun h7 => ?_) (fun h7 => ?_)
      · exact absurd h7 (show ¬ nI 6 ≤ nI k from nI_ge (by omega) (by omega))
      · refine ev_iconst_1 dX6_kindsOfHearer_10 ?_
        refine ev_istore_4 dX6_kindsOfHearer_11 rfl ?_
        refine ev_iconst_0 dX6_kindsOfHearer_13 ?_
        refine ev_istore_5 dX6_kindsOfHearer_14 rfl ?_
        refine inner bits k (by omega) (fun x z z6 hx => ?_) N 0 1 _ (by omega) rfl
        have ms := mkI_step (fun i => allB (kmB (σ.1 74) p (nI i)) N) hb hx
        refine ev_iload_2 dX6_kindsOfHearer_99 ?_
        refine ev_iload_4 dX6_kindsOfHearer_100 ?_
        refine ev_if_eq 111 dX6_kindsOfHearer_102 rfl (fun h102 => ?_) (fun h102 => ?_)
        · refine ev_iconst_0 dX6_kindsOfHearer_111 ?_
          refine ev_ior dX6_kindsOfHearer_112 ?_
          refine ev_istore_2 dX6_kindsOfHearer_113 rfl ?_
          refine ev_iinc_3 (1) dX6_kindsOfHearer_114 rfl rfl ?_
          refine ev_goto 4 dX6_kindsOfHearer_117 rfl ?_
          rw [nI_1]
          exact ih (k + 1) _ _ _ _ (by omega) (by first | exact ms.1 h102 | exact ms.2 h102)
        · refine ev_iconst_1 dX6_kindsOfHearer_105 ?_
          refine ev_iload_3 dX6_kindsOfHearer_106 ?_
          refine ev_ishl dX6_kindsOfHearer_107 ?_
          refine ev_goto 112 dX6_kindsOfHearer_108 rfl ?_
          refine ev_ior dX6_kindsOfHearer_112 ?_
          refine ev_istore_2 dX6_kindsOfHearer_113 rfl ?_
          refine Ev.pc 114 rfl ?_
          refine ev_iinc_3 (1) dX6_kindsOfHearer_114 rfl rfl ?_
          refine ev_goto 4 dX6_kindsOfHearer_117 rfl ?_
          rw [nI_1]
          exact ih (k + 1) _ _ _ _ (by omega) (by first | exact ms.1 h102 | exact ms.2 h102)
  rw [hF] at loop
  refine Ct.of (by decide +kernel) (Nat.le_of_ble_eq_true rfl) ⟨_, rfl, rfl⟩ ?_
  show Ev E _ RX6 cX6_kindsOfHearer 7 _ 0 [some (.ref (E.1 73)), some (.int p), none, none, none, none, none] [] _
  refine ev_iconst_0 dX6_kindsOfHearer_0 ?_
  refine ev_istore_2 dX6_kindsOfHearer_1 rfl ?_
  refine ev_iconst_0 dX6_kindsOfHearer_2 ?_
  refine ev_istore_3 dX6_kindsOfHearer_3 rfl ?_
  exact loop 6 0 0 _ _ _ (by omega) rfl
theorem c_X6_is_bad (d : Nat) {E : xE} {σ : xS} {p : Int32} (q7 : ¬ hasIn (σ.1 74 0) p) : Ct E (d + 2) yX6_is cX6_is 2 (some .int) [.ref (E.1 73), .int p] σ (some (.int (-2))) (mBad σ) := by
  refine Ct.of (by decide +kernel) (Nat.le_of_ble_eq_true rfl) ⟨_, rfl, rfl⟩ ?_
  show Ev E _ RX6 cX6_is 2 _ 0 [some (.ref (E.1 73)), some (.int p)] [] _
  refine ev_aload_0 dX6_is_0 ?_
  refine ev_iload_1 dX6_is_1 ?_
  refine ev_invV (ci := 6) dX6_is_2 ml_X6_121 mt_X6_isPromise (c_X6_isPromise d) (by first | assumption | decide) (by decide) rfl rfl rfl (rm_ok (by omega)) (Nat.le_of_ble_eq_true rfl) ?_
  refine Ev.pc 5 rfl ?_
  refine ev_if_eq 16 dX6_is_5 rfl (fun h5 => ?_) (fun h5 => ?_)
  · refine ev_aload_0 dX6_is_16 ?_
    refine ev_bipush (-2) dX6_is_17 rfl ?_
    refine ev_invV (ci := 6) dX6_is_19 ml_X6_71 mt_X6_bad (c_X6_bad d) (by first | assumption | decide) (by decide) rfl rfl rfl (rm_ok (by omega)) (Nat.le_of_ble_eq_true rfl) ?_
    refine Ev.pc 22 rfl ?_
    exact ev_ireturn dX6_is_22 ⟨by rfl, by rfl⟩
  · exact absurd (b2i_n0.mp h5) q7
theorem c_X6_is (d : Nat) {E : xE} {σ : xS} {N : Nat} {p : Int32} (hN : σ.1 74 4 = nI N) (hN6 : N ≤ 6) (h1 : hasIn (σ.1 74 0) p) : Ct E (d + 2) yX6_is cX6_is 2 (some .int) [.ref (E.1 73), .int p] σ (some (.int (kindP (σ.1 74) p N))) σ := by
  refine Ct.of (by decide +kernel) (Nat.le_of_ble_eq_true rfl) ⟨_, rfl, rfl⟩ ?_
  show Ev E _ RX6 cX6_is 2 _ 0 [some (.ref (E.1 73)), some (.int p)] [] _
  refine ev_aload_0 dX6_is_0 ?_
  refine ev_iload_1 dX6_is_1 ?_
  refine ev_invV (ci := 6) dX6_is_2 ml_X6_121 mt_X6_isPromise (c_X6_isPromise d) (by first | assumption | decide) (by decide) rfl rfl rfl (rm_ok (by omega)) (Nat.le_of_ble_eq_true rfl) ?_
  refine Ev.pc 5 rfl ?_
  refine ev_if_eq 16 dX6_is_5 rfl (fun h5 => ?_) (fun h5 => ?_)
  · exact absurd h1 (b2i_0.mp h5)
  · refine ev_aload_0 dX6_is_8 ?_
    refine ev_iload_1 dX6_is_9 ?_
    refine ev_invV (ci := 6) dX6_is_10 ml_X6_185 mt_X6_kindsOfPromise (c_X6_kindsOfPromise d hN hN6) (by first | assumption | decide) (by decide) rfl rfl rfl (rm_ok (by omega)) (Nat.le_of_ble_eq_true rfl) ?_
    refine Ev.pc 13 rfl ?_
    refine ev_goto 22 dX6_is_13 rfl ?_
    exact ev_ireturn dX6_is_22 ⟨by rfl, by rfl⟩
theorem c_X6_kinds_bad (d : Nat) {E : xE} {σ : xS} {p : Int32} (q7 : ¬ hasIn (σ.1 74 1) p) : Ct E (d + 2) yX6_kinds cX6_kinds 2 (some .int) [.ref (E.1 73), .int p] σ (some (.int (-2))) (mBad σ) := by
  refine Ct.of (by decide +kernel) (Nat.le_of_ble_eq_true rfl) ⟨_, rfl, rfl⟩ ?_
  show Ev E _ RX6 cX6_kinds 2 _ 0 [some (.ref (E.1 73)), some (.int p)] [] _
  refine ev_aload_0 dX6_kinds_0 ?_
  refine ev_iload_1 dX6_kinds_1 ?_
  refine ev_invV (ci := 6) dX6_kinds_2 ml_X6_134 mt_X6_isHearer (c_X6_isHearer d) (by first | assumption | decide) (by decide) rfl rfl rfl (rm_ok (by omega)) (Nat.le_of_ble_eq_true rfl) ?_
  refine Ev.pc 5 rfl ?_
  refine ev_if_eq 16 dX6_kinds_5 rfl (fun h5 => ?_) (fun h5 => ?_)
  · refine ev_aload_0 dX6_kinds_16 ?_
    refine ev_bipush (-2) dX6_kinds_17 rfl ?_
    refine ev_invV (ci := 6) dX6_kinds_19 ml_X6_71 mt_X6_bad (c_X6_bad d) (by first | assumption | decide) (by decide) rfl rfl rfl (rm_ok (by omega)) (Nat.le_of_ble_eq_true rfl) ?_
    refine Ev.pc 22 rfl ?_
    exact ev_ireturn dX6_kinds_22 ⟨by rfl, by rfl⟩
  · exact absurd (b2i_n0.mp h5) q7
theorem c_X6_kinds (d : Nat) {E : xE} {σ : xS} {N : Nat} {p : Int32} (hN : σ.1 74 5 = nI N) (hN6 : N ≤ 6) (h1 : hasIn (σ.1 74 1) p) : Ct E (d + 2) yX6_kinds cX6_kinds 2 (some .int) [.ref (E.1 73), .int p] σ (some (.int (kindH (σ.1 74) p N))) σ := by
  refine Ct.of (by decide +kernel) (Nat.le_of_ble_eq_true rfl) ⟨_, rfl, rfl⟩ ?_
  show Ev E _ RX6 cX6_kinds 2 _ 0 [some (.ref (E.1 73)), some (.int p)] [] _
  refine ev_aload_0 dX6_kinds_0 ?_
  refine ev_iload_1 dX6_kinds_1 ?_
  refine ev_invV (ci := 6) dX6_kinds_2 ml_X6_134 mt_X6_isHearer (c_X6_isHearer d) (by first | assumption | decide) (by decide) rfl rfl rfl (rm_ok (by omega)) (Nat.le_of_ble_eq_true rfl) ?_
  refine Ev.pc 5 rfl ?_
  refine ev_if_eq 16 dX6_kinds_5 rfl (fun h5 => ?_) (fun h5 => ?_)
  · exact absurd h1 (b2i_0.mp h5)
  · refine ev_aload_0 dX6_kinds_8 ?_
    refine ev_iload_1 dX6_kinds_9 ?_
    refine ev_invV (ci := 6) dX6_kinds_10 ml_X6_188 mt_X6_kindsOfHearer (c_X6_kindsOfHearer d hN hN6) (by first | assumption | decide) (by decide) rfl rfl rfl (rm_ok (by omega)) (Nat.le_of_ble_eq_true rfl) ?_
    refine Ev.pc 13 rfl ?_
    refine ev_goto 22 dX6_kinds_13 rfl ?_
    exact ev_ireturn dX6_kinds_22 ⟨by rfl, by rfl⟩
