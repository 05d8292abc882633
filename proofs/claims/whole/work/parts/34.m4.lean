/-! the reference: what it tells of promises, hearers, buyers; what is seen, noted, marked -/
def toldF (f : Nat → Int32) (p : Nat) (w : Int32) : Int32 := if w = 0 then f (26 + p) else if w = 1 then f (33 + p) else if w = 2 then f (14 + p) else if w = 3 then f (7 + p) else if w = 4 then goodF f p else priceF f p
theorem c_X6_toldOf (d : Nat) {E : xE} {σ : xS} {p : Nat} {w : Int32} (hp : p < 7) : Ct E (d + 3) yX6_toldOf cX6_toldOf 3 (some .int) [.ref (E.1 73), .int (nI p), .int w] σ (some (.int (toldF (σ.1 74) p w))) σ := by
  refine Ct.of (by decide +kernel) (Nat.le_of_ble_eq_true rfl) ⟨_, rfl, rfl⟩ ?_
  show Ev E _ RX6 cX6_toldOf 3 _ 0 [some (.ref (E.1 73)), some (.int (nI p)), some (.int w)] [] _
  refine ev_iload_2 dX6_toldOf_0 ?_
  refine sw_X6_toldOf_1 (fun h1 => ?_) (fun h1 => ?_) (fun h1 => ?_) (fun h1 => ?_) (fun h1 => ?_) (fun h1_0 h1_1 h1_2 h1_3 h1_4 => ?_)
  · refine ev_aload_0 dX6_toldOf_36 ?_
    refine ev_get dX6_toldOf_37 fk_X6_7 (by first | assumption | decide) (by decide) rfl ?_
    refine ev_bipush (26) dX6_toldOf_40 rfl ?_
    refine ev_iload_1 dX6_toldOf_42 ?_
    refine ev_iadd dX6_toldOf_43 ?_
    refine Ev.pc 44 rfl ?_
    refine ev_aldA (n := 26) dX6_toldOf_44 (by first | assumption | decide) (by have := xls; omega) ?_
    exact ev_ireturn dX6_toldOf_45 ⟨by (simp [toldF, *]), by rfl⟩
  · refine ev_aload_0 dX6_toldOf_46 ?_
    refine ev_get dX6_toldOf_47 fk_X6_7 (by first | assumption | decide) (by decide) rfl ?_
    refine ev_bipush (33) dX6_toldOf_50 rfl ?_
    refine ev_iload_1 dX6_toldOf_52 ?_
    refine ev_iadd dX6_toldOf_53 ?_
    refine Ev.pc 54 rfl ?_
    refine ev_aldA (n := 33) dX6_toldOf_54 (by first | assumption | decide) (by have := xls; omega) ?_
    exact ev_ireturn dX6_toldOf_55 ⟨by (simp [toldF, *]), by rfl⟩
  · refine ev_aload_0 dX6_toldOf_56 ?_
    refine ev_get dX6_toldOf_57 fk_X6_7 (by first | assumption | decide) (by decide) rfl ?_
    refine ev_bipush (14) dX6_toldOf_60 rfl ?_
    refine ev_iload_1 dX6_toldOf_62 ?_
    refine ev_iadd dX6_toldOf_63 ?_
    refine Ev.pc 64 rfl ?_
    refine ev_aldA (n := 14) dX6_toldOf_64 (by first | assumption | decide) (by have := xls; omega) ?_
    exact ev_ireturn dX6_toldOf_65 ⟨by (simp [toldF, *]), by rfl⟩
  · refine ev_aload_0 dX6_toldOf_66 ?_
    refine ev_get dX6_toldOf_67 fk_X6_7 (by first | assumption | decide) (by decide) rfl ?_
    refine ev_bipush (7) dX6_toldOf_70 rfl ?_
    refine ev_iload_1 dX6_toldOf_72 ?_
    refine ev_iadd dX6_toldOf_73 ?_
    refine Ev.pc 74 rfl ?_
    refine ev_aldA (n := 7) dX6_toldOf_74 (by first | assumption | decide) (by have := xls; omega) ?_
    exact ev_ireturn dX6_toldOf_75 ⟨by (simp [toldF, *]), by rfl⟩
  · refine ev_aload_0 dX6_toldOf_76 ?_
    refine ev_get dX6_toldOf_77 fk_X6_7 (by first | assumption | decide) (by decide) rfl ?_
    refine ev_iload_1 dX6_toldOf_80 ?_
    refine ev_invS dX6_toldOf_81 ml_X6_88 mt_X6_goodOf (c_X6_goodOf d (by first | assumption | decide) (by have := xls; omega) (by omega)) rfl rfl (rm_ok (by omega)) (Nat.le_of_ble_eq_true rfl) ?_
    refine Ev.pc 84 rfl ?_
    exact ev_ireturn dX6_toldOf_84 ⟨by (simp [toldF, *]), by rfl⟩
  · refine ev_aload_0 dX6_toldOf_85 ?_
    refine ev_get dX6_toldOf_86 fk_X6_7 (by first | assumption | decide) (by decide) rfl ?_
    refine ev_iload_1 dX6_toldOf_89 ?_
    refine ev_invS dX6_toldOf_90 ml_X6_111 mt_X6_priceOf (c_X6_priceOf d (by first | assumption | decide) (by have := xls; omega) (by omega)) rfl rfl (rm_ok (by omega)) (Nat.le_of_ble_eq_true rfl) ?_
    refine Ev.pc 93 rfl ?_
    exact ev_ireturn dX6_toldOf_93 ⟨by (simp [toldF, *]), by rfl⟩
theorem c_X6_of_bad (d : Nat) {E : xE} {σ : xS} {p w : Int32} (q7 : ¬ (hasIn (σ.1 74 0) p ∧ btw w 0 5)) : Ct E (d + 4) yX6_of cX6_of 3 (some .int) [.ref (E.1 73), .int p, .int w] σ (some (.int (-2))) (mBad σ) := by
  refine Ct.of (by decide +kernel) (Nat.le_of_ble_eq_true rfl) ⟨_, rfl, rfl⟩ ?_
  show Ev E _ RX6 cX6_of 3 _ 0 [some (.ref (E.1 73)), some (.int p), some (.int w)] [] _
  refine ev_aload_0 dX6_of_0 ?_
  refine ev_iload_1 dX6_of_1 ?_
  refine ev_invV (ci := 6) dX6_of_2 ml_X6_121 mt_X6_isPromise (c_X6_isPromise d) (by first | assumption | decide) (by decide) rfl rfl rfl (rm_ok (by omega)) (Nat.le_of_ble_eq_true rfl) ?_
  refine Ev.pc 5 rfl ?_
  refine ev_if_eq 29 dX6_of_5 rfl (fun h5 => ?_) (fun h5 => ?_)
  · refine ev_aload_0 dX6_of_29 ?_
    refine ev_bipush (-2) dX6_of_30 rfl ?_
    refine ev_invV (ci := 6) dX6_of_32 ml_X6_71 mt_X6_bad (c_X6_bad d) (by first | assumption | decide) (by decide) rfl rfl rfl (rm_ok (by omega)) (Nat.le_of_ble_eq_true rfl) ?_
    refine Ev.pc 35 rfl ?_
    exact ev_ireturn dX6_of_35 ⟨by rfl, by rfl⟩
  · refine ev_iload_2 dX6_of_8 ?_
    refine ev_i2l dX6_of_9 ?_
    refine ev_lconst_0 dX6_of_10 ?_
    refine ev_ldc2_w dX6_of_11 cn_X6_60 ?_
    refine ev_invS dX6_of_14 ml_X6_56 mt_X6_in (c_X6_in d (v := w) (lo := 0) (hi := 5) (by first | rfl | decide) (by first | rfl | decide) (by first | rfl | decide)) rfl rfl (rm_ok (by omega)) (Nat.le_of_ble_eq_true rfl) ?_
    refine Ev.pc 17 rfl ?_
    refine ev_if_eq 29 dX6_of_17 rfl (fun h17 => ?_) (fun h17 => ?_)
    · refine ev_aload_0 dX6_of_29 ?_
      refine ev_bipush (-2) dX6_of_30 rfl ?_
      refine ev_invV (ci := 6) dX6_of_32 ml_X6_71 mt_X6_bad (c_X6_bad d) (by first | assumption | decide) (by decide) rfl rfl rfl (rm_ok (by omega)) (Nat.le_of_ble_eq_true rfl) ?_
      refine Ev.pc 35 rfl ?_
      exact ev_ireturn dX6_of_35 ⟨by rfl, by rfl⟩
    · exact absurd ⟨b2i_n0.mp h5, b2i_n0.mp h17⟩ q7
theorem c_X6_of (d : Nat) {E : xE} {σ : xS} {P p : Nat} {w : Int32} (hP : σ.1 74 0 = nI P) (hP7 : P ≤ 7) (hp : p < P) (hw : btw w 0 5) : Ct E (d + 4) yX6_of cX6_of 3 (some .int) [.ref (E.1 73), .int (nI p), .int w] σ (some (.int (toldF (σ.1 74) p w))) σ := by
  have e2 : hasIn (σ.1 74 0) (nI p) := by rw [hP]; exact hasIn_of (by omega) hp
  refine Ct.of (by decide +kernel) (Nat.le_of_ble_eq_true rfl) ⟨_, rfl, rfl⟩ ?_
  show Ev E _ RX6 cX6_of 3 _ 0 [some (.ref (E.1 73)), some (.int (nI p)), some (.int w)] [] _
  refine ev_aload_0 dX6_of_0 ?_
  refine ev_iload_1 dX6_of_1 ?_
  refine ev_invV (ci := 6) dX6_of_2 ml_X6_121 mt_X6_isPromise (c_X6_isPromise d) (by first | assumption | decide) (by decide) rfl rfl rfl (rm_ok (by omega)) (Nat.le_of_ble_eq_true rfl) ?_
  refine Ev.pc 5 rfl ?_
  refine ev_if_eq 29 dX6_of_5 rfl (fun h5 => ?_) (fun h5 => ?_)
  · exact absurd e2 (b2i_0.mp h5)
  · refine ev_iload_2 dX6_of_8 ?_
    refine ev_i2l dX6_of_9 ?_
    refine ev_lconst_0 dX6_of_10 ?_
    refine ev_ldc2_w dX6_of_11 cn_X6_60 ?_
    refine ev_invS dX6_of_14 ml_X6_56 mt_X6_in (c_X6_in d (v := w) (lo := 0) (hi := 5) (by first | rfl | decide) (by first | rfl | decide) (by first | rfl | decide)) rfl rfl (rm_ok (by omega)) (Nat.le_of_ble_eq_true rfl) ?_
    refine Ev.pc 17 rfl ?_
    refine ev_if_eq 29 dX6_of_17 rfl (fun h17 => ?_) (fun h17 => ?_)
    · exact absurd hw (b2i_0.mp h17)
    · refine ev_aload_0 dX6_of_20 ?_
      refine ev_iload_1 dX6_of_21 ?_
      refine ev_iload_2 dX6_of_22 ?_
      refine ev_invV (ci := 6) dX6_of_23 ml_X6_143 mt_X6_toldOf (c_X6_toldOf d (by omega)) (by first | assumption | decide) (by decide) rfl rfl rfl (rm_ok (by omega)) (Nat.le_of_ble_eq_true rfl) ?_
      refine Ev.pc 26 rfl ?_
      refine ev_goto 35 dX6_of_26 rfl ?_
      exact ev_ireturn dX6_of_35 ⟨by rfl, by rfl⟩
def allM (f : Nat → Int32) (P : Nat) (place : Int32) : Int32 := mkI (fun k => decide (f (7 + k) = place)) P
theorem c_X6_allIn (d : Nat) {E : xE} {σ : xS} {P : Nat} {pl : Int32} (hP : σ.1 74 0 = nI P) (hP7 : P ≤ 7) : Ct E (d + 1) yX6_allIn cX6_allIn 4 (some .int) [.ref (E.1 73), .int pl] σ (some (.int (allM (σ.1 74) P pl))) σ := by
  have loop : ∀ (n k : Nat) (bits : Int32), k + n = P → bits = mkI (fun k => decide (σ.1 74 (7 + k) = pl)) k → Ev E (rm (d + 1)) RX6 cX6_allIn 4 (fun v t => v = some (.int (allM (σ.1 74) P pl)) ∧ t = σ) 4 [some (.ref (E.1 73)), some (.int pl), some (.int bits), some (.int (nI k))] [] σ := by
    intro n
    induction n with
    | zero =>
      intro k bits hk hb
      refine ev_iload_3 dX6_allIn_4 ?_
      refine ev_aload_0 dX6_allIn_5 ?_
      refine ev_invV (ci := 6) dX6_allIn_6 ml_X6_52 mt_X6_many (c_X6_many d) (by first | assumption | decide) (by decide) rfl rfl rfl (rm_ok (by omega)) (Nat.le_of_ble_eq_true rfl) ?_
      refine Ev.pc 9 rfl ?_
      refine ev_icmp_ge 41 dX6_allIn_9 rfl (fun h9 => ?_) (fun h9 => ?_)
      · refine ev_iload_2 dX6_allIn_41 ?_
        exact ev_ireturn dX6_allIn_42 ⟨by (rw [hb, show k = P by omega]; rfl), by rfl⟩
      · exact absurd (show σ.1 74 0 ≤ nI k by rw [hP]; exact nI_le (by omega) (by omega)) h9
    | succ n ih =>
      intro k bits hk hb
      refine ev_iload_3 dX6_allIn_4 ?_
      refine ev_aload_0 dX6_allIn_5 ?_
      refine ev_invV (ci := 6) dX6_allIn_6 ml_X6_52 mt_X6_many (c_X6_many d) (by first | assumption | decide) (by decide) rfl rfl rfl (rm_ok (by omega)) (Nat.le_of_ble_eq_true rfl) ?_
      refine Ev.pc 9 rfl ?_
      refine ev_icmp_ge 41 dX6_allIn_9 rfl (fun h9 => ?_) (fun h9 => ?_)
      · exact absurd h9 (by rw [hP]; exact nI_ge (by omega) (by omega))
      · refine ev_iload_2 dX6_allIn_12 ?_
        refine ev_aload_0 dX6_allIn_13 ?_
        refine ev_get dX6_allIn_14 fk_X6_7 (by first | assumption | decide) (by decide) rfl ?_
        refine ev_bipush (7) dX6_allIn_17 rfl ?_
        refine ev_iload_3 dX6_allIn_19 ?_
        refine Ev.pc 20 rfl ?_
        refine ev_iadd dX6_allIn_20 ?_
        refine ev_aldA (n := 7) dX6_allIn_21 (by first | assumption | decide) (by have := xls; omega) ?_
        refine ev_iload_1 dX6_allIn_22 ?_
        refine ev_icmp_ne 32 dX6_allIn_23 rfl (fun h23 => ?_) (fun h23 => ?_)
        · refine ev_iconst_0 dX6_allIn_32 ?_
          refine ev_ior dX6_allIn_33 ?_
          refine ev_istore_2 dX6_allIn_34 rfl ?_
          refine ev_iinc_3 (1) dX6_allIn_35 rfl rfl ?_
          refine ev_goto 4 dX6_allIn_38 rfl ?_
          rw [nI_1]
          exact ih (k + 1) _ (by omega) (by rw [mkI, hb]; simp [h23])
        · refine ev_iconst_1 dX6_allIn_26 ?_
          refine ev_iload_3 dX6_allIn_27 ?_
          refine ev_ishl dX6_allIn_28 ?_
          refine ev_goto 33 dX6_allIn_29 rfl ?_
          refine ev_ior dX6_allIn_33 ?_
          refine ev_istore_2 dX6_allIn_34 rfl ?_
          refine Ev.pc 35 rfl ?_
          refine ev_iinc_3 (1) dX6_allIn_35 rfl rfl ?_
          refine ev_goto 4 dX6_allIn_38 rfl ?_
          rw [nI_1]
          exact ih (k + 1) _ (by omega) (by rw [mkI, hb]; simp [h23])
  refine Ct.of (by decide +kernel) (Nat.le_of_ble_eq_true rfl) ⟨_, rfl, rfl⟩ ?_
  show Ev E _ RX6 cX6_allIn 4 _ 0 [some (.ref (E.1 73)), some (.int pl), none, none] [] _
  refine ev_iconst_0 dX6_allIn_0 ?_
  refine ev_istore_2 dX6_allIn_1 rfl ?_
  refine ev_iconst_0 dX6_allIn_2 ?_
  refine ev_istore_3 dX6_allIn_3 rfl ?_
  exact loop P 0 0 (by omega) rfl
theorem c_X6_about_bad (d : Nat) {E : xE} {σ : xS} {p w : Int32} (q7 : ¬ (hasIn (σ.1 74 1) p ∧ btw w 0 2)) : Ct E (d + 2) yX6_about cX6_about 3 (some .int) [.ref (E.1 73), .int p, .int w] σ (some (.int (-2))) (mBad σ) := by
  refine Ct.of (by decide +kernel) (Nat.le_of_ble_eq_true rfl) ⟨_, rfl, rfl⟩ ?_
  show Ev E _ RX6 cX6_about 3 _ 0 [some (.ref (E.1 73)), some (.int p), some (.int w)] [] _
  refine ev_aload_0 dX6_about_0 ?_
  refine ev_iload_1 dX6_about_1 ?_
  refine ev_invV (ci := 6) dX6_about_2 ml_X6_134 mt_X6_isHearer (c_X6_isHearer d) (by first | assumption | decide) (by decide) rfl rfl rfl (rm_ok (by omega)) (Nat.le_of_ble_eq_true rfl) ?_
  refine Ev.pc 5 rfl ?_
  refine ev_if_eq 20 dX6_about_5 rfl (fun h5 => ?_) (fun h5 => ?_)
  · refine ev_aload_0 dX6_about_20 ?_
    refine ev_bipush (-2) dX6_about_21 rfl ?_
    refine ev_invV (ci := 6) dX6_about_23 ml_X6_71 mt_X6_bad (c_X6_bad d) (by first | assumption | decide) (by decide) rfl rfl rfl (rm_ok (by omega)) (Nat.le_of_ble_eq_true rfl) ?_
    refine Ev.pc 26 rfl ?_
    exact ev_ireturn dX6_about_26 ⟨by rfl, by rfl⟩
  · refine ev_iload_2 dX6_about_8 ?_
    refine ev_i2l dX6_about_9 ?_
    refine ev_lconst_0 dX6_about_10 ?_
    refine ev_ldc2_w dX6_about_11 cn_X6_147 ?_
    refine ev_invS dX6_about_14 ml_X6_56 mt_X6_in (c_X6_in d (v := w) (lo := 0) (hi := 2) (by first | rfl | decide) (by first | rfl | decide) (by first | rfl | decide)) rfl rfl (rm_ok (by omega)) (Nat.le_of_ble_eq_true rfl) ?_
    refine Ev.pc 17 rfl ?_
    refine ev_if_ne 27 dX6_about_17 rfl (fun h17 => ?_) (fun h17 => ?_)
    · exact absurd ⟨b2i_n0.mp h5, b2i_n0.mp h17⟩ q7
    · refine ev_aload_0 dX6_about_20 ?_
      refine ev_bipush (-2) dX6_about_21 rfl ?_
      refine ev_invV (ci := 6) dX6_about_23 ml_X6_71 mt_X6_bad (c_X6_bad d) (by first | assumption | decide) (by decide) rfl rfl rfl (rm_ok (by omega)) (Nat.le_of_ble_eq_true rfl) ?_
      refine Ev.pc 26 rfl ?_
      exact ev_ireturn dX6_about_26 ⟨by rfl, by rfl⟩
theorem c_X6_about (d : Nat) {E : xE} {σ : xS} {P H h : Nat} {w : Int32} (hP : σ.1 74 0 = nI P) (hP7 : P ≤ 7) (hH : σ.1 74 1 = nI H) (hH4 : H ≤ 4) (hh : h < H) (hw : btw w 0 2) : Ct E (d + 2) yX6_about cX6_about 3 (some .int) [.ref (E.1 73), .int (nI h), .int w] σ (some (.int (if w = 0 then σ.1 74 (40 + h) else if w = 1 then σ.1 74 (44 + h) else allM (σ.1 74) P (10 + nI h)))) σ := by
  have e2 : hasIn (σ.1 74 1) (nI h) := by rw [hH]; exact hasIn_of (by omega) hh
  refine Ct.of (by decide +kernel) (Nat.le_of_ble_eq_true rfl) ⟨_, rfl, rfl⟩ ?_
  show Ev E _ RX6 cX6_about 3 _ 0 [some (.ref (E.1 73)), some (.int (nI h)), some (.int w)] [] _
  refine ev_aload_0 dX6_about_0 ?_
  refine ev_iload_1 dX6_about_1 ?_
  refine ev_invV (ci := 6) dX6_about_2 ml_X6_134 mt_X6_isHearer (c_X6_isHearer d) (by first | assumption | decide) (by decide) rfl rfl rfl (rm_ok (by omega)) (Nat.le_of_ble_eq_true rfl) ?_
  refine Ev.pc 5 rfl ?_
  refine ev_if_eq 20 dX6_about_5 rfl (fun h5 => ?_) (fun h5 => ?_)
  · exact absurd e2 (b2i_0.mp h5)
  · refine ev_iload_2 dX6_about_8 ?_
    refine ev_i2l dX6_about_9 ?_
    refine ev_lconst_0 dX6_about_10 ?_
    refine ev_ldc2_w dX6_about_11 cn_X6_147 ?_
    refine ev_invS dX6_about_14 ml_X6_56 mt_X6_in (c_X6_in d (v := w) (lo := 0) (hi := 2) (by first | rfl | decide) (by first | rfl | decide) (by first | rfl | decide)) rfl rfl (rm_ok (by omega)) (Nat.le_of_ble_eq_true rfl) ?_
    refine Ev.pc 17 rfl ?_
    refine ev_if_ne 27 dX6_about_17 rfl (fun h17 => ?_) (fun h17 => ?_)
    · refine ev_iload_2 dX6_about_27 ?_
      refine ev_if_ne 43 dX6_about_28 rfl (fun h28 => ?_) (fun h28 => ?_)
      · refine ev_iload_2 dX6_about_43 ?_
        refine ev_iconst_1 dX6_about_44 ?_
        refine ev_icmp_ne 60 dX6_about_45 rfl (fun h45 => ?_) (fun h45 => ?_)
        · refine ev_aload_0 dX6_about_60 ?_
          refine ev_bipush (10) dX6_about_61 rfl ?_
          refine ev_iload_1 dX6_about_63 ?_
          refine ev_iadd dX6_about_64 ?_
          refine ev_invV (ci := 6) dX6_about_65 ml_X6_149 mt_X6_allIn (c_X6_allIn d hP hP7) (by first | assumption | decide) (by decide) rfl rfl rfl (rm_ok (by omega)) (Nat.le_of_ble_eq_true rfl) ?_
          refine Ev.pc 68 rfl ?_
          exact ev_ireturn dX6_about_68 ⟨by (simp [*]), by rfl⟩
        · refine ev_aload_0 dX6_about_48 ?_
          refine ev_get dX6_about_49 fk_X6_7 (by first | assumption | decide) (by decide) rfl ?_
          refine ev_bipush (44) dX6_about_52 rfl ?_
          refine ev_iload_1 dX6_about_54 ?_
          refine ev_iadd dX6_about_55 ?_
          refine Ev.pc 56 rfl ?_
          refine ev_aldA (n := 44) dX6_about_56 (by first | assumption | decide) (by have := xls; omega) ?_
          refine ev_goto 68 dX6_about_57 rfl ?_
          exact ev_ireturn dX6_about_68 ⟨by (simp [*]), by rfl⟩
      · refine ev_aload_0 dX6_about_31 ?_
        refine ev_get dX6_about_32 fk_X6_7 (by first | assumption | decide) (by decide) rfl ?_
        refine ev_bipush (40) dX6_about_35 rfl ?_
        refine ev_iload_1 dX6_about_37 ?_
        refine ev_iadd dX6_about_38 ?_
        refine Ev.pc 39 rfl ?_
        refine ev_aldA (n := 40) dX6_about_39 (by first | assumption | decide) (by have := xls; omega) ?_
        refine ev_goto 68 dX6_about_40 rfl ?_
        exact ev_ireturn dX6_about_68 ⟨by (simp [*]), by rfl⟩
    · exact absurd hw (b2i_0.mp h17)
theorem c_X6_purse_bad (d : Nat) {E : xE} {σ : xS} {p w : Int32} (q7 : ¬ (hasIn (σ.1 74 2) p ∧ btw w 0 1)) : Ct E (d + 2) yX6_purse cX6_purse 3 (some .int) [.ref (E.1 73), .int p, .int w] σ (some (.int (-2))) (mBad σ) := by
  refine Ct.of (by decide +kernel) (Nat.le_of_ble_eq_true rfl) ⟨_, rfl, rfl⟩ ?_
  show Ev E _ RX6 cX6_purse 3 _ 0 [some (.ref (E.1 73)), some (.int p), some (.int w)] [] _
  refine ev_aload_0 dX6_purse_0 ?_
  refine ev_iload_1 dX6_purse_1 ?_
  refine ev_invV (ci := 6) dX6_purse_2 ml_X6_118 mt_X6_isBuyer (c_X6_isBuyer d) (by first | assumption | decide) (by decide) rfl rfl rfl (rm_ok (by omega)) (Nat.le_of_ble_eq_true rfl) ?_
  refine Ev.pc 5 rfl ?_
  refine ev_if_eq 18 dX6_purse_5 rfl (fun h5 => ?_) (fun h5 => ?_)
  · refine ev_aload_0 dX6_purse_18 ?_
    refine ev_bipush (-2) dX6_purse_19 rfl ?_
    refine ev_invV (ci := 6) dX6_purse_21 ml_X6_71 mt_X6_bad (c_X6_bad d) (by first | assumption | decide) (by decide) rfl rfl rfl (rm_ok (by omega)) (Nat.le_of_ble_eq_true rfl) ?_
    refine Ev.pc 24 rfl ?_
    exact ev_ireturn dX6_purse_24 ⟨by rfl, by rfl⟩
  · refine ev_iload_2 dX6_purse_8 ?_
    refine ev_i2l dX6_purse_9 ?_
    refine ev_lconst_0 dX6_purse_10 ?_
    refine ev_lconst_1 dX6_purse_11 ?_
    refine ev_invS dX6_purse_12 ml_X6_56 mt_X6_in (c_X6_in d (v := w) (lo := 0) (hi := 1) (by first | rfl | decide) (by first | rfl | decide) (by first | rfl | decide)) rfl rfl (rm_ok (by omega)) (Nat.le_of_ble_eq_true rfl) ?_
    refine Ev.pc 15 rfl ?_
    refine ev_if_ne 25 dX6_purse_15 rfl (fun h15 => ?_) (fun h15 => ?_)
    · exact absurd ⟨b2i_n0.mp h5, b2i_n0.mp h15⟩ q7
    · refine ev_aload_0 dX6_purse_18 ?_
      refine ev_bipush (-2) dX6_purse_19 rfl ?_
      refine ev_invV (ci := 6) dX6_purse_21 ml_X6_71 mt_X6_bad (c_X6_bad d) (by first | assumption | decide) (by decide) rfl rfl rfl (rm_ok (by omega)) (Nat.le_of_ble_eq_true rfl) ?_
      refine Ev.pc 24 rfl ?_
      exact ev_ireturn dX6_purse_24 ⟨by rfl, by rfl⟩
theorem c_X6_purse (d : Nat) {E : xE} {σ : xS} {P B b : Nat} {w : Int32} (hP : σ.1 74 0 = nI P) (hP7 : P ≤ 7) (hB : σ.1 74 2 = nI B) (hB3 : B ≤ 3) (hb : b < B) (hw : btw w 0 1) : Ct E (d + 2) yX6_purse cX6_purse 3 (some .int) [.ref (E.1 73), .int (nI b), .int w] σ (some (.int (if w = 0 then σ.1 74 (21 + b) else allM (σ.1 74) P (1 + nI b)))) σ := by
  have e2 : hasIn (σ.1 74 2) (nI b) := by rw [hB]; exact hasIn_of (by omega) hb
  refine Ct.of (by decide +kernel) (Nat.le_of_ble_eq_true rfl) ⟨_, rfl, rfl⟩ ?_
  show Ev E _ RX6 cX6_purse 3 _ 0 [some (.ref (E.1 73)), some (.int (nI b)), some (.int w)] [] _
  refine ev_aload_0 dX6_purse_0 ?_
  refine ev_iload_1 dX6_purse_1 ?_
  refine ev_invV (ci := 6) dX6_purse_2 ml_X6_118 mt_X6_isBuyer (c_X6_isBuyer d) (by first | assumption | decide) (by decide) rfl rfl rfl (rm_ok (by omega)) (Nat.le_of_ble_eq_true rfl) ?_
  refine Ev.pc 5 rfl ?_
  refine ev_if_eq 18 dX6_purse_5 rfl (fun h5 => ?_) (fun h5 => ?_)
  · exact absurd e2 (b2i_0.mp h5)
  · refine ev_iload_2 dX6_purse_8 ?_
    refine ev_i2l dX6_purse_9 ?_
    refine ev_lconst_0 dX6_purse_10 ?_
    refine ev_lconst_1 dX6_purse_11 ?_
    refine ev_invS dX6_purse_12 ml_X6_56 mt_X6_in (c_X6_in d (v := w) (lo := 0) (hi := 1) (by first | rfl | decide) (by first | rfl | decide) (by first | rfl | decide)) rfl rfl (rm_ok (by omega)) (Nat.le_of_ble_eq_true rfl) ?_
    refine Ev.pc 15 rfl ?_
    refine ev_if_ne 25 dX6_purse_15 rfl (fun h15 => ?_) (fun h15 => ?_)
    · refine ev_iload_2 dX6_purse_25 ?_
      refine ev_if_ne 41 dX6_purse_26 rfl (fun h26 => ?_) (fun h26 => ?_)
      · refine ev_aload_0 dX6_purse_41 ?_
        refine ev_iconst_1 dX6_purse_42 ?_
        refine ev_iload_1 dX6_purse_43 ?_
        refine ev_iadd dX6_purse_44 ?_
        refine ev_invV (ci := 6) dX6_purse_45 ml_X6_149 mt_X6_allIn (c_X6_allIn d hP hP7) (by first | assumption | decide) (by decide) rfl rfl rfl (rm_ok (by omega)) (Nat.le_of_ble_eq_true rfl) ?_
        refine Ev.pc 48 rfl ?_
        exact ev_ireturn dX6_purse_48 ⟨by (simp [*]), by rfl⟩
      · refine ev_aload_0 dX6_purse_29 ?_
        refine ev_get dX6_purse_30 fk_X6_7 (by first | assumption | decide) (by decide) rfl ?_
        refine ev_bipush (21) dX6_purse_33 rfl ?_
        refine ev_iload_1 dX6_purse_35 ?_
        refine ev_iadd dX6_purse_36 ?_
        refine Ev.pc 37 rfl ?_
        refine ev_aldA (n := 21) dX6_purse_37 (by first | assumption | decide) (by have := xls; omega) ?_
        refine ev_goto 48 dX6_purse_38 rfl ?_
        exact ev_ireturn dX6_purse_48 ⟨by (simp [*]), by rfl⟩
    · exact absurd hw (b2i_0.mp h15)
def gbF (f : Nat → Int32) (p : Nat) (m : Int32) : Int32 := goodM (f (26 + p)) (f (33 + p)) (if f (7 + p) = 0 then f (14 + p) + m else f (14 + p))
theorem c_X6_goodBehind (d : Nat) {E : xE} {σ : xS} {p : Nat} {m : Int32} (hp : p < 7) : Ct E (d + 1) yX6_goodBehind cX6_goodBehind 3 (some .int) [.ref (E.1 73), .int (nI p), .int m] σ (some (.int (gbF (σ.1 74) p m))) σ := by
  refine Ct.of (by decide +kernel) (Nat.le_of_ble_eq_true rfl) ⟨_, rfl, rfl⟩ ?_
  show Ev E _ RX6 cX6_goodBehind 3 _ 0 [some (.ref (E.1 73)), some (.int (nI p)), some (.int m)] [] _
  refine ev_aload_0 dX6_goodBehind_0 ?_
  refine ev_get dX6_goodBehind_1 fk_X6_7 (by first | assumption | decide) (by decide) rfl ?_
  refine ev_bipush (26) dX6_goodBehind_4 rfl ?_
  refine ev_iload_1 dX6_goodBehind_6 ?_
  refine ev_iadd dX6_goodBehind_7 ?_
  refine Ev.pc 8 rfl ?_
  refine ev_aldA (n := 26) dX6_goodBehind_8 (by first | assumption | decide) (by have := xls; omega) ?_
  refine ev_aload_0 dX6_goodBehind_9 ?_
  refine ev_get dX6_goodBehind_10 fk_X6_7 (by first | assumption | decide) (by decide) rfl ?_
  refine ev_bipush (33) dX6_goodBehind_13 rfl ?_
  refine ev_iload_1 dX6_goodBehind_15 ?_
  refine Ev.pc 16 rfl ?_
  refine ev_iadd dX6_goodBehind_16 ?_
  refine ev_aldA (n := 33) dX6_goodBehind_17 (by first | assumption | decide) (by have := xls; omega) ?_
  refine ev_aload_0 dX6_goodBehind_18 ?_
  refine ev_get dX6_goodBehind_19 fk_X6_7 (by first | assumption | decide) (by decide) rfl ?_
  refine ev_iload_1 dX6_goodBehind_22 ?_
  refine Ev.pc 23 rfl ?_
  refine ev_invS dX6_goodBehind_23 ml_X6_95 mt_X6_isShown (c_X6_isShown d (by first | assumption | decide) (by have := xls; omega) (by omega)) rfl rfl (rm_ok (by omega)) (Nat.le_of_ble_eq_true rfl) ?_
  refine Ev.pc 26 rfl ?_
  refine ev_if_eq 43 dX6_goodBehind_26 rfl (fun h26 => ?_) (fun h26 => ?_)
  · refine ev_aload_0 dX6_goodBehind_43 ?_
    refine ev_get dX6_goodBehind_44 fk_X6_7 (by first | assumption | decide) (by decide) rfl ?_
    refine ev_bipush (14) dX6_goodBehind_47 rfl ?_
    refine ev_iload_1 dX6_goodBehind_49 ?_
    refine ev_iadd dX6_goodBehind_50 ?_
    refine Ev.pc 51 rfl ?_
    refine ev_aldA (n := 14) dX6_goodBehind_51 (by first | assumption | decide) (by have := xls; omega) ?_
    refine ev_invS dX6_goodBehind_52 ml_X6_84 mt_X6_goodAs (c_X6_goodAs d) rfl rfl (rm_ok (by omega)) (Nat.le_of_ble_eq_true rfl) ?_
    refine Ev.pc 55 rfl ?_
    exact ev_ireturn dX6_goodBehind_55 ⟨by (first | rw [gbF, if_pos (b2i_n0.mp h26)] | rw [gbF, if_neg (b2i_0.mp h26)]), by rfl⟩
  · refine ev_aload_0 dX6_goodBehind_29 ?_
    refine ev_get dX6_goodBehind_30 fk_X6_7 (by first | assumption | decide) (by decide) rfl ?_
    refine ev_bipush (14) dX6_goodBehind_33 rfl ?_
    refine ev_iload_1 dX6_goodBehind_35 ?_
    refine ev_iadd dX6_goodBehind_36 ?_
    refine Ev.pc 37 rfl ?_
    refine ev_aldA (n := 14) dX6_goodBehind_37 (by first | assumption | decide) (by have := xls; omega) ?_
    refine ev_iload_2 dX6_goodBehind_38 ?_
    refine ev_iadd dX6_goodBehind_39 ?_
    refine ev_goto 52 dX6_goodBehind_40 rfl ?_
    refine ev_invS dX6_goodBehind_52 ml_X6_84 mt_X6_goodAs (c_X6_goodAs d) rfl rfl (rm_ok (by omega)) (Nat.le_of_ble_eq_true rfl) ?_
    refine Ev.pc 55 rfl ?_
    exact ev_ireturn dX6_goodBehind_55 ⟨by (first | rw [gbF, if_pos (b2i_n0.mp h26)] | rw [gbF, if_neg (b2i_0.mp h26)]), by rfl⟩
theorem c_X6_good_bad (d : Nat) {E : xE} {σ : xS} {p w : Int32} (q7 : ¬ (hasIn (σ.1 74 0) p ∧ btw w 0 60)) : Ct E (d + 2) yX6_good cX6_good 3 (some .int) [.ref (E.1 73), .int p, .int w] σ (some (.int (-2))) (mBad σ) := by
  refine Ct.of (by decide +kernel) (Nat.le_of_ble_eq_true rfl) ⟨_, rfl, rfl⟩ ?_
  show Ev E _ RX6 cX6_good 3 _ 0 [some (.ref (E.1 73)), some (.int p), some (.int w)] [] _
  refine ev_aload_0 dX6_good_0 ?_
  refine ev_iload_1 dX6_good_1 ?_
  refine ev_invV (ci := 6) dX6_good_2 ml_X6_121 mt_X6_isPromise (c_X6_isPromise d) (by first | assumption | decide) (by decide) rfl rfl rfl (rm_ok (by omega)) (Nat.le_of_ble_eq_true rfl) ?_
  refine Ev.pc 5 rfl ?_
  refine ev_if_eq 29 dX6_good_5 rfl (fun h5 => ?_) (fun h5 => ?_)
  · refine ev_aload_0 dX6_good_29 ?_
    refine ev_bipush (-2) dX6_good_30 rfl ?_
    refine ev_invV (ci := 6) dX6_good_32 ml_X6_71 mt_X6_bad (c_X6_bad d) (by first | assumption | decide) (by decide) rfl rfl rfl (rm_ok (by omega)) (Nat.le_of_ble_eq_true rfl) ?_
    refine Ev.pc 35 rfl ?_
    exact ev_ireturn dX6_good_35 ⟨by rfl, by rfl⟩
  · refine ev_iload_2 dX6_good_8 ?_
    refine ev_i2l dX6_good_9 ?_
    refine ev_lconst_0 dX6_good_10 ?_
    refine ev_ldc2_w dX6_good_11 cn_X6_152 ?_
    refine ev_invS dX6_good_14 ml_X6_56 mt_X6_in (c_X6_in d (v := w) (lo := 0) (hi := 60) (by first | rfl | decide) (by first | rfl | decide) (by first | rfl | decide)) rfl rfl (rm_ok (by omega)) (Nat.le_of_ble_eq_true rfl) ?_
    refine Ev.pc 17 rfl ?_
    refine ev_if_eq 29 dX6_good_17 rfl (fun h17 => ?_) (fun h17 => ?_)
    · refine ev_aload_0 dX6_good_29 ?_
      refine ev_bipush (-2) dX6_good_30 rfl ?_
      refine ev_invV (ci := 6) dX6_good_32 ml_X6_71 mt_X6_bad (c_X6_bad d) (by first | assumption | decide) (by decide) rfl rfl rfl (rm_ok (by omega)) (Nat.le_of_ble_eq_true rfl) ?_
      refine Ev.pc 35 rfl ?_
      exact ev_ireturn dX6_good_35 ⟨by rfl, by rfl⟩
    · exact absurd ⟨b2i_n0.mp h5, b2i_n0.mp h17⟩ q7
theorem c_X6_good (d : Nat) {E : xE} {σ : xS} {P p : Nat} {w : Int32} (hP : σ.1 74 0 = nI P) (hP7 : P ≤ 7) (hp : p < P) (hw : btw w 0 60) : Ct E (d + 2) yX6_good cX6_good 3 (some .int) [.ref (E.1 73), .int (nI p), .int w] σ (some (.int (gbF (σ.1 74) p w))) σ := by
  have e2 : hasIn (σ.1 74 0) (nI p) := by rw [hP]; exact hasIn_of (by omega) hp
  refine Ct.of (by decide +kernel) (Nat.le_of_ble_eq_true rfl) ⟨_, rfl, rfl⟩ ?_
  show Ev E _ RX6 cX6_good 3 _ 0 [some (.ref (E.1 73)), some (.int (nI p)), some (.int w)] [] _
  refine ev_aload_0 dX6_good_0 ?_
  refine ev_iload_1 dX6_good_1 ?_
  refine ev_invV (ci := 6) dX6_good_2 ml_X6_121 mt_X6_isPromise (c_X6_isPromise d) (by first | assumption | decide) (by decide) rfl rfl rfl (rm_ok (by omega)) (Nat.le_of_ble_eq_true rfl) ?_
  refine Ev.pc 5 rfl ?_
  refine ev_if_eq 29 dX6_good_5 rfl (fun h5 => ?_) (fun h5 => ?_)
  · exact absurd e2 (b2i_0.mp h5)
  · refine ev_iload_2 dX6_good_8 ?_
    refine ev_i2l dX6_good_9 ?_
    refine ev_lconst_0 dX6_good_10 ?_
    refine ev_ldc2_w dX6_good_11 cn_X6_152 ?_
    refine ev_invS dX6_good_14 ml_X6_56 mt_X6_in (c_X6_in d (v := w) (lo := 0) (hi := 60) (by first | rfl | decide) (by first | rfl | decide) (by first | rfl | decide)) rfl rfl (rm_ok (by omega)) (Nat.le_of_ble_eq_true rfl) ?_
    refine Ev.pc 17 rfl ?_
    refine ev_if_eq 29 dX6_good_17 rfl (fun h17 => ?_) (fun h17 => ?_)
    · exact absurd hw (b2i_0.mp h17)
    · refine ev_aload_0 dX6_good_20 ?_
      refine ev_iload_1 dX6_good_21 ?_
      refine ev_iload_2 dX6_good_22 ?_
      refine ev_invV (ci := 6) dX6_good_23 ml_X6_154 mt_X6_goodBehind (c_X6_goodBehind d (by omega)) (by first | assumption | decide) (by decide) rfl rfl rfl (rm_ok (by omega)) (Nat.le_of_ble_eq_true rfl) ?_
      refine Ev.pc 26 rfl ?_
      refine ev_goto 35 dX6_good_26 rfl ?_
      exact ev_ireturn dX6_good_35 ⟨by rfl, by rfl⟩
theorem c_X6_joy_bad (d : Nat) {E : xE} {σ : xS} {p w : Int32} (q7 : ¬ (hasIn (σ.1 74 0) p ∧ hasIn (σ.1 74 1) w)) : Ct E (d + 3) yX6_joy cX6_joy 3 (some .int) [.ref (E.1 73), .int p, .int w] σ (some (.int (-2))) (mBad σ) := by
  refine Ct.of (by decide +kernel) (Nat.le_of_ble_eq_true rfl) ⟨_, rfl, rfl⟩ ?_
  show Ev E _ RX6 cX6_joy 3 _ 0 [some (.ref (E.1 73)), some (.int p), some (.int w)] [] _
  refine ev_aload_0 dX6_joy_0 ?_
  refine ev_iload_1 dX6_joy_1 ?_
  refine ev_invV (ci := 6) dX6_joy_2 ml_X6_121 mt_X6_isPromise (c_X6_isPromise d) (by first | assumption | decide) (by decide) rfl rfl rfl (rm_ok (by omega)) (Nat.le_of_ble_eq_true rfl) ?_
  refine Ev.pc 5 rfl ?_
  refine ev_if_eq 28 dX6_joy_5 rfl (fun h5 => ?_) (fun h5 => ?_)
  · refine ev_aload_0 dX6_joy_28 ?_
    refine ev_bipush (-2) dX6_joy_29 rfl ?_
    refine ev_invV (ci := 6) dX6_joy_31 ml_X6_71 mt_X6_bad (c_X6_bad d) (by first | assumption | decide) (by decide) rfl rfl rfl (rm_ok (by omega)) (Nat.le_of_ble_eq_true rfl) ?_
    refine Ev.pc 34 rfl ?_
    exact ev_ireturn dX6_joy_34 ⟨by rfl, by rfl⟩
  · refine ev_aload_0 dX6_joy_8 ?_
    refine ev_iload_2 dX6_joy_9 ?_
    refine ev_invV (ci := 6) dX6_joy_10 ml_X6_134 mt_X6_isHearer (c_X6_isHearer d) (by first | assumption | decide) (by decide) rfl rfl rfl (rm_ok (by omega)) (Nat.le_of_ble_eq_true rfl) ?_
    refine Ev.pc 13 rfl ?_
    refine ev_if_eq 28 dX6_joy_13 rfl (fun h13 => ?_) (fun h13 => ?_)
    · refine ev_aload_0 dX6_joy_28 ?_
      refine ev_bipush (-2) dX6_joy_29 rfl ?_
      refine ev_invV (ci := 6) dX6_joy_31 ml_X6_71 mt_X6_bad (c_X6_bad d) (by first | assumption | decide) (by decide) rfl rfl rfl (rm_ok (by omega)) (Nat.le_of_ble_eq_true rfl) ?_
      refine Ev.pc 34 rfl ?_
      exact ev_ireturn dX6_joy_34 ⟨by rfl, by rfl⟩
    · exact absurd ⟨b2i_n0.mp h5, b2i_n0.mp h13⟩ q7
theorem c_X6_joy (d : Nat) {E : xE} {σ : xS} {P H p h : Nat} (hP : σ.1 74 0 = nI P) (hP7 : P ≤ 7) (hH : σ.1 74 1 = nI H) (hH4 : H ≤ 4) (hp : p < P) (hh : h < H) : Ct E (d + 3) yX6_joy cX6_joy 3 (some .int) [.ref (E.1 73), .int (nI p), .int (nI h)] σ (some (.int (joyF (σ.1 74) p h))) σ := by
  have e1 : hasIn (σ.1 74 0) (nI p) := by rw [hP]; exact hasIn_of (by omega) hp
  have e2 : hasIn (σ.1 74 1) (nI h) := by rw [hH]; exact hasIn_of (by omega) hh
  refine Ct.of (by decide +kernel) (Nat.le_of_ble_eq_true rfl) ⟨_, rfl, rfl⟩ ?_
  show Ev E _ RX6 cX6_joy 3 _ 0 [some (.ref (E.1 73)), some (.int (nI p)), some (.int (nI h))] [] _
  refine ev_aload_0 dX6_joy_0 ?_
  refine ev_iload_1 dX6_joy_1 ?_
  refine ev_invV (ci := 6) dX6_joy_2 ml_X6_121 mt_X6_isPromise (c_X6_isPromise d) (by first | assumption | decide) (by decide) rfl rfl rfl (rm_ok (by omega)) (Nat.le_of_ble_eq_true rfl) ?_
  refine Ev.pc 5 rfl ?_
  refine ev_if_eq 28 dX6_joy_5 rfl (fun h5 => ?_) (fun h5 => ?_)
  · exact absurd e1 (b2i_0.mp h5)
  · refine ev_aload_0 dX6_joy_8 ?_
    refine ev_iload_2 dX6_joy_9 ?_
    refine ev_invV (ci := 6) dX6_joy_10 ml_X6_134 mt_X6_isHearer (c_X6_isHearer d) (by first | assumption | decide) (by decide) rfl rfl rfl (rm_ok (by omega)) (Nat.le_of_ble_eq_true rfl) ?_
    refine Ev.pc 13 rfl ?_
    refine ev_if_eq 28 dX6_joy_13 rfl (fun h13 => ?_) (fun h13 => ?_)
    · exact absurd e2 (b2i_0.mp h13)
    · refine ev_aload_0 dX6_joy_16 ?_
      refine ev_get dX6_joy_17 fk_X6_7 (by first | assumption | decide) (by decide) rfl ?_
      refine ev_iload_1 dX6_joy_20 ?_
      refine ev_iload_2 dX6_joy_21 ?_
      refine ev_invS dX6_joy_22 ml_X6_114 mt_X6_joyOf (c_X6_joyOf d (by first | assumption | decide) (by have := xls; omega) (by omega) (by omega)) rfl rfl (rm_ok (by omega)) (Nat.le_of_ble_eq_true rfl) ?_
      refine Ev.pc 25 rfl ?_
      refine ev_goto 34 dX6_joy_25 rfl ?_
      exact ev_ireturn dX6_joy_34 ⟨by rfl, by rfl⟩
def whenF (f : Nat → Int32) (p : Nat) (x : Int32) : Nat → Nat → Int32
  | 0, _ => -1
  | n + 1, m => if x ≤ gbF f p (nI m) then nI m else whenF f p x n (m + 1)
theorem c_X6_when_bad (d : Nat) {E : xE} {σ : xS} {p w : Int32} (q7 : ¬ (hasIn (σ.1 74 0) p ∧ btw w 1 30)) : Ct E (d + 2) yX6_when cX6_when 4 (some .int) [.ref (E.1 73), .int p, .int w] σ (some (.int (-2))) (mBad σ) := by
  refine Ct.of (by decide +kernel) (Nat.le_of_ble_eq_true rfl) ⟨_, rfl, rfl⟩ ?_
  show Ev E _ RX6 cX6_when 4 _ 0 [some (.ref (E.1 73)), some (.int p), some (.int w), none] [] _
  refine ev_aload_0 dX6_when_0 ?_
  refine ev_iload_1 dX6_when_1 ?_
  refine ev_invV (ci := 6) dX6_when_2 ml_X6_121 mt_X6_isPromise (c_X6_isPromise d) (by first | assumption | decide) (by decide) rfl rfl rfl (rm_ok (by omega)) (Nat.le_of_ble_eq_true rfl) ?_
  refine Ev.pc 5 rfl ?_
  refine ev_if_eq 20 dX6_when_5 rfl (fun h5 => ?_) (fun h5 => ?_)
  · refine ev_aload_0 dX6_when_20 ?_
    refine ev_bipush (-2) dX6_when_21 rfl ?_
    refine ev_invV (ci := 6) dX6_when_23 ml_X6_71 mt_X6_bad (c_X6_bad d) (by first | assumption | decide) (by decide) rfl rfl rfl (rm_ok (by omega)) (Nat.le_of_ble_eq_true rfl) ?_
    refine Ev.pc 26 rfl ?_
    exact ev_ireturn dX6_when_26 ⟨by rfl, by rfl⟩
  · refine ev_iload_2 dX6_when_8 ?_
    refine ev_i2l dX6_when_9 ?_
    refine ev_lconst_1 dX6_when_10 ?_
    refine ev_ldc2_w dX6_when_11 cn_X6_157 ?_
    refine ev_invS dX6_when_14 ml_X6_56 mt_X6_in (c_X6_in d (v := w) (lo := 1) (hi := 30) (by first | rfl | decide) (by first | rfl | decide) (by first | rfl | decide)) rfl rfl (rm_ok (by omega)) (Nat.le_of_ble_eq_true rfl) ?_
    refine Ev.pc 17 rfl ?_
    refine ev_if_ne 27 dX6_when_17 rfl (fun h17 => ?_) (fun h17 => ?_)
    · exact absurd ⟨b2i_n0.mp h5, b2i_n0.mp h17⟩ q7
    · refine ev_aload_0 dX6_when_20 ?_
      refine ev_bipush (-2) dX6_when_21 rfl ?_
      refine ev_invV (ci := 6) dX6_when_23 ml_X6_71 mt_X6_bad (c_X6_bad d) (by first | assumption | decide) (by decide) rfl rfl rfl (rm_ok (by omega)) (Nat.le_of_ble_eq_true rfl) ?_
      refine Ev.pc 26 rfl ?_
      exact ev_ireturn dX6_when_26 ⟨by rfl, by rfl⟩
theorem c_X6_when (d : Nat) {E : xE} {σ : xS} {P p : Nat} {w : Int32} (hP : σ.1 74 0 = nI P) (hP7 : P ≤ 7) (hp : p < P) (hw : btw w 1 30) : Ct E (d + 2) yX6_when cX6_when 4 (some .int) [.ref (E.1 73), .int (nI p), .int w] σ (some (.int (whenF (σ.1 74) p w 61 0))) σ := by
  have e2 : hasIn (σ.1 74 0) (nI p) := by rw [hP]; exact hasIn_of (by omega) hp
  have loop : ∀ (n k : Nat), k + n = 61 → Ev E (rm (d + 2)) RX6 cX6_when 4 (fun v t => v = some (.int (whenF (σ.1 74) p w n k)) ∧ t = σ) 29 [some (.ref (E.1 73)), some (.int (nI p)), some (.int w), some (.int (nI k))] [] σ := by
    intro n
    induction n with
    | zero =>
      intro k hk
      refine ev_iload_3 dX6_when_29 ?_
      refine ev_bipush (60) dX6_when_30 rfl ?_
      refine ev_icmp_gt 53 dX6_when_32 rfl (fun h32 => ?_) (fun h32 => ?_)
      · refine ev_iconst_m1 dX6_when_53 ?_
        exact ev_ireturn dX6_when_54 ⟨by rfl, by rfl⟩
      · exact absurd (show nI k ≤ nI 60 from Int32.not_lt.mp h32) (nI_ge (by omega) (by omega))
    | succ n ih =>
      intro k hk
      by_cases q7 : w ≤ gbF (σ.1 74) p (nI k)
      · rw [whenF, if_pos q7]
        refine ev_iload_3 dX6_when_29 ?_
        refine ev_bipush (60) dX6_when_30 rfl ?_
        refine ev_icmp_gt 53 dX6_when_32 rfl (fun h32 => ?_) (fun h32 => ?_)
        · exact absurd h32 (show ¬ nI 60 < nI k from nI_nlt (by omega) (by omega))
        · refine ev_aload_0 dX6_when_35 ?_
          refine ev_iload_1 dX6_when_36 ?_
          refine ev_iload_3 dX6_when_37 ?_
          refine ev_invV (ci := 6) dX6_when_38 ml_X6_154 mt_X6_goodBehind (c_X6_goodBehind d (by omega)) (by first | assumption | decide) (by decide) rfl rfl rfl (rm_ok (by omega)) (Nat.le_of_ble_eq_true rfl) ?_
          refine Ev.pc 41 rfl ?_
          refine ev_iload_2 dX6_when_41 ?_
          refine Ev.pc 42 rfl ?_
          refine ev_icmp_lt 47 dX6_when_42 rfl (fun h42 => ?_) (fun h42 => ?_)
          · exact absurd q7 (i_nle.mpr h42)
          · refine ev_iload_3 dX6_when_45 ?_
            exact ev_ireturn dX6_when_46 ⟨by rfl, by rfl⟩
      · rw [whenF, if_neg q7]
        refine ev_iload_3 dX6_when_29 ?_
        refine ev_bipush (60) dX6_when_30 rfl ?_
        refine ev_icmp_gt 53 dX6_when_32 rfl (fun h32 => ?_) (fun h32 => ?_)
        · exact absurd h32 (show ¬ nI 60 < nI k from nI_nlt (by omega) (by omega))
        · refine ev_aload_0 dX6_when_35 ?_
          refine ev_iload_1 dX6_when_36 ?_
          refine ev_iload_3 dX6_when_37 ?_
          refine ev_invV (ci := 6) dX6_when_38 ml_X6_154 mt_X6_goodBehind (c_X6_goodBehind d (by omega)) (by first | assumption | decide) (by decide) rfl rfl rfl (rm_ok (by omega)) (Nat.le_of_ble_eq_true rfl) ?_
          refine Ev.pc 41 rfl ?_
          refine ev_iload_2 dX6_when_41 ?_
          refine Ev.pc 42 rfl ?_
          refine ev_icmp_lt 47 dX6_when_42 rfl (fun h42 => ?_) (fun h42 => ?_)
          · refine ev_iinc_3 (1) dX6_when_47 rfl rfl ?_
            refine ev_goto 29 dX6_when_50 rfl ?_
            rw [nI_1]
            exact ih (k + 1) (by omega)
          · exact absurd (i_nlt.mp h42) q7
  refine Ct.of (by decide +kernel) (Nat.le_of_ble_eq_true rfl) ⟨_, rfl, rfl⟩ ?_
  show Ev E _ RX6 cX6_when 4 _ 0 [some (.ref (E.1 73)), some (.int (nI p)), some (.int w), none] [] _
  refine ev_aload_0 dX6_when_0 ?_
  refine ev_iload_1 dX6_when_1 ?_
  refine ev_invV (ci := 6) dX6_when_2 ml_X6_121 mt_X6_isPromise (c_X6_isPromise d) (by first | assumption | decide) (by decide) rfl rfl rfl (rm_ok (by omega)) (Nat.le_of_ble_eq_true rfl) ?_
  refine Ev.pc 5 rfl ?_
  refine ev_if_eq 20 dX6_when_5 rfl (fun h5 => ?_) (fun h5 => ?_)
  · exact absurd e2 (b2i_0.mp h5)
  · refine ev_iload_2 dX6_when_8 ?_
    refine ev_i2l dX6_when_9 ?_
    refine ev_lconst_1 dX6_when_10 ?_
    refine ev_ldc2_w dX6_when_11 cn_X6_157 ?_
    refine ev_invS dX6_when_14 ml_X6_56 mt_X6_in (c_X6_in d (v := w) (lo := 1) (hi := 30) (by first | rfl | decide) (by first | rfl | decide) (by first | rfl | decide)) rfl rfl (rm_ok (by omega)) (Nat.le_of_ble_eq_true rfl) ?_
    refine Ev.pc 17 rfl ?_
    refine ev_if_ne 27 dX6_when_17 rfl (fun h17 => ?_) (fun h17 => ?_)
    · refine ev_iconst_0 dX6_when_27 ?_
      refine ev_istore_3 dX6_when_28 rfl ?_
      exact loop 61 0 (by omega)
    · exact absurd hw (b2i_0.mp h17)
def waitM (f : Nat → Int32) (P H : Nat) : Int32 := mkI (fun h => decide (allM f P (10 + nI h) = 0)) H
theorem c_X6_waiting (d : Nat) {E : xE} {σ : xS} {P H : Nat} (hP : σ.1 74 0 = nI P) (hP7 : P ≤ 7) (hH : σ.1 74 1 = nI H) (hH4 : H ≤ 4) : Ct E (d + 2) yX6_waiting cX6_waiting 3 (some .int) [.ref (E.1 73)] σ (some (.int (waitM (σ.1 74) P H))) σ := by
  have loop : ∀ (n k : Nat) (bits : Int32), k + n = H → bits = mkI (fun h => decide (allM (σ.1 74) P (10 + nI h) = 0)) k → Ev E (rm (d + 2)) RX6 cX6_waiting 3 (fun v t => v = some (.int (waitM (σ.1 74) P H)) ∧ t = σ) 4 [some (.ref (E.1 73)), some (.int bits), some (.int (nI k))] [] σ := by
    intro n
    induction n with
    | zero =>
      intro k bits hk hb
      refine ev_iload_2 dX6_waiting_4 ?_
      refine ev_aload_0 dX6_waiting_5 ?_
      refine ev_get dX6_waiting_6 fk_X6_7 (by first | assumption | decide) (by decide) rfl ?_
      refine ev_iconst_1 dX6_waiting_9 ?_
      refine ev_aldL (n := 1) dX6_waiting_10 (by first | assumption | decide) (by have := xls; omega) ?_
      refine Ev.pc 11 rfl ?_
      refine ev_icmp_ge 41 dX6_waiting_11 rfl (fun h11 => ?_) (fun h11 => ?_)
      · refine ev_iload_1 dX6_waiting_41 ?_
        exact ev_ireturn dX6_waiting_42 ⟨by (rw [hb, show k = H by omega]; rfl), by rfl⟩
      · exact absurd (show σ.1 74 1 ≤ nI k by rw [hH]; exact nI_le (by omega) (by omega)) h11
    | succ n ih =>
      intro k bits hk hb
      refine ev_iload_2 dX6_waiting_4 ?_
      refine ev_aload_0 dX6_waiting_5 ?_
      refine ev_get dX6_waiting_6 fk_X6_7 (by first | assumption | decide) (by decide) rfl ?_
      refine ev_iconst_1 dX6_waiting_9 ?_
      refine ev_aldL (n := 1) dX6_waiting_10 (by first | assumption | decide) (by have := xls; omega) ?_
      refine Ev.pc 11 rfl ?_
      refine ev_icmp_ge 41 dX6_waiting_11 rfl (fun h11 => ?_) (fun h11 => ?_)
      · exact absurd h11 (by rw [hH]; exact nI_ge (by omega) (by omega))
      · refine ev_iload_1 dX6_waiting_14 ?_
        refine ev_aload_0 dX6_waiting_15 ?_
        refine ev_bipush (10) dX6_waiting_16 rfl ?_
        refine ev_iload_2 dX6_waiting_18 ?_
        refine ev_iadd dX6_waiting_19 ?_
        refine Ev.pc 20 rfl ?_
        refine ev_invV (ci := 6) dX6_waiting_20 ml_X6_149 mt_X6_allIn (c_X6_allIn d hP hP7) (by first | assumption | decide) (by decide) rfl rfl rfl (rm_ok (by omega)) (Nat.le_of_ble_eq_true rfl) ?_
        refine Ev.pc 23 rfl ?_
        refine ev_if_ne 32 dX6_waiting_23 rfl (fun h23 => ?_) (fun h23 => ?_)
        · refine ev_iconst_0 dX6_waiting_32 ?_
          refine ev_ior dX6_waiting_33 ?_
          refine ev_istore_1 dX6_waiting_34 rfl ?_
          refine ev_iinc_2 (1) dX6_waiting_35 rfl rfl ?_
          refine ev_goto 4 dX6_waiting_38 rfl ?_
          rw [nI_1]
          exact ih (k + 1) _ (by omega) (by rw [mkI, hb]; simp [h23])
        · refine ev_iconst_1 dX6_waiting_26 ?_
          refine ev_iload_2 dX6_waiting_27 ?_
          refine ev_ishl dX6_waiting_28 ?_
          refine ev_goto 33 dX6_waiting_29 rfl ?_
          refine ev_ior dX6_waiting_33 ?_
          refine ev_istore_1 dX6_waiting_34 rfl ?_
          refine Ev.pc 35 rfl ?_
          refine ev_iinc_2 (1) dX6_waiting_35 rfl rfl ?_
          refine ev_goto 4 dX6_waiting_38 rfl ?_
          rw [nI_1]
          exact ih (k + 1) _ (by omega) (by rw [mkI, hb]; simp [h23])
  refine Ct.of (by decide +kernel) (Nat.le_of_ble_eq_true rfl) ⟨_, rfl, rfl⟩ ?_
  show Ev E _ RX6 cX6_waiting 3 _ 0 [some (.ref (E.1 73)), none, none] [] _
  refine ev_iconst_0 dX6_waiting_0 ?_
  refine ev_istore_1 dX6_waiting_1 rfl ?_
  refine ev_iconst_0 dX6_waiting_2 ?_
  refine ev_istore_2 dX6_waiting_3 rfl ?_
  exact loop H 0 0 (by omega) rfl
theorem c_X6_waits (d : Nat) {E : xE} {σ : xS} {P H : Nat} (hP : σ.1 74 0 = nI P) (hP7 : P ≤ 7) (hH : σ.1 74 1 = nI H) (hH4 : H ≤ 4) : Ct E (d + 3) yX6_waits cX6_waits 1 (some .int) [.ref (E.1 73)] σ (some (.int (waitM (σ.1 74) P H))) σ := by
  refine Ct.of (by decide +kernel) (Nat.le_of_ble_eq_true rfl) ⟨_, rfl, rfl⟩ ?_
  show Ev E _ RX6 cX6_waits 1 _ 0 [some (.ref (E.1 73))] [] _
  refine ev_aload_0 dX6_waits_0 ?_
  refine ev_invV (ci := 6) dX6_waits_1 ml_X6_159 mt_X6_waiting (c_X6_waiting d hP hP7 hH hH4) (by first | assumption | decide) (by decide) rfl rfl rfl (rm_ok (by omega)) (Nat.le_of_ble_eq_true rfl) ?_
  refine Ev.pc 4 rfl ?_
  exact ev_ireturn dX6_waits_4 ⟨by rfl, by rfl⟩
def mSeen (σ : xS) (S : Nat) (a x : Int32) : Int32 × xS :=
  if btw a 0 99 then (if btw x 0 30 then (if S = 5 then (-4, mFull σ) else (nI (S + 1), xrow σ 74 (upd (upd (upd (σ.1 74) (48 + 2 * S) a) (48 + 2 * S + 1) x) 3 (nI (S + 1))))) else (-2, mBad σ)) else (-2, mBad σ)
theorem c_X6_seen (d : Nat) {E : xE} {σ : xS} {S : Nat} {a x : Int32} (hH : σ.1 74 3 = nI S) (hH4 : S ≤ 5) : Ct E (d + 1) yX6_seen cX6_seen 3 (some .int) [.ref (E.1 73), .int a, .int x] σ (some (.int (mSeen σ S a x).1)) (mSeen σ S a x).2 := by
  by_cases q7 : S = 5
  ·
    refine Ct.of (by decide +kernel) (Nat.le_of_ble_eq_true rfl) ⟨_, rfl, rfl⟩ ?_
    show Ev E _ RX6 cX6_seen 3 _ 0 [some (.ref (E.1 73)), some (.int a), some (.int x)] [] _
    refine ev_iload_1 dX6_seen_0 ?_
    refine ev_i2l dX6_seen_1 ?_
    refine ev_lconst_0 dX6_seen_2 ?_
    refine ev_ldc2_w dX6_seen_3 cn_X6_102 ?_
    refine ev_invS dX6_seen_6 ml_X6_56 mt_X6_in (c_X6_in d (v := a) (lo := 0) (hi := 99) (by first | rfl | decide) (by first | rfl | decide) (by first | rfl | decide)) rfl rfl (rm_ok (by omega)) (Nat.le_of_ble_eq_true rfl) ?_
    refine Ev.pc 9 rfl ?_
    refine ev_if_eq 24 dX6_seen_9 rfl (fun h9 => ?_) (fun h9 => ?_)
    · refine ev_aload_0 dX6_seen_24 ?_
      refine ev_bipush (-2) dX6_seen_25 rfl ?_
      refine ev_invV (ci := 6) dX6_seen_27 ml_X6_71 mt_X6_bad (c_X6_bad d) (by first | assumption | decide) (by decide) rfl rfl rfl (rm_ok (by omega)) (Nat.le_of_ble_eq_true rfl) ?_
      refine Ev.pc 30 rfl ?_
      exact ev_ireturn dX6_seen_30 ⟨by ((try simp only [b2i_0, b2i_1, Decidable.not_not] at *); simp only [mSeen]; repeat' (first | with_reducible rfl | contradiction | (exfalso; simp_all; done) | split)), by ((try simp only [b2i_0, b2i_1, Decidable.not_not] at *); simp only [mSeen]; repeat' (first | with_reducible rfl | contradiction | (exfalso; simp_all; done) | split))⟩
    · refine ev_iload_2 dX6_seen_12 ?_
      refine ev_i2l dX6_seen_13 ?_
      refine ev_lconst_0 dX6_seen_14 ?_
      refine ev_ldc2_w dX6_seen_15 cn_X6_157 ?_
      refine ev_invS dX6_seen_18 ml_X6_56 mt_X6_in (c_X6_in d (v := x) (lo := 0) (hi := 30) (by first | rfl | decide) (by first | rfl | decide) (by first | rfl | decide)) rfl rfl (rm_ok (by omega)) (Nat.le_of_ble_eq_true rfl) ?_
      refine Ev.pc 21 rfl ?_
      refine ev_if_ne 31 dX6_seen_21 rfl (fun h21 => ?_) (fun h21 => ?_)
      · refine ev_aload_0 dX6_seen_31 ?_
        refine ev_get dX6_seen_32 fk_X6_7 (by first | assumption | decide) (by decide) rfl ?_
        refine ev_iconst_3 dX6_seen_35 ?_
        refine ev_aldL (n := 3) dX6_seen_36 (by first | assumption | decide) (by have := xls; omega) ?_
        refine ev_iconst_5 dX6_seen_37 ?_
        refine Ev.pc 38 rfl ?_
        refine ev_icmp_ne 46 dX6_seen_38 rfl (fun h38 => ?_) (fun h38 => ?_)
        · exact absurd (show σ.1 74 3 = 5 by rw [hH, q7]; rfl) h38
        · refine ev_aload_0 dX6_seen_41 ?_
          refine ev_invV (ci := 6) dX6_seen_42 ml_X6_75 mt_X6_full (c_X6_full d) (by first | assumption | decide) (by decide) rfl rfl rfl (rm_ok (by omega)) (Nat.le_of_ble_eq_true rfl) ?_
          refine Ev.pc 45 rfl ?_
          exact ev_ireturn dX6_seen_45 ⟨by ((try simp only [b2i_0, b2i_1, Decidable.not_not] at *); simp only [mSeen]; repeat' (first | with_reducible rfl | contradiction | (exfalso; simp_all; done) | split)), by ((try simp only [b2i_0, b2i_1, Decidable.not_not] at *); simp only [mSeen]; repeat' (first | with_reducible rfl | contradiction | (exfalso; simp_all; done) | split))⟩
      · refine ev_aload_0 dX6_seen_24 ?_
        refine ev_bipush (-2) dX6_seen_25 rfl ?_
        refine ev_invV (ci := 6) dX6_seen_27 ml_X6_71 mt_X6_bad (c_X6_bad d) (by first | assumption | decide) (by decide) rfl rfl rfl (rm_ok (by omega)) (Nat.le_of_ble_eq_true rfl) ?_
        refine Ev.pc 30 rfl ?_
        exact ev_ireturn dX6_seen_30 ⟨by ((try simp only [b2i_0, b2i_1, Decidable.not_not] at *); simp only [mSeen]; repeat' (first | with_reducible rfl | contradiction | (exfalso; simp_all; done) | split)), by ((try simp only [b2i_0, b2i_1, Decidable.not_not] at *); simp only [mSeen]; repeat' (first | with_reducible rfl | contradiction | (exfalso; simp_all; done) | split))⟩
  ·
    refine Ct.of (by decide +kernel) (Nat.le_of_ble_eq_true rfl) ⟨_, rfl, rfl⟩ ?_
    show Ev E _ RX6 cX6_seen 3 _ 0 [some (.ref (E.1 73)), some (.int a), some (.int x)] [] _
    refine ev_iload_1 dX6_seen_0 ?_
    refine ev_i2l dX6_seen_1 ?_
    refine ev_lconst_0 dX6_seen_2 ?_
    refine ev_ldc2_w dX6_seen_3 cn_X6_102 ?_
    refine ev_invS dX6_seen_6 ml_X6_56 mt_X6_in (c_X6_in d (v := a) (lo := 0) (hi := 99) (by first | rfl | decide) (by first | rfl | decide) (by first | rfl | decide)) rfl rfl (rm_ok (by omega)) (Nat.le_of_ble_eq_true rfl) ?_
    refine Ev.pc 9 rfl ?_
    refine ev_if_eq 24 dX6_seen_9 rfl (fun h9 => ?_) (fun h9 => ?_)
    · refine ev_aload_0 dX6_seen_24 ?_
      refine ev_bipush (-2) dX6_seen_25 rfl ?_
      refine ev_invV (ci := 6) dX6_seen_27 ml_X6_71 mt_X6_bad (c_X6_bad d) (by first | assumption | decide) (by decide) rfl rfl rfl (rm_ok (by omega)) (Nat.le_of_ble_eq_true rfl) ?_
      refine Ev.pc 30 rfl ?_
      exact ev_ireturn dX6_seen_30 ⟨by ((try simp only [b2i_0, b2i_1, Decidable.not_not] at *); simp only [mSeen]; repeat' (first | with_reducible rfl | contradiction | (exfalso; simp_all; done) | split)), by ((try simp only [b2i_0, b2i_1, Decidable.not_not] at *); simp only [mSeen]; repeat' (first | with_reducible rfl | contradiction | (exfalso; simp_all; done) | split))⟩
    · refine ev_iload_2 dX6_seen_12 ?_
      refine ev_i2l dX6_seen_13 ?_
      refine ev_lconst_0 dX6_seen_14 ?_
      refine ev_ldc2_w dX6_seen_15 cn_X6_157 ?_
      refine ev_invS dX6_seen_18 ml_X6_56 mt_X6_in (c_X6_in d (v := x) (lo := 0) (hi := 30) (by first | rfl | decide) (by first | rfl | decide) (by first | rfl | decide)) rfl rfl (rm_ok (by omega)) (Nat.le_of_ble_eq_true rfl) ?_
      refine Ev.pc 21 rfl ?_
      refine ev_if_ne 31 dX6_seen_21 rfl (fun h21 => ?_) (fun h21 => ?_)
      · refine ev_aload_0 dX6_seen_31 ?_
        refine ev_get dX6_seen_32 fk_X6_7 (by first | assumption | decide) (by decide) rfl ?_
        refine ev_iconst_3 dX6_seen_35 ?_
        refine ev_aldL (n := 3) dX6_seen_36 (by first | assumption | decide) (by have := xls; omega) ?_
        refine ev_iconst_5 dX6_seen_37 ?_
        refine Ev.pc 38 rfl ?_
        refine ev_icmp_ne 46 dX6_seen_38 rfl (fun h38 => ?_) (fun h38 => ?_)
        · refine ev_aload_0 dX6_seen_46 ?_
          refine ev_get dX6_seen_47 fk_X6_7 (by first | assumption | decide) (by decide) rfl ?_
          refine ev_bipush (48) dX6_seen_50 rfl ?_
          refine ev_iconst_2 dX6_seen_52 ?_
          refine ev_aload_0 dX6_seen_53 ?_
          refine Ev.pc 54 rfl ?_
          refine ev_get dX6_seen_54 fk_X6_7 (by first | assumption | decide) (by decide) rfl ?_
          refine ev_iconst_3 dX6_seen_57 ?_
          refine ev_aldL (n := 3) dX6_seen_58 (by first | assumption | decide) (by have := xls; omega) ?_
          rw [hH]
          refine ev_imul dX6_seen_59 ?_
          refine ev_iadd dX6_seen_60 ?_
          refine Ev.pc 61 rfl ?_
          refine ev_iload_1 dX6_seen_61 ?_
          refine ev_astN (k := 48 + 2 * S) dX6_seen_62 (by first | assumption | decide) (by first | rfl | (simp only [fa_lit, nI_add, pk_mul]; done) | (simp only [fa_lit, nI_add, pk_mul]; congr 1; omega)) (by have := xls; omega) ?_
          refine ev_aload_0 dX6_seen_63 ?_
          refine ev_get dX6_seen_64 fk_X6_7 (by first | assumption | decide) (by decide) rfl ?_
          refine ev_bipush (48) dX6_seen_67 rfl ?_
          refine Ev.pc 69 rfl ?_
          refine ev_iconst_2 dX6_seen_69 ?_
          refine ev_aload_0 dX6_seen_70 ?_
          refine ev_get dX6_seen_71 fk_X6_7 (by first | assumption | decide) (by decide) rfl ?_
          refine ev_iconst_3 dX6_seen_74 ?_
          refine ev_aldL (n := 3) dX6_seen_75 (by first | assumption | decide) (by have := xls; omega) ?_
          refine Ev.pc 76 rfl ?_
          simp only [xrow_row, xrow_at]
          rw [upd_ne _ _ (by omega), hH]
          refine ev_imul dX6_seen_76 ?_
          refine ev_iadd dX6_seen_77 ?_
          refine ev_iconst_1 dX6_seen_78 ?_
          refine ev_iadd dX6_seen_79 ?_
          refine ev_iload_2 dX6_seen_80 ?_
          refine Ev.pc 81 rfl ?_
          refine ev_astN (k := 48 + 2 * S + 1) dX6_seen_81 (by first | assumption | decide) (by first | rfl | (simp only [fa_lit, nI_add, pk_mul]; done) | (simp only [fa_lit, nI_add, pk_mul]; congr 1; omega)) (by have := xls; omega) ?_
          refine ev_aload_0 dX6_seen_82 ?_
          refine ev_get dX6_seen_83 fk_X6_7 (by first | assumption | decide) (by decide) rfl ?_
          refine ev_iconst_3 dX6_seen_86 ?_
          refine ev_dup2 dX6_seen_87 rfl rfl ?_
          refine Ev.pc 88 rfl ?_
          refine ev_aldL (n := 3) dX6_seen_88 (by first | assumption | decide) (by have := xls; omega) ?_
          simp only [xrow_row, xrow_at]
          rw [upd_ne _ _ (by omega), upd_ne _ _ (by omega), hH]
          refine ev_iconst_1 dX6_seen_89 ?_
          refine ev_iadd dX6_seen_90 ?_
          rw [nI_1]
          refine ev_astL (n := 3) dX6_seen_91 (by first | assumption | decide) (by have := xls; omega) ?_
          simp only [xrow_row, xrow_at]
          refine ev_aload_0 dX6_seen_92 ?_
          refine Ev.pc 93 rfl ?_
          refine ev_get dX6_seen_93 fk_X6_7 (by first | assumption | decide) (by decide) rfl ?_
          refine ev_iconst_3 dX6_seen_96 ?_
          refine ev_aldL (n := 3) dX6_seen_97 (by first | assumption | decide) (by have := xls; omega) ?_
          rw [xrow_at, upd_at]
          exact ev_ireturn dX6_seen_98 ⟨by ((try simp only [b2i_0, b2i_1, Decidable.not_not] at *); simp only [mSeen]; repeat' (first | with_reducible rfl | contradiction | (exfalso; simp_all; done) | split)), by ((try simp only [b2i_0, b2i_1, Decidable.not_not] at *); simp only [mSeen]; repeat' (first | with_reducible rfl | contradiction | (exfalso; simp_all; done) | split))⟩
        · exact absurd ((nI_eq (a := S) (b := 5) (by omega) (by omega)).mp (by rw [← hH]; exact h38)) q7
      · refine ev_aload_0 dX6_seen_24 ?_
        refine ev_bipush (-2) dX6_seen_25 rfl ?_
        refine ev_invV (ci := 6) dX6_seen_27 ml_X6_71 mt_X6_bad (c_X6_bad d) (by first | assumption | decide) (by decide) rfl rfl rfl (rm_ok (by omega)) (Nat.le_of_ble_eq_true rfl) ?_
        refine Ev.pc 30 rfl ?_
        exact ev_ireturn dX6_seen_30 ⟨by ((try simp only [b2i_0, b2i_1, Decidable.not_not] at *); simp only [mSeen]; repeat' (first | with_reducible rfl | contradiction | (exfalso; simp_all; done) | split)), by ((try simp only [b2i_0, b2i_1, Decidable.not_not] at *); simp only [mSeen]; repeat' (first | with_reducible rfl | contradiction | (exfalso; simp_all; done) | split))⟩
