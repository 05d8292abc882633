/-! Hints, Past, Shop, and a town's copy and digest -/
def dg (h : Int64) (v : Int32) : Int64 := 31 * h + v.toInt64
def dgF (g : Nat → Int64 → Int64) : Nat → Int64 → Int64
  | 0, h => h
  | n + 1, h => g n (dgF g n h)
def cpRow (σ : xS) (r1 r2 : Nat) : xS := xrow σ r2 (va_cpy (σ.1 r1) (σ.1 r2) 0 0 (xlen r1))
def cpF (σ : xS) (s t k : Nat) : xS := xu σ t k (σ.1 s k)
def cpTown (σ : xS) (t s : Nat) : xS :=
  let a := cpRow (cpRow (cpRow (cpRow (cpRow (cpRow (cpRow σ (s + 1) (t + 1)) (s + 2) (t + 2)) (s + 3) (t + 3)) (s + 4) (t + 4)) (s + 5) (t + 5)) (s + 6) (t + 6)) (s + 7) (t + 7)
  cpF (cpF (cpF (cpF (cpF a s t 7) s t 8) s t 9) s t 10) s t 11
theorem c_X4_take (d : Nat) {E : xE} {σ : xS} {t s : Nat} (ht : TownAt t) (hs : TownAt s) : Ct E (d + 3) yX4_take cX4_take 2 none [.ref (E.1 t), .ref (E.1 s)] σ none (cpTown σ t s) := by
  obtain ⟨a0, a1, a2, a3, a4, a5, a6, a7, b1, b2, b3, b4, b5, b6, b7⟩ := id ht
  obtain ⟨a'0, a'1, a'2, a'3, a'4, a'5, a'6, a'7, b'1, b'2, b'3, b'4, b'5, b'6, b'7⟩ := id hs
  refine Ct.of (by decide +kernel) (Nat.le_of_ble_eq_true rfl) rfl ?_
  show Ev E _ RX4 cX4_take 2 _ 0 [some (.ref (E.1 t)), some (.ref (E.1 s))] [] _
  refine ev_aload_1 dX4_take_0 ?_
  refine ev_ifnonnull 5 dX4_take_1 rfl ?_
  refine ev_aload_1 dX4_take_5 ?_
  refine ev_get dX4_take_6 fk_X4_9 (by first | assumption | decide) (by decide) rfl ?_
  refine ev_aload_0 dX4_take_9 ?_
  refine ev_get dX4_take_10 fk_X4_9 (by first | assumption | decide) (by decide) rfl ?_
  refine Ev.pc 13 rfl ?_
  refine ev_invS dX4_take_13 ml_X4_49 mt_X5_copyRow (c_X5_copyRow d (by assumption) (by assumption) (by omega)) rfl rfl (rm_ok (by omega)) (Nat.le_of_ble_eq_true rfl) ?_
  refine Ev.pc 16 rfl ?_
  refine ev_aload_1 dX4_take_16 ?_
  refine ev_get dX4_take_17 fk_X4_15 (by first | assumption | decide) (by decide) rfl ?_
  refine ev_aload_0 dX4_take_20 ?_
  refine ev_get dX4_take_21 fk_X4_15 (by first | assumption | decide) (by decide) rfl ?_
  refine Ev.pc 24 rfl ?_
  refine ev_invS dX4_take_24 ml_X4_49 mt_X5_copyRow (c_X5_copyRow d (by assumption) (by assumption) (by omega)) rfl rfl (rm_ok (by omega)) (Nat.le_of_ble_eq_true rfl) ?_
  refine Ev.pc 27 rfl ?_
  refine ev_aload_1 dX4_take_27 ?_
  refine ev_get dX4_take_28 fk_X4_18 (by first | assumption | decide) (by decide) rfl ?_
  refine ev_aload_0 dX4_take_31 ?_
  refine ev_get dX4_take_32 fk_X4_18 (by first | assumption | decide) (by decide) rfl ?_
  refine Ev.pc 35 rfl ?_
  refine ev_invS dX4_take_35 ml_X4_49 mt_X5_copyRow (c_X5_copyRow d (by assumption) (by assumption) (by omega)) rfl rfl (rm_ok (by omega)) (Nat.le_of_ble_eq_true rfl) ?_
  refine Ev.pc 38 rfl ?_
  refine ev_aload_1 dX4_take_38 ?_
  refine ev_get dX4_take_39 fk_X4_21 (by first | assumption | decide) (by decide) rfl ?_
  refine ev_aload_0 dX4_take_42 ?_
  refine ev_get dX4_take_43 fk_X4_21 (by first | assumption | decide) (by decide) rfl ?_
  refine Ev.pc 46 rfl ?_
  refine ev_invS dX4_take_46 ml_X4_49 mt_X5_copyRow (c_X5_copyRow d (by assumption) (by assumption) (by omega)) rfl rfl (rm_ok (by omega)) (Nat.le_of_ble_eq_true rfl) ?_
  refine Ev.pc 49 rfl ?_
  refine ev_aload_1 dX4_take_49 ?_
  refine ev_get dX4_take_50 fk_X4_24 (by first | assumption | decide) (by decide) rfl ?_
  refine ev_aload_0 dX4_take_53 ?_
  refine ev_get dX4_take_54 fk_X4_24 (by first | assumption | decide) (by decide) rfl ?_
  refine Ev.pc 57 rfl ?_
  refine ev_invS dX4_take_57 ml_X4_49 mt_X5_copyRow (c_X5_copyRow d (by assumption) (by assumption) (by omega)) rfl rfl (rm_ok (by omega)) (Nat.le_of_ble_eq_true rfl) ?_
  refine Ev.pc 60 rfl ?_
  refine ev_aload_1 dX4_take_60 ?_
  refine ev_get dX4_take_61 fk_X4_27 (by first | assumption | decide) (by decide) rfl ?_
  refine ev_aload_0 dX4_take_64 ?_
  refine ev_get dX4_take_65 fk_X4_27 (by first | assumption | decide) (by decide) rfl ?_
  refine Ev.pc 68 rfl ?_
  refine ev_invS dX4_take_68 ml_X4_49 mt_X5_copyRow (c_X5_copyRow d (by assumption) (by assumption) (by omega)) rfl rfl (rm_ok (by omega)) (Nat.le_of_ble_eq_true rfl) ?_
  refine Ev.pc 71 rfl ?_
  refine ev_aload_1 dX4_take_71 ?_
  refine ev_get dX4_take_72 fk_X4_30 (by first | assumption | decide) (by decide) rfl ?_
  refine ev_aload_0 dX4_take_75 ?_
  refine ev_get dX4_take_76 fk_X4_30 (by first | assumption | decide) (by decide) rfl ?_
  refine Ev.pc 79 rfl ?_
  refine ev_invS dX4_take_79 ml_X4_49 mt_X5_copyRow (c_X5_copyRow d (by assumption) (by assumption) (by omega)) rfl rfl (rm_ok (by omega)) (Nat.le_of_ble_eq_true rfl) ?_
  refine Ev.pc 82 rfl ?_
  refine ev_aload_0 dX4_take_82 ?_
  refine ev_aload_1 dX4_take_83 ?_
  refine ev_get dX4_take_84 fk_X4_33 (by first | assumption | decide) (by decide) rfl ?_
  refine ev_put dX4_take_87 fk_X4_33 (by first | assumption | decide) (by decide) rfl ?_
  refine Ev.pc 90 rfl ?_
  refine ev_aload_0 dX4_take_90 ?_
  refine ev_aload_1 dX4_take_91 ?_
  refine ev_get dX4_take_92 fk_X4_37 (by first | assumption | decide) (by decide) rfl ?_
  refine ev_put dX4_take_95 fk_X4_37 (by first | assumption | decide) (by decide) rfl ?_
  refine ev_aload_0 dX4_take_98 ?_
  refine Ev.pc 99 rfl ?_
  refine ev_aload_1 dX4_take_99 ?_
  refine ev_get dX4_take_100 fk_X4_40 (by first | assumption | decide) (by decide) rfl ?_
  refine ev_put dX4_take_103 fk_X4_40 (by first | assumption | decide) (by decide) rfl ?_
  refine ev_aload_0 dX4_take_106 ?_
  refine ev_aload_1 dX4_take_107 ?_
  refine Ev.pc 108 rfl ?_
  refine ev_get dX4_take_108 fk_X4_43 (by first | assumption | decide) (by decide) rfl ?_
  refine ev_put dX4_take_111 fk_X4_43 (by first | assumption | decide) (by decide) rfl ?_
  refine ev_aload_0 dX4_take_114 ?_
  refine ev_aload_1 dX4_take_115 ?_
  refine ev_get dX4_take_116 fk_X4_46 (by first | assumption | decide) (by decide) rfl ?_
  refine Ev.pc 119 rfl ?_
  refine ev_put dX4_take_119 fk_X4_46 (by first | assumption | decide) (by decide) rfl ?_
  exact ev_return dX4_take_122 ⟨by rfl, by rfl⟩
def dgP (σ : xS) (t k : Nat) (h : Int64) : Int64 := dg (dg (dg (dg h (σ.1 (t + 1) k)) (σ.1 (t + 2) k)) (σ.1 (t + 3) k)) (σ.1 (t + 4) k)
def dgH (σ : xS) (t k : Nat) (h : Int64) : Int64 := dg (dg h (σ.1 (t + 5) k)) (σ.1 (t + 6) k)
def dgB (σ : xS) (t k : Nat) (h : Int64) : Int64 := dg h (σ.1 (t + 7) k)
theorem l3_X4_digestOn (d : Nat) {E : xE} {σ : xS} {t B : Nat} {h1 h0 : Int64} {F : Option Value → xS → Prop} (ht : TownAt t) (hB : σ.1 t 9 = nI B) (hB3 : B ≤ 3) (hF : F (some (.long (dgF (dgB σ t) B h0))) σ) :
    ∀ (n k : Nat) (h : Int64), k + n = B → h = dgF (dgB σ t) k h0 → Ev E (rm (d + 1)) RX4 cX4_digestOn 6 F 143 [some (.ref (E.1 t)), some (.long h1), none, some (.long h), none, some (.int (nI k))] [] σ := by
  obtain ⟨a0, a1, a2, a3, a4, a5, a6, a7, b1, b2, b3, b4, b5, b6, b7⟩ := id ht
  intro n
  induction n with
  | zero =>
    intro k h hk hh
    refine ev_iload_5 dX4_digestOn_143 ?_
    refine ev_aload_0 dX4_digestOn_145 ?_
    refine ev_get dX4_digestOn_146 fk_X4_40 (by first | assumption | decide) (by decide) rfl ?_
    refine ev_icmp_ge 175 dX4_digestOn_149 rfl (fun h149 => ?_) (fun h149 => ?_)
    · refine ev_lload_3 dX4_digestOn_175 ?_
      exact ev_lreturn dX4_digestOn_176 (by (rw [hh, show k = B by omega]; exact hF))
    · exact absurd (by rw [hB]; exact nI_le (by omega) (by omega)) h149
  | succ n ih =>
    intro k h hk hh
    have e1 : xat σ (t + 7) (nI k) = σ.1 (t + 7) k := xat_nI (by omega)
    refine ev_iload_5 dX4_digestOn_143 ?_
    refine ev_aload_0 dX4_digestOn_145 ?_
    refine ev_get dX4_digestOn_146 fk_X4_40 (by first | assumption | decide) (by decide) rfl ?_
    refine ev_icmp_ge 175 dX4_digestOn_149 rfl (fun h149 => ?_) (fun h149 => ?_)
    · exact absurd h149 (by rw [hB]; exact nI_ge (by omega) (by omega))
    · refine ev_ldc2_w dX4_digestOn_152 cn_X4_101 ?_
      refine ev_lload_3 dX4_digestOn_155 ?_
      refine ev_lmul dX4_digestOn_156 ?_
      refine ev_aload_0 dX4_digestOn_157 ?_
      refine ev_get dX4_digestOn_158 fk_X4_30 (by first | assumption | decide) (by decide) rfl ?_
      refine Ev.pc 161 rfl ?_
      refine ev_iload_5 dX4_digestOn_161 ?_
      refine ev_invS dX4_digestOn_163 ml_X4_65 mt_X5_at (c_X5_at d (by first | assumption | decide)) rfl rfl (rm_ok (by omega)) (Nat.le_of_ble_eq_true rfl) ?_
      refine Ev.pc 166 rfl ?_
      refine ev_i2l dX4_digestOn_166 ?_
      refine ev_ladd dX4_digestOn_167 ?_
      refine ev_lstore_3 dX4_digestOn_168 rfl ?_
      refine Ev.pc 169 rfl ?_
      refine ev_iinc_5 (1) dX4_digestOn_169 rfl rfl ?_
      refine ev_goto 143 dX4_digestOn_172 rfl ?_
      rw [nI_1]
      exact ih (k + 1) _ (by omega) (by rw [e1, hh]; rfl)
theorem l2_X4_digestOn (d : Nat) {E : xE} {σ : xS} {t H B : Nat} {h1 h0 : Int64} {F : Option Value → xS → Prop} (ht : TownAt t) (hH : σ.1 t 8 = nI H) (hH4 : H ≤ 4) (hB : σ.1 t 9 = nI B) (hB3 : B ≤ 3) (hF : F (some (.long (dgF (dgB σ t) B (dgF (dgH σ t) H h0)))) σ) :
    ∀ (n k : Nat) (h : Int64), k + n = H → h = dgF (dgH σ t) k h0 → Ev E (rm (d + 1)) RX4 cX4_digestOn 6 F 91 [some (.ref (E.1 t)), some (.long h1), none, some (.long h), none, some (.int (nI k))] [] σ := by
  obtain ⟨a0, a1, a2, a3, a4, a5, a6, a7, b1, b2, b3, b4, b5, b6, b7⟩ := id ht
  intro n
  induction n with
  | zero =>
    intro k h hk hh
    refine ev_iload_5 dX4_digestOn_91 ?_
    refine ev_aload_0 dX4_digestOn_93 ?_
    refine ev_get dX4_digestOn_94 fk_X4_37 (by first | assumption | decide) (by decide) rfl ?_
    refine ev_icmp_ge 140 dX4_digestOn_97 rfl (fun h97 => ?_) (fun h97 => ?_)
    · refine ev_iconst_0 dX4_digestOn_140 ?_
      refine ev_istore_5 dX4_digestOn_141 rfl ?_
      exact l3_X4_digestOn d ht hB hB3 hF B 0 _ (by omega) (by rw [hh, show k = H by omega]; rfl)
    · exact absurd (by rw [hH]; exact nI_le (by omega) (by omega)) h97
  | succ n ih =>
    intro k h hk hh
    have e1 : xat σ (t + 5) (nI k) = σ.1 (t + 5) k := xat_nI (by omega)
    have e2 : xat σ (t + 6) (nI k) = σ.1 (t + 6) k := xat_nI (by omega)
    refine ev_iload_5 dX4_digestOn_91 ?_
    refine ev_aload_0 dX4_digestOn_93 ?_
    refine ev_get dX4_digestOn_94 fk_X4_37 (by first | assumption | decide) (by decide) rfl ?_
    refine ev_icmp_ge 140 dX4_digestOn_97 rfl (fun h97 => ?_) (fun h97 => ?_)
    · exact absurd h97 (by rw [hH]; exact nI_ge (by omega) (by omega))
    · refine ev_ldc2_w dX4_digestOn_100 cn_X4_101 ?_
      refine ev_lload_3 dX4_digestOn_103 ?_
      refine ev_lmul dX4_digestOn_104 ?_
      refine ev_aload_0 dX4_digestOn_105 ?_
      refine ev_get dX4_digestOn_106 fk_X4_24 (by first | assumption | decide) (by decide) rfl ?_
      refine Ev.pc 109 rfl ?_
      refine ev_iload_5 dX4_digestOn_109 ?_
      refine ev_invS dX4_digestOn_111 ml_X4_65 mt_X5_at (c_X5_at d (by first | assumption | decide)) rfl rfl (rm_ok (by omega)) (Nat.le_of_ble_eq_true rfl) ?_
      refine Ev.pc 114 rfl ?_
      refine ev_i2l dX4_digestOn_114 ?_
      refine ev_ladd dX4_digestOn_115 ?_
      refine ev_lstore_3 dX4_digestOn_116 rfl ?_
      refine Ev.pc 117 rfl ?_
      refine ev_ldc2_w dX4_digestOn_117 cn_X4_101 ?_
      refine ev_lload_3 dX4_digestOn_120 ?_
      refine ev_lmul dX4_digestOn_121 ?_
      refine ev_aload_0 dX4_digestOn_122 ?_
      refine ev_get dX4_digestOn_123 fk_X4_27 (by first | assumption | decide) (by decide) rfl ?_
      refine Ev.pc 126 rfl ?_
      refine ev_iload_5 dX4_digestOn_126 ?_
      refine ev_invS dX4_digestOn_128 ml_X4_65 mt_X5_at (c_X5_at d (by first | assumption | decide)) rfl rfl (rm_ok (by omega)) (Nat.le_of_ble_eq_true rfl) ?_
      refine Ev.pc 131 rfl ?_
      refine ev_i2l dX4_digestOn_131 ?_
      refine ev_ladd dX4_digestOn_132 ?_
      refine ev_lstore_3 dX4_digestOn_133 rfl ?_
      refine Ev.pc 134 rfl ?_
      refine ev_iinc_5 (1) dX4_digestOn_134 rfl rfl ?_
      refine ev_goto 91 dX4_digestOn_137 rfl ?_
      rw [nI_1]
      exact ih (k + 1) _ (by omega) (by rw [e1, e2, hh]; rfl)
theorem l1_X4_digestOn (d : Nat) {E : xE} {σ : xS} {t P H B : Nat} {h1 h0 : Int64} {F : Option Value → xS → Prop} (ht : TownAt t) (hP : σ.1 t 7 = nI P) (hP7 : P ≤ 7) (hH : σ.1 t 8 = nI H) (hH4 : H ≤ 4) (hB : σ.1 t 9 = nI B) (hB3 : B ≤ 3) (hF : F (some (.long (dgF (dgB σ t) B (dgF (dgH σ t) H (dgF (dgP σ t) P h0))))) σ) :
    ∀ (n k : Nat) (h : Int64), k + n = P → h = dgF (dgP σ t) k h0 → Ev E (rm (d + 1)) RX4 cX4_digestOn 6 F 5 [some (.ref (E.1 t)), some (.long h1), none, some (.long h), none, some (.int (nI k))] [] σ := by
  obtain ⟨a0, a1, a2, a3, a4, a5, a6, a7, b1, b2, b3, b4, b5, b6, b7⟩ := id ht
  intro n
  induction n with
  | zero =>
    intro k h hk hh
    refine ev_iload_5 dX4_digestOn_5 ?_
    refine ev_aload_0 dX4_digestOn_7 ?_
    refine ev_get dX4_digestOn_8 fk_X4_33 (by first | assumption | decide) (by decide) rfl ?_
    refine ev_icmp_ge 88 dX4_digestOn_11 rfl (fun h11 => ?_) (fun h11 => ?_)
    · refine ev_iconst_0 dX4_digestOn_88 ?_
      refine ev_istore_5 dX4_digestOn_89 rfl ?_
      exact l2_X4_digestOn d ht hH hH4 hB hB3 hF H 0 _ (by omega) (by rw [hh, show k = P by omega]; rfl)
    · exact absurd (by rw [hP]; exact nI_le (by omega) (by omega)) h11
  | succ n ih =>
    intro k h hk hh
    have e1 : xat σ (t + 1) (nI k) = σ.1 (t + 1) k := xat_nI (by omega)
    have e2 : xat σ (t + 2) (nI k) = σ.1 (t + 2) k := xat_nI (by omega)
    have e3 : xat σ (t + 3) (nI k) = σ.1 (t + 3) k := xat_nI (by omega)
    have e4 : xat σ (t + 4) (nI k) = σ.1 (t + 4) k := xat_nI (by omega)
    refine ev_iload_5 dX4_digestOn_5 ?_
    refine ev_aload_0 dX4_digestOn_7 ?_
    refine ev_get dX4_digestOn_8 fk_X4_33 (by first | assumption | decide) (by decide) rfl ?_
    refine ev_icmp_ge 88 dX4_digestOn_11 rfl (fun h11 => ?_) (fun h11 => ?_)
    · exact absurd h11 (by rw [hP]; exact nI_ge (by omega) (by omega))
    · refine ev_ldc2_w dX4_digestOn_14 cn_X4_101 ?_
      refine ev_lload_3 dX4_digestOn_17 ?_
      refine ev_lmul dX4_digestOn_18 ?_
      refine ev_aload_0 dX4_digestOn_19 ?_
      refine ev_get dX4_digestOn_20 fk_X4_9 (by first | assumption | decide) (by decide) rfl ?_
      refine Ev.pc 23 rfl ?_
      refine ev_iload_5 dX4_digestOn_23 ?_
      refine ev_invS dX4_digestOn_25 ml_X4_65 mt_X5_at (c_X5_at d (by first | assumption | decide)) rfl rfl (rm_ok (by omega)) (Nat.le_of_ble_eq_true rfl) ?_
      refine Ev.pc 28 rfl ?_
      refine ev_i2l dX4_digestOn_28 ?_
      refine ev_ladd dX4_digestOn_29 ?_
      refine ev_lstore_3 dX4_digestOn_30 rfl ?_
      refine Ev.pc 31 rfl ?_
      refine ev_ldc2_w dX4_digestOn_31 cn_X4_101 ?_
      refine ev_lload_3 dX4_digestOn_34 ?_
      refine ev_lmul dX4_digestOn_35 ?_
      refine ev_aload_0 dX4_digestOn_36 ?_
      refine ev_get dX4_digestOn_37 fk_X4_15 (by first | assumption | decide) (by decide) rfl ?_
      refine Ev.pc 40 rfl ?_
      refine ev_iload_5 dX4_digestOn_40 ?_
      refine ev_invS dX4_digestOn_42 ml_X4_65 mt_X5_at (c_X5_at d (by first | assumption | decide)) rfl rfl (rm_ok (by omega)) (Nat.le_of_ble_eq_true rfl) ?_
      refine Ev.pc 45 rfl ?_
      refine ev_i2l dX4_digestOn_45 ?_
      refine ev_ladd dX4_digestOn_46 ?_
      refine ev_lstore_3 dX4_digestOn_47 rfl ?_
      refine Ev.pc 48 rfl ?_
      refine ev_ldc2_w dX4_digestOn_48 cn_X4_101 ?_
      refine ev_lload_3 dX4_digestOn_51 ?_
      refine ev_lmul dX4_digestOn_52 ?_
      refine ev_aload_0 dX4_digestOn_53 ?_
      refine ev_get dX4_digestOn_54 fk_X4_18 (by first | assumption | decide) (by decide) rfl ?_
      refine Ev.pc 57 rfl ?_
      refine ev_iload_5 dX4_digestOn_57 ?_
      refine ev_invS dX4_digestOn_59 ml_X4_65 mt_X5_at (c_X5_at d (by first | assumption | decide)) rfl rfl (rm_ok (by omega)) (Nat.le_of_ble_eq_true rfl) ?_
      refine Ev.pc 62 rfl ?_
      refine ev_i2l dX4_digestOn_62 ?_
      refine ev_ladd dX4_digestOn_63 ?_
      refine ev_lstore_3 dX4_digestOn_64 rfl ?_
      refine Ev.pc 65 rfl ?_
      refine ev_ldc2_w dX4_digestOn_65 cn_X4_101 ?_
      refine ev_lload_3 dX4_digestOn_68 ?_
      refine ev_lmul dX4_digestOn_69 ?_
      refine ev_aload_0 dX4_digestOn_70 ?_
      refine ev_get dX4_digestOn_71 fk_X4_21 (by first | assumption | decide) (by decide) rfl ?_
      refine Ev.pc 74 rfl ?_
      refine ev_iload_5 dX4_digestOn_74 ?_
      refine ev_invS dX4_digestOn_76 ml_X4_65 mt_X5_at (c_X5_at d (by first | assumption | decide)) rfl rfl (rm_ok (by omega)) (Nat.le_of_ble_eq_true rfl) ?_
      refine Ev.pc 79 rfl ?_
      refine ev_i2l dX4_digestOn_79 ?_
      refine ev_ladd dX4_digestOn_80 ?_
      refine ev_lstore_3 dX4_digestOn_81 rfl ?_
      refine Ev.pc 82 rfl ?_
      refine ev_iinc_5 (1) dX4_digestOn_82 rfl rfl ?_
      refine ev_goto 5 dX4_digestOn_85 rfl ?_
      rw [nI_1]
      exact ih (k + 1) _ (by omega) (by rw [e1, e2, e3, e4, hh]; rfl)
theorem c_X4_digestOn (d : Nat) {E : xE} {σ : xS} {t P H B : Nat} {h0 : Int64} (ht : TownAt t) (hP : σ.1 t 7 = nI P) (hP7 : P ≤ 7) (hH : σ.1 t 8 = nI H) (hH4 : H ≤ 4) (hB : σ.1 t 9 = nI B) (hB3 : B ≤ 3) : Ct E (d + 1) yX4_digestOn cX4_digestOn 6 (some .long) [.ref (E.1 t), .long h0] σ (some (.long (dgF (dgB σ t) B (dgF (dgH σ t) H (dgF (dgP σ t) P h0))))) σ := by
  refine Ct.of (by decide +kernel) (Nat.le_of_ble_eq_true rfl) rfl ?_
  show Ev E _ RX4 cX4_digestOn 6 _ 0 [some (.ref (E.1 t)), some (.long h0), none, none, none, none] [] _
  refine ev_lload_1 dX4_digestOn_0 ?_
  refine ev_lstore_3 dX4_digestOn_1 rfl ?_
  refine ev_iconst_0 dX4_digestOn_2 ?_
  refine ev_istore_5 dX4_digestOn_3 rfl ?_
  exact l1_X4_digestOn d ht hP hP7 hH hH4 hB hB3 ⟨rfl, rfl⟩ P 0 _ (by omega) rfl
/-! Hints: two cells from i on -/
def HintAt (i : Nat) : Prop := (i < xN ∧ xcls i = 0) ∧ (i + 1 < xN ∧ xcls (i + 1) = 7)
theorem hint_all : HintAt 12 ∧ HintAt 14 ∧ HintAt 16 ∧ HintAt 29 ∧ HintAt 31 ∧ HintAt 33 ∧ HintAt 46 ∧ HintAt 48 ∧ HintAt 50 := by unfold HintAt; decide +kernel
theorem c_X0_cell (d : Nat) {E : xE} {σ : xS} {i : Nat} {r c : Int32} (ht : HintAt i) : Ct E (d + 1) yX0_cell cX0_cell 3 (some .int) [.ref (E.1 i), .int r, .int c] σ (some (.int (xat σ (i + 1) (r * 4 + c)))) σ := by
  obtain ⟨a0, a1⟩ := id ht
  refine Ct.of (by decide +kernel) (Nat.le_of_ble_eq_true rfl) ⟨_, rfl, rfl⟩ ?_
  show Ev E _ RX0 cX0_cell 3 _ 0 [some (.ref (E.1 i)), some (.int r), some (.int c)] [] _
  refine ev_aload_0 dX0_cell_0 ?_
  refine ev_get dX0_cell_1 fk_X0_22 (by first | assumption | decide) (by decide) rfl ?_
  refine ev_iload_1 dX0_cell_4 ?_
  refine ev_iconst_4 dX0_cell_5 ?_
  refine ev_imul dX0_cell_6 ?_
  refine Ev.pc 7 rfl ?_
  refine ev_iload_2 dX0_cell_7 ?_
  refine ev_iadd dX0_cell_8 ?_
  refine ev_invS dX0_cell_9 ml_X0_36 mt_X5_at (c_X5_at d (by first | assumption | decide)) rfl rfl (rm_ok (by omega)) (Nat.le_of_ble_eq_true rfl) ?_
  refine Ev.pc 12 rfl ?_
  exact ev_ireturn dX0_cell_12 ⟨by rfl, by rfl⟩
theorem c_X0_isFull (d : Nat) {E : xE} {σ : xS} {i : Nat} (ht : HintAt i) : Ct E d yX0_isFull cX0_isFull 1 (some .boolean) [.ref (E.1 i)] σ (some (.int (b2i (σ.1 i 0 ≤ σ.1 i 2)))) σ := by
  obtain ⟨a0, a1⟩ := id ht
  refine Ct.of (by decide +kernel) (Nat.le_of_ble_eq_true rfl) ⟨_, rfl, nb_b2i _⟩ ?_
  show Ev E _ RX0 cX0_isFull 1 _ 0 [some (.ref (E.1 i))] [] _
  refine ev_aload_0 dX0_isFull_0 ?_
  refine ev_get dX0_isFull_1 fk_X0_7 (by first | assumption | decide) (by decide) rfl ?_
  refine ev_aload_0 dX0_isFull_4 ?_
  refine ev_get dX0_isFull_5 fk_X0_19 (by first | assumption | decide) (by decide) rfl ?_
  refine ev_icmp_lt 15 dX0_isFull_8 rfl (fun h8 => ?_) (fun h8 => ?_)
  · refine ev_iconst_0 dX0_isFull_15 ?_
    exact ev_ireturn dX0_isFull_16 ⟨by (simp only [b2i, ← i_nlt, *]; first | rfl | simp), by rfl⟩
  · refine ev_iconst_1 dX0_isFull_11 ?_
    refine ev_goto 16 dX0_isFull_12 rfl ?_
    exact ev_ireturn dX0_isFull_16 ⟨by (simp only [b2i, ← i_nlt, *]; first | rfl | simp), by rfl⟩
theorem c_X0_take (d : Nat) {E : xE} {σ : xS} {i j : Nat} (hi : HintAt i) (hj : HintAt j) (hl : xlen (i + 1) = xlen (j + 1)) : Ct E (d + 3) yX0_take cX0_take 2 none [.ref (E.1 i), .ref (E.1 j)] σ none (cpF (cpRow σ (j + 1) (i + 1)) j i 2) := by
  obtain ⟨a0, a1⟩ := id hi
  obtain ⟨a2, a3⟩ := id hj
  refine Ct.of (by decide +kernel) (Nat.le_of_ble_eq_true rfl) rfl ?_
  show Ev E _ RX0 cX0_take 2 _ 0 [some (.ref (E.1 i)), some (.ref (E.1 j))] [] _
  refine ev_aload_1 dX0_take_0 ?_
  refine ev_ifnonnull 5 dX0_take_1 rfl ?_
  refine ev_aload_1 dX0_take_5 ?_
  refine ev_get dX0_take_6 fk_X0_22 (by first | assumption | decide) (by decide) rfl ?_
  refine ev_aload_0 dX0_take_9 ?_
  refine ev_get dX0_take_10 fk_X0_22 (by first | assumption | decide) (by decide) rfl ?_
  refine Ev.pc 13 rfl ?_
  refine ev_invS dX0_take_13 ml_X0_26 mt_X5_copyRow (c_X5_copyRow d (by assumption) (by assumption) (by omega)) rfl rfl (rm_ok (by omega)) (Nat.le_of_ble_eq_true rfl) ?_
  refine Ev.pc 16 rfl ?_
  refine ev_aload_0 dX0_take_16 ?_
  refine ev_aload_1 dX0_take_17 ?_
  refine ev_get dX0_take_18 fk_X0_7 (by first | assumption | decide) (by decide) rfl ?_
  refine ev_put dX0_take_21 fk_X0_7 (by first | assumption | decide) (by decide) rfl ?_
  refine Ev.pc 24 rfl ?_
  exact ev_return dX0_take_24 ⟨by rfl, by rfl⟩
theorem c_X0_add (d : Nat) {E : xE} {σ : xS} {i n : Nat} {w s t a : Int32} (hi : HintAt i) (hn : σ.1 i 2 = nI n) (hl : 4 * n + 4 ≤ xlen (i + 1)) : Ct E (d + 1) yX0_add cX0_add 6 (some .int) [.ref (E.1 i), .int w, .int s, .int t, .int a] σ (some (.int (nI (n + 1)))) (xu (xu (xu (xu (xu σ (i + 1) (4 * n) w) (i + 1) (4 * n + 1) s) (i + 1) (4 * n + 2) t) (i + 1) (4 * n + 3) a) i 2 (nI (n + 1))) := by
  obtain ⟨a0, a1⟩ := id hi
  have h5 := xlen_le (i + 1)
  have e0 : σ.1 i 2 * 4 = nI (4 * n) := by rw [hn, show (4 : Int32) = nI 4 from rfl, pk_mul, Nat.mul_comm]
  refine Ct.of (by decide +kernel) (Nat.le_of_ble_eq_true rfl) ⟨_, rfl, rfl⟩ ?_
  show Ev E _ RX0 cX0_add 6 _ 0 [some (.ref (E.1 i)), some (.int w), some (.int s), some (.int t), some (.int a), none] [] _
  refine ev_aload_0 dX0_add_0 ?_
  refine ev_get dX0_add_1 fk_X0_7 (by first | assumption | decide) (by decide) rfl ?_
  refine ev_iconst_4 dX0_add_4 ?_
  refine ev_imul dX0_add_5 ?_
  refine ev_istore_5 dX0_add_6 rfl ?_
  refine Ev.pc 8 rfl ?_
  refine ev_aload_0 dX0_add_8 ?_
  refine ev_get dX0_add_9 fk_X0_22 (by first | assumption | decide) (by decide) rfl ?_
  refine ev_iload_5 dX0_add_12 ?_
  refine ev_iconst_0 dX0_add_14 ?_
  refine ev_iadd dX0_add_15 ?_
  refine Ev.pc 16 rfl ?_
  refine ev_iload_1 dX0_add_16 ?_
  refine ev_invS dX0_add_17 ml_X0_32 mt_X5_put (c_X5_put d (by first | assumption | decide)) rfl rfl (rm_ok (by omega)) (Nat.le_of_ble_eq_true rfl) ?_
  rw [xput_eq (k := 4 * n) (by rw [e0]; exact nI_add _ 0) (by omega)]
  refine Ev.pc 20 rfl ?_
  refine ev_aload_0 dX0_add_20 ?_
  refine ev_get dX0_add_21 fk_X0_22 (by first | assumption | decide) (by decide) rfl ?_
  refine ev_iload_5 dX0_add_24 ?_
  refine Ev.pc 26 rfl ?_
  refine ev_iconst_1 dX0_add_26 ?_
  refine ev_iadd dX0_add_27 ?_
  refine ev_iload_2 dX0_add_28 ?_
  refine ev_invS dX0_add_29 ml_X0_32 mt_X5_put (c_X5_put d (by first | assumption | decide)) rfl rfl (rm_ok (by omega)) (Nat.le_of_ble_eq_true rfl) ?_
  rw [xput_eq (k := 4 * n + 1) (by rw [e0]; exact nI_1 _) (by omega)]
  refine Ev.pc 32 rfl ?_
  refine ev_aload_0 dX0_add_32 ?_
  refine Ev.pc 33 rfl ?_
  refine ev_get dX0_add_33 fk_X0_22 (by first | assumption | decide) (by decide) rfl ?_
  refine ev_iload_5 dX0_add_36 ?_
  refine ev_iconst_2 dX0_add_38 ?_
  refine ev_iadd dX0_add_39 ?_
  refine ev_iload_3 dX0_add_40 ?_
  refine Ev.pc 41 rfl ?_
  refine ev_invS dX0_add_41 ml_X0_32 mt_X5_put (c_X5_put d (by first | assumption | decide)) rfl rfl (rm_ok (by omega)) (Nat.le_of_ble_eq_true rfl) ?_
  rw [xput_eq (k := 4 * n + 2) (by rw [e0]; exact nI_add _ 2) (by omega)]
  refine Ev.pc 44 rfl ?_
  refine ev_aload_0 dX0_add_44 ?_
  refine ev_get dX0_add_45 fk_X0_22 (by first | assumption | decide) (by decide) rfl ?_
  refine ev_iload_5 dX0_add_48 ?_
  refine ev_iconst_3 dX0_add_50 ?_
  refine Ev.pc 51 rfl ?_
  refine ev_iadd dX0_add_51 ?_
  refine ev_iload_4 dX0_add_52 ?_
  refine ev_invS dX0_add_54 ml_X0_32 mt_X5_put (c_X5_put d (by first | assumption | decide)) rfl rfl (rm_ok (by omega)) (Nat.le_of_ble_eq_true rfl) ?_
  rw [xput_eq (k := 4 * n + 3) (by rw [e0]; exact nI_add _ 3) (by omega)]
  refine Ev.pc 57 rfl ?_
  refine ev_aload_0 dX0_add_57 ?_
  refine ev_dup dX0_add_58 rfl ?_
  refine Ev.pc 59 rfl ?_
  refine ev_get dX0_add_59 fk_X0_7 (by first | assumption | decide) (by decide) rfl ?_
  refine ev_iconst_1 dX0_add_62 ?_
  refine ev_iadd dX0_add_63 ?_
  refine ev_put dX0_add_64 fk_X0_7 (by first | assumption | decide) (by decide) rfl ?_
  refine ev_aload_0 dX0_add_67 ?_
  refine Ev.pc 68 rfl ?_
  refine ev_get dX0_add_68 fk_X0_7 (by first | assumption | decide) (by decide) rfl ?_
  exact ev_ireturn dX0_add_71 ⟨by simp [xu, hn, nI_1], by simp [xu, hn, nI_1]⟩
def dgC (σ : xS) (i r c0 : Nat) : Nat → Int64 → Int64 := dgF (fun k h => dg h (σ.1 (i + 1) (4 * r + (c0 + k))))
theorem l2_X0_digestOn (d : Nat) {E : xE} {σ : xS} {i n r c0 : Nat} {h1 h0 : Int64} {F : Option Value → xS → Prop} (hi : HintAt i) (hl : 4 * n ≤ xlen (i + 1)) (hr : r < n) (hc : c0 ≤ 4) (hF : ∀ x7, Ev E (rm (d + 2)) RX0 cX0_digestOn 8 F 48 [some (.ref (E.1 i)), some (.long h1), none, some (.int (nI c0)), some (.long (dgC σ i r c0 (4 - c0) h0)), none, some (.int (nI r)), some (.int x7)] [] σ) :
    ∀ (m k : Nat) (h : Int64), c0 + k + m = 4 → h = dgC σ i r c0 k h0 → Ev E (rm (d + 2)) RX0 cX0_digestOn 8 F 18 [some (.ref (E.1 i)), some (.long h1), none, some (.int (nI c0)), some (.long h), none, some (.int (nI r)), some (.int (nI (c0 + k)))] [] σ := by
  obtain ⟨a0, a1⟩ := id hi
  have h5 := xlen_le (i + 1)
  intro m
  induction m with
  | zero =>
    intro k h hk hh
    refine ev_iload_7 dX0_digestOn_18 ?_
    refine ev_iconst_4 dX0_digestOn_20 ?_
    refine ev_icmp_ge 48 dX0_digestOn_21 rfl (fun h21 => ?_) (fun h21 => ?_)
    · rw [hh, show k = 4 - c0 by omega]
      exact hF _
    · exact absurd (nI_le (a := 4) (by omega) (by omega)) h21
  | succ m ih =>
    intro k h hk hh
    have e1 : xat σ (i + 1) (nI r * 4 + nI (c0 + k)) = σ.1 (i + 1) (4 * r + (c0 + k)) := by
      rw [show (4 : Int32) = nI 4 from rfl, pk_mul, nI_add, xat_nI (by omega), Nat.mul_comm]
    refine ev_iload_7 dX0_digestOn_18 ?_
    refine ev_iconst_4 dX0_digestOn_20 ?_
    refine ev_icmp_ge 48 dX0_digestOn_21 rfl (fun h21 => ?_) (fun h21 => ?_)
    · exact absurd h21 (nI_ge (b := 4) (by omega) (by omega))
    · refine ev_ldc2_w dX0_digestOn_24 cn_X0_40 ?_
      refine ev_lload_4 dX0_digestOn_27 ?_
      refine ev_lmul dX0_digestOn_29 ?_
      refine ev_aload_0 dX0_digestOn_30 ?_
      refine ev_iload_6 dX0_digestOn_31 ?_
      refine Ev.pc 33 rfl ?_
      refine ev_iload_7 dX0_digestOn_33 ?_
      refine ev_invV (ci := 0) dX0_digestOn_35 ml_X0_42 mt_X0_cell (c_X0_cell d ‹HintAt _›) (by first | assumption | decide) (by decide) rfl rfl rfl (rm_ok (by omega)) (Nat.le_of_ble_eq_true rfl) ?_
      refine Ev.pc 38 rfl ?_
      refine ev_i2l dX0_digestOn_38 ?_
      refine ev_ladd dX0_digestOn_39 ?_
      refine ev_lstore_4 dX0_digestOn_40 rfl ?_
      refine Ev.pc 42 rfl ?_
      refine ev_iinc_7 (1) dX0_digestOn_42 rfl rfl ?_
      refine ev_goto 18 dX0_digestOn_45 rfl ?_
      rw [nI_1]
      exact ih (k + 1) _ (by omega) (by rw [e1, hh]; rfl)
theorem l1_X0_digestOn (d : Nat) {E : xE} {σ : xS} {i n c0 : Nat} {h1 h0 : Int64} {F : Option Value → xS → Prop} (hi : HintAt i) (hn : σ.1 i 2 = nI n) (hl : 4 * n ≤ xlen (i + 1)) (hc : c0 ≤ 4) (hF : F (some (.long (dgF (fun r => dgC σ i r c0 (4 - c0)) n h0))) σ) :
    ∀ (m r : Nat) (h : Int64) (x7 : Option Value), r + m = n → h = dgF (fun r => dgC σ i r c0 (4 - c0)) r h0 → Ev E (rm (d + 2)) RX0 cX0_digestOn 8 F 6 [some (.ref (E.1 i)), some (.long h1), none, some (.int (nI c0)), some (.long h), none, some (.int (nI r)), x7] [] σ := by
  obtain ⟨a0, a1⟩ := id hi
  have h5 := xlen_le (i + 1)
  intro m
  induction m with
  | zero =>
    intro r h x7 hk hh
    refine ev_iload_6 dX0_digestOn_6 ?_
    refine ev_aload_0 dX0_digestOn_8 ?_
    refine ev_get dX0_digestOn_9 fk_X0_7 (by first | assumption | decide) (by decide) rfl ?_
    refine ev_icmp_ge 54 dX0_digestOn_12 rfl (fun h12 => ?_) (fun h12 => ?_)
    · refine ev_lload_4 dX0_digestOn_54 ?_
      exact ev_lreturn dX0_digestOn_56 (by (rw [hh, show r = n by omega]; exact hF))
    · exact absurd (by rw [hn]; exact nI_le (by omega) (by omega)) h12
  | succ m ih =>
    intro r h x7 hk hh
    refine ev_iload_6 dX0_digestOn_6 ?_
    refine ev_aload_0 dX0_digestOn_8 ?_
    refine ev_get dX0_digestOn_9 fk_X0_7 (by first | assumption | decide) (by decide) rfl ?_
    refine ev_icmp_ge 54 dX0_digestOn_12 rfl (fun h12 => ?_) (fun h12 => ?_)
    · exact absurd h12 (by rw [hn]; exact nI_ge (by omega) (by omega))
    · refine ev_iload_3 dX0_digestOn_15 ?_
      refine ev_istore_7 dX0_digestOn_16 rfl ?_
      refine l2_X0_digestOn d hi hl (show r < n by omega) hc (h0 := h) (fun x7 => ?_) (4 - c0) 0 _ (by omega) rfl
      refine ev_iinc_6 (1) dX0_digestOn_48 rfl rfl ?_
      refine ev_goto 6 dX0_digestOn_51 rfl ?_
      rw [nI_1]
      exact ih (r + 1) _ _ (by omega) (by rw [hh]; rfl)
theorem c_X0_digestOn (d : Nat) {E : xE} {σ : xS} {i n c0 : Nat} {h0 : Int64} (hi : HintAt i) (hn : σ.1 i 2 = nI n) (hl : 4 * n ≤ xlen (i + 1)) (hc : c0 ≤ 4) : Ct E (d + 2) yX0_digestOn cX0_digestOn 8 (some .long) [.ref (E.1 i), .long h0, .int (nI c0)] σ (some (.long (dgF (fun r => dgC σ i r c0 (4 - c0)) n h0))) σ := by
  refine Ct.of (by decide +kernel) (Nat.le_of_ble_eq_true rfl) rfl ?_
  show Ev E _ RX0 cX0_digestOn 8 _ 0 [some (.ref (E.1 i)), some (.long h0), none, some (.int (nI c0)), none, none, none, none] [] _
  refine ev_lload_1 dX0_digestOn_0 ?_
  refine ev_lstore_4 dX0_digestOn_1 rfl ?_
  refine ev_iconst_0 dX0_digestOn_3 ?_
  refine ev_istore_6 dX0_digestOn_4 rfl ?_
  exact l1_X0_digestOn d hi hn hl hc ⟨rfl, rfl⟩ n 0 _ _ (by omega) rfl
/-! what may be undone: cells 10 (depth) and 11; the town at hand: 2 -/
def saveAt (σ : xS) (u : Nat) : xS :=
  let s1 := xrow σ 11 (va_cpy (σ.1 6) (σ.1 11) 0 (19 * u) 7)
  let s2 := xrow s1 11 (va_cpy (s1.1 5) (s1.1 11) 0 (19 * u + 7) 7)
  let s3 := xrow s2 11 (va_cpy (s2.1 9) (s2.1 11) 0 (19 * u + 14) 3)
  xu (xu (xu s3 11 (19 * u + 17) (σ.1 2 11)) 11 (19 * u + 18) (σ.1 2 10)) 10 1 (nI (u + 1))
def saveC (σ : xS) (u : Nat) : xS := if u = 8 then saveAt (xu (xrow σ 11 (va_cpy (σ.1 11) (σ.1 11) 19 0 133)) 10 1 7) 7 else saveAt σ u
def backAt (σ : xS) (u : Nat) : xS :=
  let s0 := xu σ 10 1 (nI u)
  let s1 := xrow s0 6 (va_cpy (s0.1 11) (s0.1 6) (19 * u) 0 7)
  let s2 := xrow s1 5 (va_cpy (s1.1 11) (s1.1 5) (19 * u + 7) 0 7)
  let s3 := xrow s2 9 (va_cpy (s2.1 11) (s2.1 9) (19 * u + 14) 0 3)
  xu (xu s3 2 11 (σ.1 11 (19 * u + 17))) 2 10 (σ.1 11 (19 * u + 18))
theorem l_X1_save (d : Nat) {E : xE} {σ : xS} {u : Nat} {x2 : Option Value} {F : Option Value → xS → Prop} (hu : σ.1 10 1 = nI u) (hu8 : u < 8) (hF : F none (saveAt σ u)) : Ev E (rm (d + 2)) RX1 cX1_save 3 F 37 [some (.ref (E.1 10)), some (.ref (E.1 2)), x2] [] σ := by
  have e0 : σ.1 10 1 * 19 = nI (19 * u) := by rw [hu, show (19 : Int32) = nI 19 from rfl, pk_mul, Nat.mul_comm]
  have e1 : xlen 11 = 152 := by decide
  have e2 : xlen 6 = 7 := by decide
  have e3 : xlen 5 = 7 := by decide
  have e4 : xlen 9 = 3 := by decide
  refine ev_aload_0 dX1_save_37 ?_
  refine ev_get dX1_save_38 fk_X1_15 (by first | assumption | decide) (by decide) rfl ?_
  refine ev_bipush (19) dX1_save_41 rfl ?_
  refine ev_imul dX1_save_43 ?_
  refine ev_istore_2 dX1_save_44 rfl ?_
  refine Ev.pc 45 rfl ?_
  rw [e0]
  refine ev_aload_1 dX1_save_45 ?_
  refine ev_get dX1_save_46 fk_X1_27 (by first | assumption | decide) (by decide) rfl ?_
  refine ev_iconst_0 dX1_save_49 ?_
  refine ev_aload_0 dX1_save_50 ?_
  refine ev_get dX1_save_51 fk_X1_11 (by first | assumption | decide) (by decide) rfl ?_
  refine Ev.pc 54 rfl ?_
  refine ev_iload_2 dX1_save_54 ?_
  refine ev_bipush (7) dX1_save_55 rfl ?_
  refine ev_invS dX1_save_57 ml_X1_23 mt_X5_copyCells (c_X5_copyCells d (r1 := 6) (r2 := 11) (a := 0) (b := 19 * u) (n := 7) (by decide) (by decide) (by omega) (by omega)) rfl rfl (rm_ok (by omega)) (Nat.le_of_ble_eq_true rfl) ?_
  refine Ev.pc 60 rfl ?_
  refine ev_aload_1 dX1_save_60 ?_
  refine ev_get dX1_save_61 fk_X1_32 (by first | assumption | decide) (by decide) rfl ?_
  refine Ev.pc 64 rfl ?_
  refine ev_iconst_0 dX1_save_64 ?_
  refine ev_aload_0 dX1_save_65 ?_
  refine ev_get dX1_save_66 fk_X1_11 (by first | assumption | decide) (by decide) rfl ?_
  refine ev_iload_2 dX1_save_69 ?_
  refine ev_bipush (7) dX1_save_70 rfl ?_
  refine Ev.pc 72 rfl ?_
  refine ev_iadd dX1_save_72 ?_
  rw [show nI (19 * u) + 7 = nI (19 * u + 7) from nI_add _ 7]
  refine ev_bipush (7) dX1_save_73 rfl ?_
  refine ev_invS dX1_save_75 ml_X1_23 mt_X5_copyCells (c_X5_copyCells d (r1 := 5) (r2 := 11) (a := 0) (b := 19 * u + 7) (n := 7) (by decide) (by decide) (by omega) (by omega)) rfl rfl (rm_ok (by omega)) (Nat.le_of_ble_eq_true rfl) ?_
  refine Ev.pc 78 rfl ?_
  refine ev_aload_1 dX1_save_78 ?_
  refine ev_get dX1_save_79 fk_X1_35 (by first | assumption | decide) (by decide) rfl ?_
  refine Ev.pc 82 rfl ?_
  refine ev_iconst_0 dX1_save_82 ?_
  refine ev_aload_0 dX1_save_83 ?_
  refine ev_get dX1_save_84 fk_X1_11 (by first | assumption | decide) (by decide) rfl ?_
  refine ev_iload_2 dX1_save_87 ?_
  refine ev_bipush (14) dX1_save_88 rfl ?_
  refine Ev.pc 90 rfl ?_
  refine ev_iadd dX1_save_90 ?_
  rw [show nI (19 * u) + 14 = nI (19 * u + 14) from nI_add _ 14]
  refine ev_iconst_3 dX1_save_91 ?_
  refine ev_invS dX1_save_92 ml_X1_23 mt_X5_copyCells (c_X5_copyCells d (r1 := 9) (r2 := 11) (a := 0) (b := 19 * u + 14) (n := 3) (by decide) (by decide) (by omega) (by omega)) rfl rfl (rm_ok (by omega)) (Nat.le_of_ble_eq_true rfl) ?_
  refine Ev.pc 95 rfl ?_
  refine ev_aload_0 dX1_save_95 ?_
  refine ev_get dX1_save_96 fk_X1_11 (by first | assumption | decide) (by decide) rfl ?_
  refine Ev.pc 99 rfl ?_
  refine ev_iload_2 dX1_save_99 ?_
  refine ev_bipush (17) dX1_save_100 rfl ?_
  refine ev_iadd dX1_save_102 ?_
  refine ev_aload_1 dX1_save_103 ?_
  refine ev_get dX1_save_104 fk_X1_38 (by first | assumption | decide) (by decide) rfl ?_
  refine Ev.pc 107 rfl ?_
  refine ev_invS dX1_save_107 ml_X1_41 mt_X5_put (c_X5_put d (by first | assumption | decide)) rfl rfl (rm_ok (by omega)) (Nat.le_of_ble_eq_true rfl) ?_
  rw [xput_eq (r := 11) (k := 19 * u + 17) (show nI (19 * u) + 17 = nI (19 * u + 17) from nI_add _ 17) (by omega)]
  refine Ev.pc 110 rfl ?_
  refine ev_aload_0 dX1_save_110 ?_
  refine ev_get dX1_save_111 fk_X1_11 (by first | assumption | decide) (by decide) rfl ?_
  refine ev_iload_2 dX1_save_114 ?_
  refine ev_bipush (18) dX1_save_115 rfl ?_
  refine Ev.pc 117 rfl ?_
  refine ev_iadd dX1_save_117 ?_
  refine ev_aload_1 dX1_save_118 ?_
  refine ev_get dX1_save_119 fk_X1_45 (by first | assumption | decide) (by decide) rfl ?_
  refine ev_invS dX1_save_122 ml_X1_41 mt_X5_put (c_X5_put d (by first | assumption | decide)) rfl rfl (rm_ok (by omega)) (Nat.le_of_ble_eq_true rfl) ?_
  rw [xput_eq (r := 11) (k := 19 * u + 18) (show nI (19 * u) + 18 = nI (19 * u + 18) from nI_add _ 18) (by omega)]
  refine Ev.pc 125 rfl ?_
  refine ev_aload_0 dX1_save_125 ?_
  refine Ev.pc 126 rfl ?_
  refine ev_dup dX1_save_126 rfl ?_
  refine ev_get dX1_save_127 fk_X1_15 (by first | assumption | decide) (by decide) rfl ?_
  refine ev_iconst_1 dX1_save_130 ?_
  refine ev_iadd dX1_save_131 ?_
  refine ev_put dX1_save_132 fk_X1_15 (by first | assumption | decide) (by decide) rfl ?_
  refine Ev.pc 135 rfl ?_
  exact ev_return dX1_save_135 (by (simpa [saveAt, xu, xrow, hu, nI_1] using hF))
theorem c_X1_save (d : Nat) {E : xE} {σ : xS} {u : Nat} (hu : σ.1 10 1 = nI u) (hu8 : u ≤ 8) : Ct E (d + 2) yX1_save cX1_save 3 none [.ref (E.1 10), .ref (E.1 2)] σ none (saveC σ u) := by
  have e1 : xlen 11 = 152 := by decide
  refine Ct.of (by decide +kernel) (Nat.le_of_ble_eq_true rfl) rfl ?_
  show Ev E _ RX1 cX1_save 3 _ 0 [some (.ref (E.1 10)), some (.ref (E.1 2)), none] [] _
  rcases Nat.lt_or_ge u 8 with h8 | h8
  ·
    refine ev_aload_1 dX1_save_0 ?_
    refine ev_ifnonnull 5 dX1_save_1 rfl ?_
    refine ev_aload_0 dX1_save_5 ?_
    refine ev_get dX1_save_6 fk_X1_15 (by first | assumption | decide) (by decide) rfl ?_
    refine ev_bipush (8) dX1_save_9 rfl ?_
    refine ev_icmp_lt 37 dX1_save_11 rfl (fun h11 => ?_) (fun h11 => ?_)
    · exact l_X1_save d hu h8 ⟨rfl, by rw [saveC, if_neg (by omega)]⟩
    · exact absurd (by rw [hu]; exact (show nI u < nI 8 from nI_lt h8 (by omega))) h11
  ·
    refine ev_aload_1 dX1_save_0 ?_
    refine ev_ifnonnull 5 dX1_save_1 rfl ?_
    refine ev_aload_0 dX1_save_5 ?_
    refine ev_get dX1_save_6 fk_X1_15 (by first | assumption | decide) (by decide) rfl ?_
    refine ev_bipush (8) dX1_save_9 rfl ?_
    refine ev_icmp_lt 37 dX1_save_11 rfl (fun h11 => ?_) (fun h11 => ?_)
    · exact absurd h11 (by rw [hu]; exact (show ¬ nI u < nI 8 from nI_nlt (by omega) (by omega)))
    · refine ev_aload_0 dX1_save_14 ?_
      refine ev_get dX1_save_15 fk_X1_11 (by first | assumption | decide) (by decide) rfl ?_
      refine ev_bipush (19) dX1_save_18 rfl ?_
      refine ev_aload_0 dX1_save_20 ?_
      refine ev_get dX1_save_21 fk_X1_11 (by first | assumption | decide) (by decide) rfl ?_
      refine Ev.pc 24 rfl ?_
      refine ev_iconst_0 dX1_save_24 ?_
      refine ev_sipush (133) dX1_save_25 rfl ?_
      refine ev_invS dX1_save_28 ml_X1_23 mt_X5_copyCells (c_X5_copyCells d (r1 := 11) (r2 := 11) (a := 19) (b := 0) (n := 133) (by decide) (by decide) (by omega) (by omega)) rfl rfl (rm_ok (by omega)) (Nat.le_of_ble_eq_true rfl) ?_
      refine Ev.pc 31 rfl ?_
      refine ev_aload_0 dX1_save_31 ?_
      refine ev_bipush (7) dX1_save_32 rfl ?_
      refine Ev.pc 34 rfl ?_
      refine ev_put dX1_save_34 fk_X1_15 (by first | assumption | decide) (by decide) rfl ?_
      exact l_X1_save d (by simp [xu]; rfl) (show 7 < 8 by omega) ⟨rfl, by rw [saveC, if_pos (by omega)]⟩
theorem c_X1_restore (d : Nat) {E : xE} {σ : xS} {u : Nat} (hu : σ.1 10 1 = nI (u + 1)) (hu8 : u < 8) : Ct E (d + 2) yX1_restore cX1_restore 3 none [.ref (E.1 10), .ref (E.1 2)] σ none (backAt σ u) := by
  have e1 : xlen 11 = 152 := by decide
  have e2 : xlen 6 = 7 := by decide
  have e3 : xlen 5 = 7 := by decide
  have e4 : xlen 9 = 3 := by decide
  have ep : σ.1 10 1 - 1 = nI u := by rw [hu, nI_pred]
  have e0 : (xu σ 10 1 (nI u)).1 10 1 * 19 = nI (19 * u) := by simp [xu]; rw [show (19 : Int32) = nI 19 from rfl, pk_mul, Nat.mul_comm]
  refine Ct.of (by decide +kernel) (Nat.le_of_ble_eq_true rfl) rfl ?_
  show Ev E _ RX1 cX1_restore 3 _ 0 [some (.ref (E.1 10)), some (.ref (E.1 2)), none] [] _
  refine ev_aload_1 dX1_restore_0 ?_
  refine ev_ifnull dX1_restore_1 ?_
  refine ev_aload_0 dX1_restore_4 ?_
  refine ev_get dX1_restore_5 fk_X1_15 (by first | assumption | decide) (by decide) rfl ?_
  refine ev_if_gt 12 dX1_restore_8 rfl (fun h8 => ?_) (fun h8 => ?_)
  · refine ev_aload_0 dX1_restore_12 ?_
    refine ev_dup dX1_restore_13 rfl ?_
    refine ev_get dX1_restore_14 fk_X1_15 (by first | assumption | decide) (by decide) rfl ?_
    refine ev_iconst_1 dX1_restore_17 ?_
    refine ev_isub dX1_restore_18 ?_
    refine Ev.pc 19 rfl ?_
    refine ev_put dX1_restore_19 fk_X1_15 (by first | assumption | decide) (by decide) rfl ?_
    rw [ep]
    refine ev_aload_0 dX1_restore_22 ?_
    refine ev_get dX1_restore_23 fk_X1_15 (by first | assumption | decide) (by decide) rfl ?_
    refine ev_bipush (19) dX1_restore_26 rfl ?_
    refine ev_imul dX1_restore_28 ?_
    refine Ev.pc 29 rfl ?_
    refine ev_istore_2 dX1_restore_29 rfl ?_
    rw [e0]
    refine ev_aload_0 dX1_restore_30 ?_
    refine ev_get dX1_restore_31 fk_X1_11 (by first | assumption | decide) (by decide) rfl ?_
    refine ev_iload_2 dX1_restore_34 ?_
    refine ev_aload_1 dX1_restore_35 ?_
    refine Ev.pc 36 rfl ?_
    refine ev_get dX1_restore_36 fk_X1_27 (by first | assumption | decide) (by decide) rfl ?_
    refine ev_iconst_0 dX1_restore_39 ?_
    refine ev_bipush (7) dX1_restore_40 rfl ?_
    refine ev_invS dX1_restore_42 ml_X1_23 mt_X5_copyCells (c_X5_copyCells d (r1 := 11) (r2 := 6) (a := 19 * u) (b := 0) (n := 7) (by decide) (by decide) (by omega) (by omega)) rfl rfl (rm_ok (by omega)) (Nat.le_of_ble_eq_true rfl) ?_
    refine Ev.pc 45 rfl ?_
    refine ev_aload_0 dX1_restore_45 ?_
    refine Ev.pc 46 rfl ?_
    refine ev_get dX1_restore_46 fk_X1_11 (by first | assumption | decide) (by decide) rfl ?_
    refine ev_iload_2 dX1_restore_49 ?_
    refine ev_bipush (7) dX1_restore_50 rfl ?_
    refine ev_iadd dX1_restore_52 ?_
    refine ev_aload_1 dX1_restore_53 ?_
    refine Ev.pc 54 rfl ?_
    rw [show nI (19 * u) + 7 = nI (19 * u + 7) from nI_add _ 7]
    refine ev_get dX1_restore_54 fk_X1_32 (by first | assumption | decide) (by decide) rfl ?_
    refine ev_iconst_0 dX1_restore_57 ?_
    refine ev_bipush (7) dX1_restore_58 rfl ?_
    refine ev_invS dX1_restore_60 ml_X1_23 mt_X5_copyCells (c_X5_copyCells d (r1 := 11) (r2 := 5) (a := 19 * u + 7) (b := 0) (n := 7) (by decide) (by decide) (by omega) (by omega)) rfl rfl (rm_ok (by omega)) (Nat.le_of_ble_eq_true rfl) ?_
    refine Ev.pc 63 rfl ?_
    refine ev_aload_0 dX1_restore_63 ?_
    refine Ev.pc 64 rfl ?_
    refine ev_get dX1_restore_64 fk_X1_11 (by first | assumption | decide) (by decide) rfl ?_
    refine ev_iload_2 dX1_restore_67 ?_
    refine ev_bipush (14) dX1_restore_68 rfl ?_
    refine ev_iadd dX1_restore_70 ?_
    refine ev_aload_1 dX1_restore_71 ?_
    refine Ev.pc 72 rfl ?_
    rw [show nI (19 * u) + 14 = nI (19 * u + 14) from nI_add _ 14]
    refine ev_get dX1_restore_72 fk_X1_35 (by first | assumption | decide) (by decide) rfl ?_
    refine ev_iconst_0 dX1_restore_75 ?_
    refine ev_iconst_3 dX1_restore_76 ?_
    refine ev_invS dX1_restore_77 ml_X1_23 mt_X5_copyCells (c_X5_copyCells d (r1 := 11) (r2 := 9) (a := 19 * u + 14) (b := 0) (n := 3) (by decide) (by decide) (by omega) (by omega)) rfl rfl (rm_ok (by omega)) (Nat.le_of_ble_eq_true rfl) ?_
    refine Ev.pc 80 rfl ?_
    refine ev_aload_1 dX1_restore_80 ?_
    refine Ev.pc 81 rfl ?_
    refine ev_aload_0 dX1_restore_81 ?_
    refine ev_get dX1_restore_82 fk_X1_11 (by first | assumption | decide) (by decide) rfl ?_
    refine ev_iload_2 dX1_restore_85 ?_
    refine ev_bipush (17) dX1_restore_86 rfl ?_
    refine ev_iadd dX1_restore_88 ?_
    refine Ev.pc 89 rfl ?_
    refine ev_invS dX1_restore_89 ml_X1_48 mt_X5_at (c_X5_at d (by first | assumption | decide)) rfl rfl (rm_ok (by omega)) (Nat.le_of_ble_eq_true rfl) ?_
    rw [xat_eq (r := 11) (k := 19 * u + 17) (show nI (19 * u) + 17 = nI (19 * u + 17) from nI_add _ 17) (by omega)]
    refine Ev.pc 92 rfl ?_
    refine ev_put dX1_restore_92 fk_X1_38 (by first | assumption | decide) (by decide) rfl ?_
    refine ev_aload_1 dX1_restore_95 ?_
    refine ev_aload_0 dX1_restore_96 ?_
    refine ev_get dX1_restore_97 fk_X1_11 (by first | assumption | decide) (by decide) rfl ?_
    refine Ev.pc 100 rfl ?_
    refine ev_iload_2 dX1_restore_100 ?_
    refine ev_bipush (18) dX1_restore_101 rfl ?_
    refine ev_iadd dX1_restore_103 ?_
    refine ev_invS dX1_restore_104 ml_X1_48 mt_X5_at (c_X5_at d (by first | assumption | decide)) rfl rfl (rm_ok (by omega)) (Nat.le_of_ble_eq_true rfl) ?_
    rw [xat_eq (r := 11) (k := 19 * u + 18) (show nI (19 * u) + 18 = nI (19 * u + 18) from nI_add _ 18) (by omega)]
    refine Ev.pc 107 rfl ?_
    refine ev_put dX1_restore_107 fk_X1_45 (by first | assumption | decide) (by decide) rfl ?_
    refine Ev.pc 110 rfl ?_
    exact ev_return dX1_restore_110 ⟨by rfl, by (simp [backAt, xu, xrow])⟩
  · exact absurd (by rw [hu]; exact (show nI 0 < nI (u + 1) from nI_lt (by omega) (by omega))) h8
def PastAt (i : Nat) : Prop := (i < xN ∧ xcls i = 1) ∧ (i + 1 < xN ∧ xcls (i + 1) = 7) ∧ xlen (i + 1) = 152
theorem c_X1_take (d : Nat) {E : xE} {σ : xS} {i j : Nat} (hi : PastAt i) (hj : PastAt j) : Ct E (d + 3) yX1_take cX1_take 2 none [.ref (E.1 i), .ref (E.1 j)] σ none (cpF (cpRow σ (j + 1) (i + 1)) j i 1) := by
  obtain ⟨a0, a1, a2⟩ := id hi
  obtain ⟨b0, b1, b2⟩ := id hj
  refine Ct.of (by decide +kernel) (Nat.le_of_ble_eq_true rfl) rfl ?_
  show Ev E _ RX1 cX1_take 2 _ 0 [some (.ref (E.1 i)), some (.ref (E.1 j))] [] _
  refine ev_aload_1 dX1_take_0 ?_
  refine ev_ifnonnull 5 dX1_take_1 rfl ?_
  refine ev_aload_1 dX1_take_5 ?_
  refine ev_get dX1_take_6 fk_X1_11 (by first | assumption | decide) (by decide) rfl ?_
  refine ev_aload_0 dX1_take_9 ?_
  refine ev_get dX1_take_10 fk_X1_11 (by first | assumption | decide) (by decide) rfl ?_
  refine Ev.pc 13 rfl ?_
  refine ev_invS dX1_take_13 ml_X1_19 mt_X5_copyRow (c_X5_copyRow d (by assumption) (by assumption) (by omega)) rfl rfl (rm_ok (by omega)) (Nat.le_of_ble_eq_true rfl) ?_
  refine Ev.pc 16 rfl ?_
  refine ev_aload_0 dX1_take_16 ?_
  refine ev_aload_1 dX1_take_17 ?_
  refine ev_get dX1_take_18 fk_X1_15 (by first | assumption | decide) (by decide) rfl ?_
  refine ev_put dX1_take_21 fk_X1_15 (by first | assumption | decide) (by decide) rfl ?_
  refine Ev.pc 24 rfl ?_
  exact ev_return dX1_take_24 ⟨by rfl, by rfl⟩
/-! a shop: 17 cells from b on -/
def ShopAt (b : Nat) : Prop := (b < xN ∧ xcls b = 3) ∧ TownAt (b + 1) ∧ PastAt (b + 9) ∧ HintAt (b + 11) ∧ HintAt (b + 13) ∧ HintAt (b + 15) ∧ xlen (b + 12) = 20 ∧ xlen (b + 14) = 24 ∧ xlen (b + 16) = 24
theorem past_all : PastAt 10 ∧ PastAt 27 ∧ PastAt 44 := by unfold PastAt; decide +kernel
theorem shop_1 : ShopAt 1 := ⟨by decide +kernel, town_now, past_all.1, hint_all.1, hint_all.2.1, hint_all.2.2.1, by decide +kernel⟩
theorem shop_18 : ShopAt 18 := ⟨by decide +kernel, town_i0, past_all.2.1, hint_all.2.2.2.1, hint_all.2.2.2.2.1, hint_all.2.2.2.2.2.1, by decide +kernel⟩
theorem shop_35 : ShopAt 35 := ⟨by decide +kernel, town_i1, past_all.2.2, hint_all.2.2.2.2.2.2.1, hint_all.2.2.2.2.2.2.2.1, hint_all.2.2.2.2.2.2.2.2, by decide +kernel⟩
def emptyS (σ : xS) : xS :=
  let s := xu (xu (xu (xu (xu σ 2 7 0) 2 8 0) 2 9 0) 2 10 0) 2 11 0
  xu (xu (xu (xu s 10 1 0) 12 2 0) 14 2 0) 16 2 0
theorem c_X3_empty (d : Nat) {E : xE} {σ : xS} : Ct E (d + 1) yX3_empty cX3_empty 1 none [.ref (E.1 1)] σ none (emptyS σ) := by
  refine Ct.of (by decide +kernel) (Nat.le_of_ble_eq_true rfl) rfl ?_
  show Ev E _ RX3 cX3_empty 1 _ 0 [some (.ref (E.1 1))] [] _
  refine ev_aload_0 dX3_empty_0 ?_
  refine ev_get dX3_empty_1 fk_X3_12 (by first | assumption | decide) (by decide) rfl ?_
  refine ev_invV (ci := 4) dX3_empty_4 ml_X3_44 mt_X4_empty (c_X4_empty d (by first | assumption | decide)) (by first | assumption | decide) (by decide) rfl rfl rfl (rm_ok (by omega)) (Nat.le_of_ble_eq_true rfl) ?_
  refine Ev.pc 7 rfl ?_
  refine ev_aload_0 dX3_empty_7 ?_
  refine ev_get dX3_empty_8 fk_X3_21 (by first | assumption | decide) (by decide) rfl ?_
  refine Ev.pc 11 rfl ?_
  refine ev_iconst_0 dX3_empty_11 ?_
  refine ev_put dX3_empty_12 fk_X3_47 (by first | assumption | decide) (by decide) rfl ?_
  refine ev_aload_0 dX3_empty_15 ?_
  refine ev_get dX3_empty_16 fk_X3_30 (by first | assumption | decide) (by decide) rfl ?_
  refine ev_iconst_0 dX3_empty_19 ?_
  refine Ev.pc 20 rfl ?_
  refine ev_put dX3_empty_20 fk_X3_51 (by first | assumption | decide) (by decide) rfl ?_
  refine ev_aload_0 dX3_empty_23 ?_
  refine ev_get dX3_empty_24 fk_X3_34 (by first | assumption | decide) (by decide) rfl ?_
  refine ev_iconst_0 dX3_empty_27 ?_
  refine ev_put dX3_empty_28 fk_X3_51 (by first | assumption | decide) (by decide) rfl ?_
  refine Ev.pc 31 rfl ?_
  refine ev_aload_0 dX3_empty_31 ?_
  refine ev_get dX3_empty_32 fk_X3_37 (by first | assumption | decide) (by decide) rfl ?_
  refine ev_iconst_0 dX3_empty_35 ?_
  refine ev_put dX3_empty_36 fk_X3_51 (by first | assumption | decide) (by decide) rfl ?_
  exact ev_return dX3_empty_39 ⟨by rfl, by rfl⟩
def cpShop (σ : xS) (b c : Nat) : xS :=
  let s0 := cpTown σ (b + 1) (c + 1)
  let s1 := cpF (cpRow s0 (c + 10) (b + 10)) (c + 9) (b + 9) 1
  let s2 := cpF (cpRow s1 (c + 12) (b + 12)) (c + 11) (b + 11) 2
  let s3 := cpF (cpRow s2 (c + 14) (b + 14)) (c + 13) (b + 13) 2
  cpF (cpRow s3 (c + 16) (b + 16)) (c + 15) (b + 15) 2
theorem c_X3_take (d : Nat) {E : xE} {σ : xS} {b c : Nat} (hb : ShopAt b) (hc : ShopAt c) : Ct E (d + 4) yX3_take cX3_take 2 none [.ref (E.1 b), .ref (E.1 c)] σ none (cpShop σ b c) := by
  obtain ⟨a0, a1, a2, a3, a4, a5, a6, a7, a8⟩ := id hb
  obtain ⟨b0, b1, b2, b3, b4, b5, b6, b7, b8⟩ := id hc
  have q1 := a1.1
  have q2 := a2.1
  have q3 := a3.1
  have q4 := a4.1
  have q5 := a5.1
  refine Ct.of (by decide +kernel) (Nat.le_of_ble_eq_true rfl) rfl ?_
  show Ev E _ RX3 cX3_take 2 _ 0 [some (.ref (E.1 b)), some (.ref (E.1 c))] [] _
  refine ev_aload_1 dX3_take_0 ?_
  refine ev_ifnonnull 5 dX3_take_1 rfl ?_
  refine ev_aload_0 dX3_take_5 ?_
  refine ev_get dX3_take_6 fk_X3_12 (by first | assumption | decide) (by decide) rfl ?_
  refine ev_aload_1 dX3_take_9 ?_
  refine ev_get dX3_take_10 fk_X3_12 (by first | assumption | decide) (by decide) rfl ?_
  refine Ev.pc 13 rfl ?_
  refine ev_invV (ci := 4) dX3_take_13 ml_X3_54 mt_X4_take (c_X4_take d a1 b1) (by first | assumption | decide) (by decide) rfl rfl rfl (rm_ok (by omega)) (Nat.le_of_ble_eq_true rfl) ?_
  refine Ev.pc 16 rfl ?_
  refine ev_aload_0 dX3_take_16 ?_
  refine ev_get dX3_take_17 fk_X3_21 (by first | assumption | decide) (by decide) rfl ?_
  refine ev_aload_1 dX3_take_20 ?_
  refine ev_get dX3_take_21 fk_X3_21 (by first | assumption | decide) (by decide) rfl ?_
  refine Ev.pc 24 rfl ?_
  refine ev_invV (ci := 1) dX3_take_24 ml_X3_58 mt_X1_take (c_X1_take d a2 b2) (by first | assumption | decide) (by decide) rfl rfl rfl (rm_ok (by omega)) (Nat.le_of_ble_eq_true rfl) ?_
  refine Ev.pc 27 rfl ?_
  refine ev_aload_0 dX3_take_27 ?_
  refine ev_get dX3_take_28 fk_X3_30 (by first | assumption | decide) (by decide) rfl ?_
  refine ev_aload_1 dX3_take_31 ?_
  refine ev_get dX3_take_32 fk_X3_30 (by first | assumption | decide) (by decide) rfl ?_
  refine Ev.pc 35 rfl ?_
  refine ev_invV (ci := 0) dX3_take_35 ml_X3_61 mt_X0_take (c_X0_take d a3 b3 (a6.trans b6.symm)) (by first | assumption | decide) (by decide) rfl rfl rfl (rm_ok (by omega)) (Nat.le_of_ble_eq_true rfl) ?_
  refine Ev.pc 38 rfl ?_
  refine ev_aload_0 dX3_take_38 ?_
  refine ev_get dX3_take_39 fk_X3_34 (by first | assumption | decide) (by decide) rfl ?_
  refine ev_aload_1 dX3_take_42 ?_
  refine ev_get dX3_take_43 fk_X3_34 (by first | assumption | decide) (by decide) rfl ?_
  refine Ev.pc 46 rfl ?_
  refine ev_invV (ci := 0) dX3_take_46 ml_X3_61 mt_X0_take (c_X0_take d a4 b4 (a7.trans b7.symm)) (by first | assumption | decide) (by decide) rfl rfl rfl (rm_ok (by omega)) (Nat.le_of_ble_eq_true rfl) ?_
  refine Ev.pc 49 rfl ?_
  refine ev_aload_0 dX3_take_49 ?_
  refine ev_get dX3_take_50 fk_X3_37 (by first | assumption | decide) (by decide) rfl ?_
  refine ev_aload_1 dX3_take_53 ?_
  refine ev_get dX3_take_54 fk_X3_37 (by first | assumption | decide) (by decide) rfl ?_
  refine Ev.pc 57 rfl ?_
  refine ev_invV (ci := 0) dX3_take_57 ml_X3_61 mt_X0_take (c_X0_take d a5 b5 (a8.trans b8.symm)) (by first | assumption | decide) (by decide) rfl rfl rfl (rm_ok (by omega)) (Nat.le_of_ble_eq_true rfl) ?_
  refine Ev.pc 60 rfl ?_
  exact ev_return dX3_take_60 ⟨by rfl, by rfl⟩
def hintId (w : Int32) : Nat := if w = 1 then 14 else if w = 2 then 16 else 12
theorem c_X3_hintsOf (d : Nat) {E : xE} {σ : xS} {w : Int32} : Ct E d yX3_hintsOf cX3_hintsOf 2 (some (.object "PledgeWindow$Hints")) [.ref (E.1 1), .int w] σ (some (.ref (E.1 (hintId w)))) σ := by
  refine Ct.of (by decide +kernel) (Nat.le_of_ble_eq_true rfl) ⟨_, rfl, Or.inl ⟨_, rfl⟩⟩ ?_
  show Ev E _ RX3 cX3_hintsOf 2 _ 0 [some (.ref (E.1 1)), some (.int w)] [] _
  refine ev_iload_1 dX3_hintsOf_0 ?_
  refine sw_X3_hintsOf_1 (fun h1 => ?_) (fun h1 => ?_) (fun h1_1 h1_2 => ?_)
  · refine ev_aload_0 dX3_hintsOf_28 ?_
    refine ev_get dX3_hintsOf_29 fk_X3_34 (by first | assumption | decide) (by decide) rfl ?_
    exact ev_areturn dX3_hintsOf_32 ⟨by (simp [hintId, *]), by rfl⟩
  · refine ev_aload_0 dX3_hintsOf_33 ?_
    refine ev_get dX3_hintsOf_34 fk_X3_37 (by first | assumption | decide) (by decide) rfl ?_
    exact ev_areturn dX3_hintsOf_37 ⟨by (simp [hintId, *]), by rfl⟩
  · refine ev_aload_0 dX3_hintsOf_38 ?_
    refine ev_get dX3_hintsOf_39 fk_X3_30 (by first | assumption | decide) (by decide) rfl ?_
    exact ev_areturn dX3_hintsOf_42 ⟨by (simp [hintId, *]), by rfl⟩
