/-! the reference: buyers, good, joy, days, buys, keeps, undo -/
def mBuyer (σ : xS) (H : Nat) (w : Int32) : Int32 × xS :=
  if btw w 0 999 then (if H = 3 then (-4, mFull σ) else (nI H, xrow σ 74 (upd (upd (upd (σ.1 74) (21 + H) w) 2 (nI (H + 1))) 6 0))) else (-2, mBad σ)
theorem c_X6_buyer (d : Nat) {E : xE} {σ : xS} {H : Nat} {w : Int32} (hH : σ.1 74 2 = nI H) (hH4 : H ≤ 3) : Ct E (d + 1) yX6_buyer cX6_buyer 2 (some .int) [.ref (E.1 73), .int w] σ (some (.int (mBuyer σ H w).1)) (mBuyer σ H w).2 := by
  by_cases q7 : H = 3
  ·
    refine Ct.of (by decide +kernel) (Nat.le_of_ble_eq_true rfl) ⟨_, rfl, rfl⟩ ?_
    show Ev E _ RX6 cX6_buyer 2 _ 0 [some (.ref (E.1 73)), some (.int w)] [] _
    refine ev_iload_1 dX6_buyer_0 ?_
    refine ev_i2l dX6_buyer_1 ?_
    refine ev_lconst_0 dX6_buyer_2 ?_
    refine ev_ldc2_w dX6_buyer_3 cn_X6_82 ?_
    refine ev_invS dX6_buyer_6 ml_X6_56 mt_X6_in (c_X6_in d (v := w) (lo := 0) (hi := 999) (by first | rfl | decide) (by first | rfl | decide) (by first | rfl | decide)) rfl rfl (rm_ok (by omega)) (Nat.le_of_ble_eq_true rfl) ?_
    refine Ev.pc 9 rfl ?_
    refine ev_if_ne 19 dX6_buyer_9 rfl (fun h9 => ?_) (fun h9 => ?_)
    · refine ev_aload_0 dX6_buyer_19 ?_
      refine ev_get dX6_buyer_20 fk_X6_7 (by first | assumption | decide) (by decide) rfl ?_
      refine ev_iconst_2 dX6_buyer_23 ?_
      refine ev_aldL (n := 2) dX6_buyer_24 (by first | assumption | decide) (by have := xls; omega) ?_
      refine ev_iconst_3 dX6_buyer_25 ?_
      refine Ev.pc 26 rfl ?_
      refine ev_icmp_ne 34 dX6_buyer_26 rfl (fun h26 => ?_) (fun h26 => ?_)
      · exact absurd (show σ.1 74 2 = 3 by rw [hH, q7]; rfl) h26
      · refine ev_aload_0 dX6_buyer_29 ?_
        refine ev_invV (ci := 6) dX6_buyer_30 ml_X6_75 mt_X6_full (c_X6_full d) (by first | assumption | decide) (by decide) rfl rfl rfl (rm_ok (by omega)) (Nat.le_of_ble_eq_true rfl) ?_
        refine Ev.pc 33 rfl ?_
        exact ev_ireturn dX6_buyer_33 ⟨by ((try simp only [b2i_0, b2i_1, Decidable.not_not] at *); simp only [mBuyer]; repeat' (first | with_reducible rfl | contradiction | (exfalso; simp_all; done) | split)), by ((try simp only [b2i_0, b2i_1, Decidable.not_not] at *); simp only [mBuyer]; repeat' (first | with_reducible rfl | contradiction | (exfalso; simp_all; done) | split))⟩
    · refine ev_aload_0 dX6_buyer_12 ?_
      refine ev_bipush (-2) dX6_buyer_13 rfl ?_
      refine ev_invV (ci := 6) dX6_buyer_15 ml_X6_71 mt_X6_bad (c_X6_bad d) (by first | assumption | decide) (by decide) rfl rfl rfl (rm_ok (by omega)) (Nat.le_of_ble_eq_true rfl) ?_
      refine Ev.pc 18 rfl ?_
      exact ev_ireturn dX6_buyer_18 ⟨by ((try simp only [b2i_0, b2i_1, Decidable.not_not] at *); simp only [mBuyer]; repeat' (first | with_reducible rfl | contradiction | (exfalso; simp_all; done) | split)), by ((try simp only [b2i_0, b2i_1, Decidable.not_not] at *); simp only [mBuyer]; repeat' (first | with_reducible rfl | contradiction | (exfalso; simp_all; done) | split))⟩
  ·
    refine Ct.of (by decide +kernel) (Nat.le_of_ble_eq_true rfl) ⟨_, rfl, rfl⟩ ?_
    show Ev E _ RX6 cX6_buyer 2 _ 0 [some (.ref (E.1 73)), some (.int w)] [] _
    refine ev_iload_1 dX6_buyer_0 ?_
    refine ev_i2l dX6_buyer_1 ?_
    refine ev_lconst_0 dX6_buyer_2 ?_
    refine ev_ldc2_w dX6_buyer_3 cn_X6_82 ?_
    refine ev_invS dX6_buyer_6 ml_X6_56 mt_X6_in (c_X6_in d (v := w) (lo := 0) (hi := 999) (by first | rfl | decide) (by first | rfl | decide) (by first | rfl | decide)) rfl rfl (rm_ok (by omega)) (Nat.le_of_ble_eq_true rfl) ?_
    refine Ev.pc 9 rfl ?_
    refine ev_if_ne 19 dX6_buyer_9 rfl (fun h9 => ?_) (fun h9 => ?_)
    · refine ev_aload_0 dX6_buyer_19 ?_
      refine ev_get dX6_buyer_20 fk_X6_7 (by first | assumption | decide) (by decide) rfl ?_
      refine ev_iconst_2 dX6_buyer_23 ?_
      refine ev_aldL (n := 2) dX6_buyer_24 (by first | assumption | decide) (by have := xls; omega) ?_
      refine ev_iconst_3 dX6_buyer_25 ?_
      refine Ev.pc 26 rfl ?_
      refine ev_icmp_ne 34 dX6_buyer_26 rfl (fun h26 => ?_) (fun h26 => ?_)
      · refine ev_aload_0 dX6_buyer_34 ?_
        refine ev_get dX6_buyer_35 fk_X6_7 (by first | assumption | decide) (by decide) rfl ?_
        refine ev_bipush (21) dX6_buyer_38 rfl ?_
        refine ev_aload_0 dX6_buyer_40 ?_
        refine ev_get dX6_buyer_41 fk_X6_7 (by first | assumption | decide) (by decide) rfl ?_
        refine Ev.pc 44 rfl ?_
        refine ev_iconst_2 dX6_buyer_44 ?_
        refine ev_aldL (n := 2) dX6_buyer_45 (by first | assumption | decide) (by have := xls; omega) ?_
        rw [hH]
        refine ev_iadd dX6_buyer_46 ?_
        refine ev_iload_1 dX6_buyer_47 ?_
        refine ev_astA (n := 21) dX6_buyer_48 (by first | assumption | decide) (by have := xls; omega) ?_
        refine Ev.pc 49 rfl ?_
        refine ev_aload_0 dX6_buyer_49 ?_
        refine ev_get dX6_buyer_50 fk_X6_7 (by first | assumption | decide) (by decide) rfl ?_
        refine ev_iconst_2 dX6_buyer_53 ?_
        refine ev_dup2 dX6_buyer_54 rfl rfl ?_
        refine ev_aldL (n := 2) dX6_buyer_55 (by first | assumption | decide) (by have := xls; omega) ?_
        refine Ev.pc 56 rfl ?_
        simp only [xrow_row, xrow_at]
        rw [upd_ne _ _ (by omega), hH]
        refine ev_iconst_1 dX6_buyer_56 ?_
        refine ev_iadd dX6_buyer_57 ?_
        rw [nI_1]
        refine ev_astL (n := 2) dX6_buyer_58 (by first | assumption | decide) (by have := xls; omega) ?_
        simp only [xrow_row, xrow_at]
        refine ev_aload_0 dX6_buyer_59 ?_
        refine ev_get dX6_buyer_60 fk_X6_7 (by first | assumption | decide) (by decide) rfl ?_
        refine Ev.pc 63 rfl ?_
        refine ev_bipush (6) dX6_buyer_63 rfl ?_
        refine ev_iconst_0 dX6_buyer_65 ?_
        refine ev_astL (n := 6) dX6_buyer_66 (by first | assumption | decide) (by have := xls; omega) ?_
        simp only [xrow_row, xrow_at]
        refine ev_aload_0 dX6_buyer_67 ?_
        refine ev_get dX6_buyer_68 fk_X6_7 (by first | assumption | decide) (by decide) rfl ?_
        refine Ev.pc 71 rfl ?_
        refine ev_iconst_2 dX6_buyer_71 ?_
        refine ev_aldL (n := 2) dX6_buyer_72 (by first | assumption | decide) (by have := xls; omega) ?_
        rw [xrow_at, upd_ne _ _ (by omega), upd_at]
        refine ev_iconst_1 dX6_buyer_73 ?_
        refine ev_isub dX6_buyer_74 ?_
        exact ev_ireturn dX6_buyer_75 ⟨by (rw [nI_pred]; ((try simp only [b2i_0, b2i_1, Decidable.not_not] at *); simp only [mBuyer]; repeat' (first | with_reducible rfl | contradiction | (exfalso; simp_all; done) | split))), by ((try simp only [b2i_0, b2i_1, Decidable.not_not] at *); simp only [mBuyer]; repeat' (first | with_reducible rfl | contradiction | (exfalso; simp_all; done) | split))⟩
      · exact absurd ((nI_eq (a := H) (b := 3) (by omega) (by omega)).mp (by rw [← hH]; exact h26)) q7
    · refine ev_aload_0 dX6_buyer_12 ?_
      refine ev_bipush (-2) dX6_buyer_13 rfl ?_
      refine ev_invV (ci := 6) dX6_buyer_15 ml_X6_71 mt_X6_bad (c_X6_bad d) (by first | assumption | decide) (by decide) rfl rfl rfl (rm_ok (by omega)) (Nat.le_of_ble_eq_true rfl) ?_
      refine Ev.pc 18 rfl ?_
      exact ev_ireturn dX6_buyer_18 ⟨by ((try simp only [b2i_0, b2i_1, Decidable.not_not] at *); simp only [mBuyer]; repeat' (first | with_reducible rfl | contradiction | (exfalso; simp_all; done) | split)), by ((try simp only [b2i_0, b2i_1, Decidable.not_not] at *); simp only [mBuyer]; repeat' (first | with_reducible rfl | contradiction | (exfalso; simp_all; done) | split))⟩
def goldM (v l : Int32) : Int32 := v + (if 5 < l / 10 then 5 else l / 10)
def tinM (v l : Int32) : Int32 := if l / 5 < v then v - l / 5 else 0
def goodM (k v l : Int32) : Int32 :=
  if k = 1 then goldM v l else if k = 2 then tinM v l else if k = 3 then (if tinM v l < 2 then 2 else tinM v l) else if k = 4 then (if l < 7 then 0 else v + 3) else if k = 5 then (if 25 < 2 * goldM v l then 25 else 2 * goldM v l) else v
theorem c_X6_goodAs (d : Nat) {E : xE} {σ : xS} {k v l : Int32} : Ct E d yX6_goodAs cX6_goodAs 5 (some .int) [.int k, .int v, .int l] σ (some (.int (goodM k v l))) σ := by
  have G : ∀ gg tt, goldM v l = gg → tinM v l = tt → Ev E (rm d) RX6 cX6_goodAs 5 (fun v1 t => v1 = some (.int (goodM k v l)) ∧ t = σ) 37 [some (.int k), some (.int v), some (.int l), some (.int gg), some (.int tt)] [] σ := by
    intro gg tt hgg htt
    refine ev_iload_0 dX6_goodAs_37 ?_
    refine sw_X6_goodAs_38 (fun h38 => ?_) (fun h38 => ?_) (fun h38 => ?_) (fun h38 => ?_) (fun h38 => ?_) (fun h38_1 h38_2 h38_3 h38_4 h38_5 => ?_)
    · refine ev_iload_3 dX6_goodAs_72 ?_
      exact ev_ireturn dX6_goodAs_73 ⟨by ((try simp only [← i_nlt] at *); first | (simp [goodM, *]; done) | (simp [goodM, *]; rfl)), by rfl⟩
    · refine ev_iload_4 dX6_goodAs_74 ?_
      exact ev_ireturn dX6_goodAs_76 ⟨by ((try simp only [← i_nlt] at *); first | (simp [goodM, *]; done) | (simp [goodM, *]; rfl)), by rfl⟩
    · refine ev_iload_4 dX6_goodAs_77 ?_
      refine ev_iconst_2 dX6_goodAs_79 ?_
      refine ev_icmp_ge 87 dX6_goodAs_80 rfl (fun h80 => ?_) (fun h80 => ?_)
      · refine ev_iload_4 dX6_goodAs_87 ?_
        exact ev_ireturn dX6_goodAs_89 ⟨by ((try simp only [← i_nlt] at *); first | (simp [goodM, *]; done) | (simp [goodM, *]; rfl)), by rfl⟩
      · refine ev_iconst_2 dX6_goodAs_83 ?_
        refine ev_goto 89 dX6_goodAs_84 rfl ?_
        exact ev_ireturn dX6_goodAs_89 ⟨by ((try simp only [← i_nlt] at *); first | (simp [goodM, *]; done) | (simp [goodM, *]; rfl)), by rfl⟩
    · refine ev_iload_2 dX6_goodAs_90 ?_
      refine ev_bipush (7) dX6_goodAs_91 rfl ?_
      refine ev_icmp_ge 100 dX6_goodAs_93 rfl (fun h93 => ?_) (fun h93 => ?_)
      · refine ev_iload_1 dX6_goodAs_100 ?_
        refine ev_iconst_3 dX6_goodAs_101 ?_
        refine ev_iadd dX6_goodAs_102 ?_
        exact ev_ireturn dX6_goodAs_103 ⟨by ((try simp only [← i_nlt] at *); first | (simp [goodM, *]; done) | (simp [goodM, *]; rfl)), by rfl⟩
      · refine ev_iconst_0 dX6_goodAs_96 ?_
        refine ev_goto 103 dX6_goodAs_97 rfl ?_
        exact ev_ireturn dX6_goodAs_103 ⟨by ((try simp only [← i_nlt] at *); first | (simp [goodM, *]; done) | (simp [goodM, *]; rfl)), by rfl⟩
    · refine ev_iconst_2 dX6_goodAs_104 ?_
      refine ev_iload_3 dX6_goodAs_105 ?_
      refine ev_imul dX6_goodAs_106 ?_
      refine ev_bipush (25) dX6_goodAs_107 rfl ?_
      refine ev_icmp_le 117 dX6_goodAs_109 rfl (fun h109 => ?_) (fun h109 => ?_)
      · refine ev_iconst_2 dX6_goodAs_117 ?_
        refine ev_iload_3 dX6_goodAs_118 ?_
        refine ev_imul dX6_goodAs_119 ?_
        exact ev_ireturn dX6_goodAs_120 ⟨by ((try simp only [← i_nlt] at *); first | (simp [goodM, *]; done) | (simp [goodM, *]; rfl)), by rfl⟩
      · refine ev_bipush (25) dX6_goodAs_112 rfl ?_
        refine ev_goto 120 dX6_goodAs_114 rfl ?_
        exact ev_ireturn dX6_goodAs_120 ⟨by ((try simp only [← i_nlt] at *); first | (simp [goodM, *]; done) | (simp [goodM, *]; rfl)), by rfl⟩
    · refine ev_iload_1 dX6_goodAs_121 ?_
      exact ev_ireturn dX6_goodAs_122 ⟨by ((try simp only [← i_nlt] at *); first | (simp [goodM, *]; done) | (simp [goodM, *]; rfl)), by rfl⟩
  refine Ct.of (by decide +kernel) (Nat.le_of_ble_eq_true rfl) ⟨_, rfl, rfl⟩ ?_
  show Ev E _ RX6 cX6_goodAs 5 _ 0 [some (.int k), some (.int v), some (.int l), none, none] [] _
  refine ev_iload_1 dX6_goodAs_0 ?_
  refine ev_iload_2 dX6_goodAs_1 ?_
  refine ev_bipush (10) dX6_goodAs_2 rfl ?_
  refine ev_idiv dX6_goodAs_4 (by decide) ?_
  refine ev_iconst_5 dX6_goodAs_5 ?_
  refine Ev.pc 6 rfl ?_
  refine ev_icmp_le 13 dX6_goodAs_6 rfl (fun h6 => ?_) (fun h6 => ?_)
  · refine ev_iload_2 dX6_goodAs_13 ?_
    refine ev_bipush (10) dX6_goodAs_14 rfl ?_
    refine ev_idiv dX6_goodAs_16 (by decide) ?_
    refine ev_iadd dX6_goodAs_17 ?_
    refine ev_istore_3 dX6_goodAs_18 rfl ?_
    refine Ev.pc 19 rfl ?_
    refine ev_iload_1 dX6_goodAs_19 ?_
    refine ev_iload_2 dX6_goodAs_20 ?_
    refine ev_iconst_5 dX6_goodAs_21 ?_
    refine ev_idiv dX6_goodAs_22 (by decide) ?_
    refine ev_icmp_le 34 dX6_goodAs_23 rfl (fun h23 => ?_) (fun h23 => ?_)
    · refine ev_iconst_0 dX6_goodAs_34 ?_
      refine ev_istore_4 dX6_goodAs_35 rfl ?_
      refine G _ _ ?_ ?_
      · first | rw [goldM, if_pos (i_nle.mp h6)] | rw [goldM, if_neg (i_nlt.mpr h6)]
      · first | rw [tinM, if_pos (i_nle.mp h23)] | rw [tinM, if_neg (i_nlt.mpr h23)]
    · refine ev_iload_1 dX6_goodAs_26 ?_
      refine ev_iload_2 dX6_goodAs_27 ?_
      refine ev_iconst_5 dX6_goodAs_28 ?_
      refine ev_idiv dX6_goodAs_29 (by decide) ?_
      refine ev_isub dX6_goodAs_30 ?_
      refine Ev.pc 31 rfl ?_
      refine ev_goto 35 dX6_goodAs_31 rfl ?_
      refine ev_istore_4 dX6_goodAs_35 rfl ?_
      refine G _ _ ?_ ?_
      · first | rw [goldM, if_pos (i_nle.mp h6)] | rw [goldM, if_neg (i_nlt.mpr h6)]
      · first | rw [tinM, if_pos (i_nle.mp h23)] | rw [tinM, if_neg (i_nlt.mpr h23)]
  · refine ev_iconst_5 dX6_goodAs_9 ?_
    refine ev_goto 17 dX6_goodAs_10 rfl ?_
    refine ev_iadd dX6_goodAs_17 ?_
    refine ev_istore_3 dX6_goodAs_18 rfl ?_
    refine ev_iload_1 dX6_goodAs_19 ?_
    refine ev_iload_2 dX6_goodAs_20 ?_
    refine Ev.pc 21 rfl ?_
    refine ev_iconst_5 dX6_goodAs_21 ?_
    refine ev_idiv dX6_goodAs_22 (by decide) ?_
    refine ev_icmp_le 34 dX6_goodAs_23 rfl (fun h23 => ?_) (fun h23 => ?_)
    · refine ev_iconst_0 dX6_goodAs_34 ?_
      refine ev_istore_4 dX6_goodAs_35 rfl ?_
      refine G _ _ ?_ ?_
      · first | rw [goldM, if_pos (i_nle.mp h6)] | rw [goldM, if_neg (i_nlt.mpr h6)]
      · first | rw [tinM, if_pos (i_nle.mp h23)] | rw [tinM, if_neg (i_nlt.mpr h23)]
    · refine ev_iload_1 dX6_goodAs_26 ?_
      refine ev_iload_2 dX6_goodAs_27 ?_
      refine ev_iconst_5 dX6_goodAs_28 ?_
      refine ev_idiv dX6_goodAs_29 (by decide) ?_
      refine ev_isub dX6_goodAs_30 ?_
      refine Ev.pc 31 rfl ?_
      refine ev_goto 35 dX6_goodAs_31 rfl ?_
      refine ev_istore_4 dX6_goodAs_35 rfl ?_
      refine G _ _ ?_ ?_
      · first | rw [goldM, if_pos (i_nle.mp h6)] | rw [goldM, if_neg (i_nlt.mpr h6)]
      · first | rw [tinM, if_pos (i_nle.mp h23)] | rw [tinM, if_neg (i_nlt.mpr h23)]
def plainM (g w : Int32) : Int32 := if (if w < g then g - w else w - g) < 6 then 6 - (if w < g then g - w else w - g) else 0
def brideM (g w : Int32) : Int32 := if w ≤ g then plainM g w + 2 else plainM g w
def motherM (g w : Int32) : Int32 := if plainM g w < 3 then 3 else plainM g w
def joyM (k g w : Int32) : Int32 :=
  if k = 1 then brideM g w else if k = 2 then motherM g w else if k = 3 then (brideM g w + 1) / 2 else if k = 4 then (if g < 4 then 0 else plainM g w) else if k = 5 then 2 * motherM g w else plainM g w
theorem c_X6_joyAs (d : Nat) {E : xE} {σ : xS} {k g w : Int32} : Ct E d yX6_joyAs cX6_joyAs 7 (some .int) [.int k, .int g, .int w] σ (some (.int (joyM k g w))) σ := by
  have G61 : ∀ far pl br mo, plainM g w = pl → brideM g w = br → motherM g w = mo → Ev E (rm d) RX6 cX6_joyAs 7 (fun v1 t => v1 = some (.int (joyM k g w)) ∧ t = σ) 61 [some (.int k), some (.int g), some (.int w), some (.int far), some (.int pl), some (.int br), some (.int mo)] [] σ := by
    intro far pl br mo hpl hbr hmo
    refine ev_iload_0 dX6_joyAs_61 ?_
    refine sw_X6_joyAs_62 (fun h62 => ?_) (fun h62 => ?_) (fun h62 => ?_) (fun h62 => ?_) (fun h62 => ?_) (fun h62_1 h62_2 h62_3 h62_4 h62_5 => ?_)
    · refine ev_iload_5 dX6_joyAs_96 ?_
      exact ev_ireturn dX6_joyAs_98 ⟨by ((try simp only [← i_nlt] at *); first | (simp [joyM, *]; done) | (simp [joyM, *]; rfl)), by rfl⟩
    · refine ev_iload_6 dX6_joyAs_99 ?_
      exact ev_ireturn dX6_joyAs_101 ⟨by ((try simp only [← i_nlt] at *); first | (simp [joyM, *]; done) | (simp [joyM, *]; rfl)), by rfl⟩
    · refine ev_iload_5 dX6_joyAs_102 ?_
      refine ev_iconst_1 dX6_joyAs_104 ?_
      refine ev_iadd dX6_joyAs_105 ?_
      refine ev_iconst_2 dX6_joyAs_106 ?_
      refine ev_idiv dX6_joyAs_107 (by decide) ?_
      refine Ev.pc 108 rfl ?_
      exact ev_ireturn dX6_joyAs_108 ⟨by ((try simp only [← i_nlt] at *); first | (simp [joyM, *]; done) | (simp [joyM, *]; rfl)), by rfl⟩
    · refine ev_iload_1 dX6_joyAs_109 ?_
      refine ev_iconst_4 dX6_joyAs_110 ?_
      refine ev_icmp_ge 118 dX6_joyAs_111 rfl (fun h111 => ?_) (fun h111 => ?_)
      · refine ev_iload_4 dX6_joyAs_118 ?_
        exact ev_ireturn dX6_joyAs_120 ⟨by ((try simp only [← i_nlt] at *); first | (simp [joyM, *]; done) | (simp [joyM, *]; rfl)), by rfl⟩
      · refine ev_iconst_0 dX6_joyAs_114 ?_
        refine ev_goto 120 dX6_joyAs_115 rfl ?_
        exact ev_ireturn dX6_joyAs_120 ⟨by ((try simp only [← i_nlt] at *); first | (simp [joyM, *]; done) | (simp [joyM, *]; rfl)), by rfl⟩
    · refine ev_iconst_2 dX6_joyAs_121 ?_
      refine ev_iload_6 dX6_joyAs_122 ?_
      refine ev_imul dX6_joyAs_124 ?_
      exact ev_ireturn dX6_joyAs_125 ⟨by ((try simp only [← i_nlt] at *); first | (simp [joyM, *]; done) | (simp [joyM, *]; rfl)), by rfl⟩
    · refine ev_iload_4 dX6_joyAs_126 ?_
      exact ev_ireturn dX6_joyAs_128 ⟨by ((try simp only [← i_nlt] at *); first | (simp [joyM, *]; done) | (simp [joyM, *]; rfl)), by rfl⟩
  have G31 : ∀ far pl, plainM g w = pl → Ev E (rm d) RX6 cX6_joyAs 7 (fun v1 t => v1 = some (.int (joyM k g w)) ∧ t = σ) 31 [some (.int k), some (.int g), some (.int w), some (.int far), some (.int pl), none, none] [] σ := by
    intro far pl hpl
    refine ev_iload_1 dX6_joyAs_31 ?_
    refine ev_iload_2 dX6_joyAs_32 ?_
    refine ev_icmp_lt 43 dX6_joyAs_33 rfl (fun h33 => ?_) (fun h33 => ?_)
    · refine ev_iload_4 dX6_joyAs_43 ?_
      refine ev_istore_5 dX6_joyAs_45 rfl ?_
      refine ev_iload_4 dX6_joyAs_47 ?_
      refine ev_iconst_3 dX6_joyAs_49 ?_
      refine ev_icmp_ge 57 dX6_joyAs_50 rfl (fun h50 => ?_) (fun h50 => ?_)
      · refine ev_iload_4 dX6_joyAs_57 ?_
        refine ev_istore_6 dX6_joyAs_59 rfl ?_
        refine G61 _ _ _ _ hpl ?_ ?_
        · first | rw [brideM, hpl, if_pos (i_nlt.mp h33)] | rw [brideM, hpl, if_neg (i_nle.mpr h33)]
        · first | rw [motherM, hpl, if_pos (i_nle.mp h50)] | rw [motherM, hpl, if_neg (i_nlt.mpr h50)]
      · refine ev_iconst_3 dX6_joyAs_53 ?_
        refine ev_goto 59 dX6_joyAs_54 rfl ?_
        refine ev_istore_6 dX6_joyAs_59 rfl ?_
        refine G61 _ _ _ _ hpl ?_ ?_
        · first | rw [brideM, hpl, if_pos (i_nlt.mp h33)] | rw [brideM, hpl, if_neg (i_nle.mpr h33)]
        · first | rw [motherM, hpl, if_pos (i_nle.mp h50)] | rw [motherM, hpl, if_neg (i_nlt.mpr h50)]
    · refine ev_iload_4 dX6_joyAs_36 ?_
      refine ev_iconst_2 dX6_joyAs_38 ?_
      refine ev_iadd dX6_joyAs_39 ?_
      refine ev_goto 45 dX6_joyAs_40 rfl ?_
      refine ev_istore_5 dX6_joyAs_45 rfl ?_
      refine ev_iload_4 dX6_joyAs_47 ?_
      refine Ev.pc 49 rfl ?_
      refine ev_iconst_3 dX6_joyAs_49 ?_
      refine ev_icmp_ge 57 dX6_joyAs_50 rfl (fun h50 => ?_) (fun h50 => ?_)
      · refine ev_iload_4 dX6_joyAs_57 ?_
        refine ev_istore_6 dX6_joyAs_59 rfl ?_
        refine G61 _ _ _ _ hpl ?_ ?_
        · first | rw [brideM, hpl, if_pos (i_nlt.mp h33)] | rw [brideM, hpl, if_neg (i_nle.mpr h33)]
        · first | rw [motherM, hpl, if_pos (i_nle.mp h50)] | rw [motherM, hpl, if_neg (i_nlt.mpr h50)]
      · refine ev_iconst_3 dX6_joyAs_53 ?_
        refine ev_goto 59 dX6_joyAs_54 rfl ?_
        refine ev_istore_6 dX6_joyAs_59 rfl ?_
        refine G61 _ _ _ _ hpl ?_ ?_
        · first | rw [brideM, hpl, if_pos (i_nlt.mp h33)] | rw [brideM, hpl, if_neg (i_nle.mpr h33)]
        · first | rw [motherM, hpl, if_pos (i_nle.mp h50)] | rw [motherM, hpl, if_neg (i_nlt.mpr h50)]
  have G15 : ∀ far, (if w < g then g - w else w - g) = far → Ev E (rm d) RX6 cX6_joyAs 7 (fun v1 t => v1 = some (.int (joyM k g w)) ∧ t = σ) 15 [some (.int k), some (.int g), some (.int w), some (.int far), none, none, none] [] σ := by
    intro far hf
    refine ev_iload_3 dX6_joyAs_15 ?_
    refine ev_bipush (6) dX6_joyAs_16 rfl ?_
    refine ev_icmp_ge 28 dX6_joyAs_18 rfl (fun h18 => ?_) (fun h18 => ?_)
    · refine ev_iconst_0 dX6_joyAs_28 ?_
      refine ev_istore_4 dX6_joyAs_29 rfl ?_
      refine G31 _ _ ?_
      first | rw [plainM, hf, if_pos (i_nle.mp h18)] | rw [plainM, hf, if_neg (i_nlt.mpr h18)]
    · refine ev_bipush (6) dX6_joyAs_21 rfl ?_
      refine ev_iload_3 dX6_joyAs_23 ?_
      refine ev_isub dX6_joyAs_24 ?_
      refine ev_goto 29 dX6_joyAs_25 rfl ?_
      refine ev_istore_4 dX6_joyAs_29 rfl ?_
      refine G31 _ _ ?_
      first | rw [plainM, hf, if_pos (i_nle.mp h18)] | rw [plainM, hf, if_neg (i_nlt.mpr h18)]
  refine Ct.of (by decide +kernel) (Nat.le_of_ble_eq_true rfl) ⟨_, rfl, rfl⟩ ?_
  show Ev E _ RX6 cX6_joyAs 7 _ 0 [some (.int k), some (.int g), some (.int w), none, none, none, none] [] _
  refine ev_iload_1 dX6_joyAs_0 ?_
  refine ev_iload_2 dX6_joyAs_1 ?_
  refine ev_icmp_le 11 dX6_joyAs_2 rfl (fun h2 => ?_) (fun h2 => ?_)
  · refine ev_iload_2 dX6_joyAs_11 ?_
    refine ev_iload_1 dX6_joyAs_12 ?_
    refine ev_isub dX6_joyAs_13 ?_
    refine ev_istore_3 dX6_joyAs_14 rfl ?_
    refine G15 _ ?_
    first | rw [if_pos (i_nle.mp h2)] | rw [if_neg (i_nlt.mpr h2)]
  · refine ev_iload_1 dX6_joyAs_5 ?_
    refine ev_iload_2 dX6_joyAs_6 ?_
    refine ev_isub dX6_joyAs_7 ?_
    refine ev_goto 14 dX6_joyAs_8 rfl ?_
    refine ev_istore_3 dX6_joyAs_14 rfl ?_
    refine G15 _ ?_
    first | rw [if_pos (i_nle.mp h2)] | rw [if_neg (i_nlt.mpr h2)]
def goodF (f : Nat → Int32) (p : Nat) : Int32 := goodM (f (26 + p)) (f (33 + p)) (f (14 + p))
def priceF (f : Nat → Int32) (p : Nat) : Int32 := 2 * goodF f p + 1
def joyF (f : Nat → Int32) (p h : Nat) : Int32 := joyM (f (40 + h)) (goodF f p) (f (44 + h))
theorem c_X6_goodOf (d : Nat) {E : xE} {σ : xS} {r p : Nat} (hr : r < xN ∧ xcls r = 7) (hl : 48 ≤ xlen r) (hp : p < 7) : Ct E (d + 1) yX6_goodOf cX6_goodOf 2 (some .int) [.ref (E.1 r), .int (nI p)] σ (some (.int (goodF (σ.1 r) p))) σ := by
  refine Ct.of (by decide +kernel) (Nat.le_of_ble_eq_true rfl) ⟨_, rfl, rfl⟩ ?_
  show Ev E _ RX6 cX6_goodOf 2 _ 0 [some (.ref (E.1 r)), some (.int (nI p))] [] _
  refine ev_aload_0 dX6_goodOf_0 ?_
  refine ev_bipush (26) dX6_goodOf_1 rfl ?_
  refine ev_iload_1 dX6_goodOf_3 ?_
  refine ev_iadd dX6_goodOf_4 ?_
  refine ev_aldA (n := 26) dX6_goodOf_5 (by first | assumption | decide) (by have := xls; omega) ?_
  refine Ev.pc 6 rfl ?_
  refine ev_aload_0 dX6_goodOf_6 ?_
  refine ev_bipush (33) dX6_goodOf_7 rfl ?_
  refine ev_iload_1 dX6_goodOf_9 ?_
  refine ev_iadd dX6_goodOf_10 ?_
  refine ev_aldA (n := 33) dX6_goodOf_11 (by first | assumption | decide) (by have := xls; omega) ?_
  refine Ev.pc 12 rfl ?_
  refine ev_aload_0 dX6_goodOf_12 ?_
  refine ev_bipush (14) dX6_goodOf_13 rfl ?_
  refine ev_iload_1 dX6_goodOf_15 ?_
  refine ev_iadd dX6_goodOf_16 ?_
  refine ev_aldA (n := 14) dX6_goodOf_17 (by first | assumption | decide) (by have := xls; omega) ?_
  refine Ev.pc 18 rfl ?_
  refine ev_invS dX6_goodOf_18 ml_X6_84 mt_X6_goodAs (c_X6_goodAs d) rfl rfl (rm_ok (by omega)) (Nat.le_of_ble_eq_true rfl) ?_
  refine Ev.pc 21 rfl ?_
  exact ev_ireturn dX6_goodOf_21 ⟨by rfl, by rfl⟩
theorem c_X6_priceOf (d : Nat) {E : xE} {σ : xS} {r p : Nat} (hr : r < xN ∧ xcls r = 7) (hl : 48 ≤ xlen r) (hp : p < 7) : Ct E (d + 2) yX6_priceOf cX6_priceOf 2 (some .int) [.ref (E.1 r), .int (nI p)] σ (some (.int (priceF (σ.1 r) p))) σ := by
  refine Ct.of (by decide +kernel) (Nat.le_of_ble_eq_true rfl) ⟨_, rfl, rfl⟩ ?_
  show Ev E _ RX6 cX6_priceOf 2 _ 0 [some (.ref (E.1 r)), some (.int (nI p))] [] _
  refine ev_iconst_2 dX6_priceOf_0 ?_
  refine ev_aload_0 dX6_priceOf_1 ?_
  refine ev_iload_1 dX6_priceOf_2 ?_
  refine ev_invS dX6_priceOf_3 ml_X6_88 mt_X6_goodOf (c_X6_goodOf d (by first | assumption | decide) (by have := xls; omega) (by omega)) rfl rfl (rm_ok (by omega)) (Nat.le_of_ble_eq_true rfl) ?_
  refine Ev.pc 6 rfl ?_
  refine ev_imul dX6_priceOf_6 ?_
  refine Ev.pc 7 rfl ?_
  refine ev_iconst_1 dX6_priceOf_7 ?_
  refine ev_iadd dX6_priceOf_8 ?_
  exact ev_ireturn dX6_priceOf_9 ⟨by rfl, by rfl⟩
theorem c_X6_joyOf (d : Nat) {E : xE} {σ : xS} {r p h : Nat} (hr : r < xN ∧ xcls r = 7) (hl : 48 ≤ xlen r) (hp : p < 7) (hh : h < 4) : Ct E (d + 2) yX6_joyOf cX6_joyOf 3 (some .int) [.ref (E.1 r), .int (nI p), .int (nI h)] σ (some (.int (joyF (σ.1 r) p h))) σ := by
  refine Ct.of (by decide +kernel) (Nat.le_of_ble_eq_true rfl) ⟨_, rfl, rfl⟩ ?_
  show Ev E _ RX6 cX6_joyOf 3 _ 0 [some (.ref (E.1 r)), some (.int (nI p)), some (.int (nI h))] [] _
  refine ev_aload_0 dX6_joyOf_0 ?_
  refine ev_bipush (40) dX6_joyOf_1 rfl ?_
  refine ev_iload_2 dX6_joyOf_3 ?_
  refine ev_iadd dX6_joyOf_4 ?_
  refine ev_aldA (n := 40) dX6_joyOf_5 (by first | assumption | decide) (by have := xls; omega) ?_
  refine Ev.pc 6 rfl ?_
  refine ev_aload_0 dX6_joyOf_6 ?_
  refine ev_iload_1 dX6_joyOf_7 ?_
  refine ev_invS dX6_joyOf_8 ml_X6_88 mt_X6_goodOf (c_X6_goodOf d (by first | assumption | decide) (by have := xls; omega) (by omega)) rfl rfl (rm_ok (by omega)) (Nat.le_of_ble_eq_true rfl) ?_
  refine Ev.pc 11 rfl ?_
  refine ev_aload_0 dX6_joyOf_11 ?_
  refine ev_bipush (44) dX6_joyOf_12 rfl ?_
  refine Ev.pc 14 rfl ?_
  refine ev_iload_2 dX6_joyOf_14 ?_
  refine ev_iadd dX6_joyOf_15 ?_
  refine ev_aldA (n := 44) dX6_joyOf_16 (by first | assumption | decide) (by have := xls; omega) ?_
  refine ev_invS dX6_joyOf_17 ml_X6_92 mt_X6_joyAs (c_X6_joyAs d) rfl rfl (rm_ok (by omega)) (Nat.le_of_ble_eq_true rfl) ?_
  refine Ev.pc 20 rfl ?_
  exact ev_ireturn dX6_joyOf_20 ⟨by rfl, by rfl⟩
theorem c_X6_isShown (d : Nat) {E : xE} {σ : xS} {r p : Nat} (hr : r < xN ∧ xcls r = 7) (hl : 48 ≤ xlen r) (hp : p < 7) : Ct E d yX6_isShown cX6_isShown 2 (some .boolean) [.ref (E.1 r), .int (nI p)] σ (some (.int (b2i (σ.1 r (7 + p) = 0)))) σ := by
  refine Ct.of (by decide +kernel) (Nat.le_of_ble_eq_true rfl) ⟨_, rfl, nb_b2i _⟩ ?_
  show Ev E _ RX6 cX6_isShown 2 _ 0 [some (.ref (E.1 r)), some (.int (nI p))] [] _
  refine ev_aload_0 dX6_isShown_0 ?_
  refine ev_bipush (7) dX6_isShown_1 rfl ?_
  refine ev_iload_1 dX6_isShown_3 ?_
  refine ev_iadd dX6_isShown_4 ?_
  refine ev_aldA (n := 7) dX6_isShown_5 (by first | assumption | decide) (by have := xls; omega) ?_
  refine Ev.pc 6 rfl ?_
  refine ev_if_ne 13 dX6_isShown_6 rfl (fun h6 => ?_) (fun h6 => ?_)
  · refine ev_iconst_0 dX6_isShown_13 ?_
    exact ev_ireturn dX6_isShown_14 ⟨by (simp [b2i, *]), by rfl⟩
  · refine ev_iconst_1 dX6_isShown_9 ?_
    refine ev_goto 14 dX6_isShown_10 rfl ?_
    exact ev_ireturn dX6_isShown_14 ⟨by (simp [b2i, *]), by rfl⟩
abbrev heldF (f : Nat → Int32) (p : Nat) : Prop := 1 ≤ f (7 + p) ∧ f (7 + p) < 10
theorem c_X6_isHeld (d : Nat) {E : xE} {σ : xS} {r p : Nat} (hr : r < xN ∧ xcls r = 7) (hl : 48 ≤ xlen r) (hp : p < 7) : Ct E d yX6_isHeld cX6_isHeld 2 (some .boolean) [.ref (E.1 r), .int (nI p)] σ (some (.int (b2i (heldF (σ.1 r) p)))) σ := by
  refine Ct.of (by decide +kernel) (Nat.le_of_ble_eq_true rfl) ⟨_, rfl, nb_b2i _⟩ ?_
  show Ev E _ RX6 cX6_isHeld 2 _ 0 [some (.ref (E.1 r)), some (.int (nI p))] [] _
  refine ev_aload_0 dX6_isHeld_0 ?_
  refine ev_bipush (7) dX6_isHeld_1 rfl ?_
  refine ev_iload_1 dX6_isHeld_3 ?_
  refine ev_iadd dX6_isHeld_4 ?_
  refine ev_aldA (n := 7) dX6_isHeld_5 (by first | assumption | decide) (by have := xls; omega) ?_
  refine Ev.pc 6 rfl ?_
  refine ev_iconst_1 dX6_isHeld_6 ?_
  refine ev_icmp_lt 25 dX6_isHeld_7 rfl (fun h7 => ?_) (fun h7 => ?_)
  · refine ev_iconst_0 dX6_isHeld_25 ?_
    exact ev_ireturn dX6_isHeld_26 ⟨by (first | exact congrArg (fun z => some (Value.int z)) (b2i_t ⟨i_nlt.mp h7, i_nle.mp h18⟩) | exact congrArg (fun z => some (Value.int z)) (b2i_f (fun h => absurd h.1 (i_nle.mpr h7))) | exact congrArg (fun z => some (Value.int z)) (b2i_f (fun h => absurd h.2 (i_nlt.mpr h18)))), by rfl⟩
  · refine ev_aload_0 dX6_isHeld_10 ?_
    refine ev_bipush (7) dX6_isHeld_11 rfl ?_
    refine ev_iload_1 dX6_isHeld_13 ?_
    refine ev_iadd dX6_isHeld_14 ?_
    refine ev_aldA (n := 7) dX6_isHeld_15 (by first | assumption | decide) (by have := xls; omega) ?_
    refine Ev.pc 16 rfl ?_
    refine ev_bipush (10) dX6_isHeld_16 rfl ?_
    refine ev_icmp_ge 25 dX6_isHeld_18 rfl (fun h18 => ?_) (fun h18 => ?_)
    · refine ev_iconst_0 dX6_isHeld_25 ?_
      exact ev_ireturn dX6_isHeld_26 ⟨by (first | exact congrArg (fun z => some (Value.int z)) (b2i_t ⟨i_nlt.mp h7, i_nle.mp h18⟩) | exact congrArg (fun z => some (Value.int z)) (b2i_f (fun h => absurd h.1 (i_nle.mpr h7))) | exact congrArg (fun z => some (Value.int z)) (b2i_f (fun h => absurd h.2 (i_nlt.mpr h18)))), by rfl⟩
    · refine ev_iconst_1 dX6_isHeld_21 ?_
      refine ev_goto 26 dX6_isHeld_22 rfl ?_
      exact ev_ireturn dX6_isHeld_26 ⟨by (first | exact congrArg (fun z => some (Value.int z)) (b2i_t ⟨i_nlt.mp h7, i_nle.mp h18⟩) | exact congrArg (fun z => some (Value.int z)) (b2i_f (fun h => absurd h.1 (i_nle.mpr h7))) | exact congrArg (fun z => some (Value.int z)) (b2i_f (fun h => absurd h.2 (i_nlt.mpr h18)))), by rfl⟩
