/-! the class's searches: fit, buy, cheap -/
abbrev woI (fr p : Int32) : Int32 := fr &&& ((1 <<< (p &&& 31)) ^^^ (-1))
def mjC (g : Nat → Int32) : Nat → Nat → Int32 → Int32
  | 0, _, _ => 0
  | k + 1, h, fr => foI (fun p m => if hasI' fr p then xmax m (g (h * 7 + p) + mjC g k (h + 1) (woI fr (nI p))) else m) 7 (mjC g k (h + 1) fr)
theorem c_X5_mostJoy {E : xE} {σ : xS} {r H : Nat} (hr : r < xN ∧ xcls r = 7) (hl : 28 ≤ xlen r) (hH : H ≤ 4) : ∀ (k d h : Nat) (fr : Int32), h + k = H → Ct E (d + 1 + k) yX5_mostJoy cX5_mostJoy 7 (some .int) [.ref (E.1 r), .int (nI H), .int (nI h), .int fr] σ (some (.int (mjC (σ.1 r) k h fr))) σ := by
  have h5 := xlen_le r
  intro k
  induction k with
  | zero =>
    intro d h fr hh
    refine Ct.of (by decide +kernel) (Nat.le_of_ble_eq_true rfl) ⟨_, rfl, rfl⟩ ?_
    show Ev E _ RX5 cX5_mostJoy 7 _ 0 [some (.ref (E.1 r)), some (.int (nI H)), some (.int (nI h)), some (.int fr), none, none, none] [] _
    refine ev_iload_2 dX5_mostJoy_0 ?_
    refine ev_iload_1 dX5_mostJoy_1 ?_
    refine ev_icmp_ge 10 dX5_mostJoy_2 rfl (fun h2 => ?_) (fun h2 => ?_)
    · refine ev_iconst_0 dX5_mostJoy_10 ?_
      exact ev_ireturn dX5_mostJoy_11 ⟨by rfl, by rfl⟩
    · exact absurd (nI_le (by omega) (by omega)) h2
  | succ k ih =>
    intro d h fr hh
    have loop : ∀ (n p : Nat) (m : Int32) (x6 : Option Value), p + n = 7 → m = foI (fun p m => if hasI' fr p then xmax m ((σ.1 r) (h * 7 + p) + mjC (σ.1 r) k (h + 1) (woI fr (nI p))) else m) p (mjC (σ.1 r) k (h + 1) fr) → Ev E (rm (d + 1 + (k + 1))) RX5 cX5_mostJoy 7 (fun v t => v = some (.int (mjC (σ.1 r) (k + 1) h fr)) ∧ t = σ) 26 [some (.ref (E.1 r)), some (.int (nI H)), some (.int (nI h)), some (.int fr), some (.int m), some (.int (nI p)), x6] [] σ := by
      intro n
      induction n with
      | zero =>
        intro p m x6 hp hm
        refine ev_iload_5 dX5_mostJoy_26 ?_
        refine ev_bipush (7) dX5_mostJoy_28 rfl ?_
        refine ev_icmp_ge 85 dX5_mostJoy_30 rfl (fun h30 => ?_) (fun h30 => ?_)
        · refine ev_iload_4 dX5_mostJoy_85 ?_
          exact ev_ireturn dX5_mostJoy_87 ⟨by (rw [hm, show p = 7 by omega]; rfl), by rfl⟩
        · exact absurd (show nI 7 ≤ nI p from nI_le (by omega) (by omega)) h30
      | succ n ihn =>
        intro p m x6 hp hm
        have e1 : xat σ r (nI h * 7 + nI p) = σ.1 r (h * 7 + p) := xat_eq (by rw [show (7 : Int32) = nI 7 from rfl, pk_mul, nI_add]) (by omega)
        refine ev_iload_5 dX5_mostJoy_26 ?_
        refine ev_bipush (7) dX5_mostJoy_28 rfl ?_
        refine ev_icmp_ge 85 dX5_mostJoy_30 rfl (fun h30 => ?_) (fun h30 => ?_)
        · exact absurd h30 (show ¬ nI 7 ≤ nI p from nI_ge (by omega) (by omega))
        · refine ev_iload_3 dX5_mostJoy_33 ?_
          refine ev_iload_5 dX5_mostJoy_34 ?_
          refine ev_invS dX5_mostJoy_36 ml_X5_270 mt_X5_has (c_X5_has d) rfl rfl (rm_ok (by omega)) (Nat.le_of_ble_eq_true rfl) ?_
          refine Ev.pc 39 rfl ?_
          refine ev_if_eq 79 dX5_mostJoy_39 rfl (fun h39 => ?_) (fun h39 => ?_)
          · have g := b2i_0.mp h39
            refine ev_iinc_5 (1) dX5_mostJoy_79 rfl rfl ?_
            refine ev_goto 26 dX5_mostJoy_82 rfl ?_
            rw [nI_1]
            exact ihn (p + 1) _ _ (by omega) (by rw [foI, ← hm]; first | (rw [if_pos g, e1]; rfl) | rw [if_neg g])
          · have g := Decidable.not_not.mp (fun h => h39 (b2i_0.mpr h))
            refine ev_aload_0 dX5_mostJoy_42 ?_
            refine ev_iload_1 dX5_mostJoy_43 ?_
            refine ev_iload_2 dX5_mostJoy_44 ?_
            refine ev_iconst_1 dX5_mostJoy_45 ?_
            refine ev_iadd dX5_mostJoy_46 ?_
            refine Ev.pc 47 rfl ?_
            refine ev_iload_3 dX5_mostJoy_47 ?_
            refine ev_iload_5 dX5_mostJoy_48 ?_
            refine ev_invS dX5_mostJoy_50 ml_X5_255 mt_X5_without (c_X5_without d) rfl rfl (rm_ok (by omega)) (Nat.le_of_ble_eq_true rfl) ?_
            refine Ev.pc 53 rfl ?_
            rw [nI_1]
            refine ev_invS dX5_mostJoy_53 ml_X5_248 mt_X5_mostJoy (ih d (h + 1) _ (by omega)) rfl rfl (rm_ok (by omega)) (Nat.le_of_ble_eq_true rfl) ?_
            refine Ev.pc 56 rfl ?_
            refine ev_istore_6 dX5_mostJoy_56 rfl ?_
            refine Ev.pc 58 rfl ?_
            refine ev_iload_4 dX5_mostJoy_58 ?_
            refine ev_aload_0 dX5_mostJoy_60 ?_
            refine ev_iload_2 dX5_mostJoy_61 ?_
            refine ev_bipush (7) dX5_mostJoy_62 rfl ?_
            refine ev_imul dX5_mostJoy_64 ?_
            refine Ev.pc 65 rfl ?_
            refine ev_iload_5 dX5_mostJoy_65 ?_
            refine ev_iadd dX5_mostJoy_67 ?_
            refine ev_invS dX5_mostJoy_68 ml_X5_196 mt_X5_at (c_X5_at d (by first | assumption | decide)) rfl rfl (rm_ok (by omega)) (Nat.le_of_ble_eq_true rfl) ?_
            refine Ev.pc 71 rfl ?_
            refine ev_iload_6 dX5_mostJoy_71 ?_
            refine ev_iadd dX5_mostJoy_73 ?_
            refine Ev.pc 74 rfl ?_
            refine ev_mmax dX5_mostJoy_74 mm_X5_83 (rm_okm (by omega)) (Nat.le_of_ble_eq_true rfl) ?_
            refine Ev.pc 77 rfl ?_
            refine ev_istore_4 dX5_mostJoy_77 rfl ?_
            refine ev_iinc_5 (1) dX5_mostJoy_79 rfl rfl ?_
            refine ev_goto 26 dX5_mostJoy_82 rfl ?_
            rw [nI_1]
            exact ihn (p + 1) _ _ (by omega) (by rw [foI, ← hm]; first | (rw [if_pos g, e1]; rfl) | rw [if_neg g])
    refine Ct.of (by decide +kernel) (Nat.le_of_ble_eq_true rfl) ⟨_, rfl, rfl⟩ ?_
    show Ev E _ RX5 cX5_mostJoy 7 _ 0 [some (.ref (E.1 r)), some (.int (nI H)), some (.int (nI h)), some (.int fr), none, none, none] [] _
    refine ev_iload_2 dX5_mostJoy_0 ?_
    refine ev_iload_1 dX5_mostJoy_1 ?_
    refine ev_icmp_ge 10 dX5_mostJoy_2 rfl (fun h2 => ?_) (fun h2 => ?_)
    · exact absurd h2 (nI_ge (by omega) (by omega))
    · refine ev_iload_2 dX5_mostJoy_5 ?_
      refine ev_iconst_4 dX5_mostJoy_6 ?_
      refine ev_icmp_lt 12 dX5_mostJoy_7 rfl (fun h7 => ?_) (fun h7 => ?_)
      · refine ev_aload_0 dX5_mostJoy_12 ?_
        refine ev_iload_1 dX5_mostJoy_13 ?_
        refine ev_iload_2 dX5_mostJoy_14 ?_
        refine ev_iconst_1 dX5_mostJoy_15 ?_
        refine ev_iadd dX5_mostJoy_16 ?_
        refine Ev.pc 17 rfl ?_
        refine ev_iload_3 dX5_mostJoy_17 ?_
        rw [nI_1]
        refine ev_invS dX5_mostJoy_18 ml_X5_248 mt_X5_mostJoy (ih d (h + 1) _ (by omega)) rfl rfl (rm_ok (by omega)) (Nat.le_of_ble_eq_true rfl) ?_
        refine Ev.pc 21 rfl ?_
        refine ev_istore_4 dX5_mostJoy_21 rfl ?_
        refine ev_iconst_0 dX5_mostJoy_23 ?_
        refine ev_istore_5 dX5_mostJoy_24 rfl ?_
        refine Ev.pc 26 rfl ?_
        exact loop 7 0 _ _ (by omega) rfl
      · exact absurd (show nI h < nI 4 from nI_lt (by omega) (by omega)) h7
def lpC (g pr : Nat → Int32) (wt : Int32) : Nat → Nat → Int32 → Int32
  | 0, _, _ => 0
  | k + 1, h, fr => if hasI' wt h then foI (fun p l => if hasI' fr p then (if g (h * 7 + p) < 1 then l else (if lpC g pr wt k (h + 1) (woI fr (nI p)) = -1 then l else if l = -1 then pr p + lpC g pr wt k (h + 1) (woI fr (nI p)) else if l ≤ pr p + lpC g pr wt k (h + 1) (woI fr (nI p)) then l else pr p + lpC g pr wt k (h + 1) (woI fr (nI p)))) else l) 7 (-1) else lpC g pr wt k (h + 1) fr
theorem c_X5_leastPrice {E : xE} {σ : xS} {r r2 : Nat} {wt : Int32} (hr : r < xN ∧ xcls r = 7) (hl : 28 ≤ xlen r) (hr2 : r2 < xN ∧ xcls r2 = 7) (hl2 : 7 ≤ xlen r2) : ∀ (k d h : Nat) (fr : Int32), h + k = 4 → Ct E (d + 1 + k) yX5_leastPrice cX5_leastPrice 9 (some .int) [.ref (E.1 r), .ref (E.1 r2), .int wt, .int (nI h), .int fr] σ (some (.int (lpC (σ.1 r) (σ.1 r2) wt k h fr))) σ := by
  have h5 := xlen_le r
  have h52 := xlen_le r2
  intro k
  induction k with
  | zero =>
    intro d h fr hh
    refine Ct.of (by decide +kernel) (Nat.le_of_ble_eq_true rfl) ⟨_, rfl, rfl⟩ ?_
    show Ev E _ RX5 cX5_leastPrice 9 _ 0 [some (.ref (E.1 r)), some (.ref (E.1 r2)), some (.int wt), some (.int (nI h)), some (.int fr), none, none, none, none] [] _
    refine ev_iload_3 dX5_leastPrice_0 ?_
    refine ev_iconst_4 dX5_leastPrice_1 ?_
    refine ev_icmp_lt 7 dX5_leastPrice_2 rfl (fun h2 => ?_) (fun h2 => ?_)
    · exact absurd h2 (show ¬ nI h < nI 4 from nI_nlt (by omega) (by omega))
    · refine ev_iconst_0 dX5_leastPrice_5 ?_
      exact ev_ireturn dX5_leastPrice_6 ⟨by rfl, by rfl⟩
  | succ k ih =>
    intro d h fr hh
    have loop : ∀ (n p : Nat) (m : Int32) (x7 x8 : Option Value), hasI' wt h → p + n = 7 → m = foI (fun p l => if hasI' fr p then (if (σ.1 r) (h * 7 + p) < 1 then l else (if lpC (σ.1 r) (σ.1 r2) wt k (h + 1) (woI fr (nI p)) = -1 then l else if l = -1 then (σ.1 r2) p + lpC (σ.1 r) (σ.1 r2) wt k (h + 1) (woI fr (nI p)) else if l ≤ (σ.1 r2) p + lpC (σ.1 r) (σ.1 r2) wt k (h + 1) (woI fr (nI p)) then l else (σ.1 r2) p + lpC (σ.1 r) (σ.1 r2) wt k (h + 1) (woI fr (nI p)))) else l) p (-1) → Ev E (rm (d + 1 + (k + 1))) RX5 cX5_leastPrice 9 (fun v t => v = some (.int (lpC (σ.1 r) (σ.1 r2) wt (k + 1) h fr)) ∧ t = σ) 33 [some (.ref (E.1 r)), some (.ref (E.1 r2)), some (.int wt), some (.int (nI h)), some (.int fr), some (.int m), some (.int (nI p)), x7, x8] [] σ := by
      intro n
      induction n with
      | zero =>
        intro p m x7 x8 hw hp hm
        refine ev_iload_6 dX5_leastPrice_33 ?_
        refine ev_bipush (7) dX5_leastPrice_35 rfl ?_
        refine ev_icmp_ge 123 dX5_leastPrice_37 rfl (fun h37 => ?_) (fun h37 => ?_)
        · refine ev_iload_5 dX5_leastPrice_123 ?_
          exact ev_ireturn dX5_leastPrice_125 ⟨by (rw [lpC, if_pos hw, hm, show p = 7 by omega]), by rfl⟩
        · exact absurd (show nI 7 ≤ nI p from nI_le (by omega) (by omega)) h37
      | succ n ihn =>
        intro p m x7 x8 hw hp hm
        have e1 : xat σ r (nI h * 7 + nI p) = σ.1 r (h * 7 + p) := xat_eq (by rw [show (7 : Int32) = nI 7 from rfl, pk_mul, nI_add]) (by omega)
        have e2 : xat σ r2 (nI p) = σ.1 r2 p := xat_nI (by omega)
        refine ev_iload_6 dX5_leastPrice_33 ?_
        refine ev_bipush (7) dX5_leastPrice_35 rfl ?_
        refine ev_icmp_ge 123 dX5_leastPrice_37 rfl (fun h37 => ?_) (fun h37 => ?_)
        · exact absurd h37 (show ¬ nI 7 ≤ nI p from nI_ge (by omega) (by omega))
        · refine ev_iload_4 dX5_leastPrice_40 ?_
          refine ev_iload_6 dX5_leastPrice_42 ?_
          refine ev_invS dX5_leastPrice_44 ml_X5_270 mt_X5_has (c_X5_has d) rfl rfl (rm_ok (by omega)) (Nat.le_of_ble_eq_true rfl) ?_
          refine Ev.pc 47 rfl ?_
          refine ev_if_eq 117 dX5_leastPrice_47 rfl (fun h47 => ?_) (fun h47 => ?_)
          · have g := b2i_0.mp h47
            refine ev_iinc_6 (1) dX5_leastPrice_117 rfl rfl ?_
            refine ev_goto 33 dX5_leastPrice_120 rfl ?_
            rw [nI_1]
            exact ihn (p + 1) _ _ _ hw (by omega) (by rw [foI, ← hm]; repeat' (first | with_reducible rfl | contradiction | split))
          · have g := Decidable.not_not.mp (fun h => h47 (b2i_0.mpr h))
            refine ev_aload_0 dX5_leastPrice_50 ?_
            refine ev_iload_3 dX5_leastPrice_51 ?_
            refine ev_bipush (7) dX5_leastPrice_52 rfl ?_
            refine ev_imul dX5_leastPrice_54 ?_
            refine ev_iload_6 dX5_leastPrice_55 ?_
            refine Ev.pc 57 rfl ?_
            refine ev_iadd dX5_leastPrice_57 ?_
            refine ev_invS dX5_leastPrice_58 ml_X5_196 mt_X5_at (c_X5_at d (by first | assumption | decide)) rfl rfl (rm_ok (by omega)) (Nat.le_of_ble_eq_true rfl) ?_
            rw [e1]
            refine Ev.pc 61 rfl ?_
            refine ev_iconst_1 dX5_leastPrice_61 ?_
            refine ev_icmp_lt 117 dX5_leastPrice_62 rfl (fun h62 => ?_) (fun h62 => ?_)
            · refine ev_iinc_6 (1) dX5_leastPrice_117 rfl rfl ?_
              refine ev_goto 33 dX5_leastPrice_120 rfl ?_
              rw [nI_1]
              exact ihn (p + 1) _ _ _ hw (by omega) (by rw [foI, ← hm]; repeat' (first | with_reducible rfl | contradiction | split))
            · refine ev_aload_0 dX5_leastPrice_65 ?_
              refine ev_aload_1 dX5_leastPrice_66 ?_
              refine ev_iload_2 dX5_leastPrice_67 ?_
              refine ev_iload_3 dX5_leastPrice_68 ?_
              refine ev_iconst_1 dX5_leastPrice_69 ?_
              refine Ev.pc 70 rfl ?_
              refine ev_iadd dX5_leastPrice_70 ?_
              refine ev_iload_4 dX5_leastPrice_71 ?_
              refine ev_iload_6 dX5_leastPrice_73 ?_
              refine ev_invS dX5_leastPrice_75 ml_X5_255 mt_X5_without (c_X5_without d) rfl rfl (rm_ok (by omega)) (Nat.le_of_ble_eq_true rfl) ?_
              refine Ev.pc 78 rfl ?_
              rw [nI_1]
              refine ev_invS dX5_leastPrice_78 ml_X5_266 mt_X5_leastPrice (ih d (h + 1) _ (by omega)) rfl rfl (rm_ok (by omega)) (Nat.le_of_ble_eq_true rfl) ?_
              refine Ev.pc 81 rfl ?_
              refine ev_istore_7 dX5_leastPrice_81 rfl ?_
              refine ev_aload_1 dX5_leastPrice_83 ?_
              refine ev_iload_6 dX5_leastPrice_84 ?_
              refine ev_invS dX5_leastPrice_86 ml_X5_196 mt_X5_at (c_X5_at d (by first | assumption | decide)) rfl rfl (rm_ok (by omega)) (Nat.le_of_ble_eq_true rfl) ?_
              rw [e2]
              refine Ev.pc 89 rfl ?_
              refine ev_iload_7 dX5_leastPrice_89 ?_
              refine Ev.pc 91 rfl ?_
              refine ev_iadd dX5_leastPrice_91 ?_
              refine ev_istore_8 dX5_leastPrice_92 rfl ?_
              refine ev_iload_7 dX5_leastPrice_94 ?_
              refine ev_iconst_m1 dX5_leastPrice_96 ?_
              refine ev_icmp_eq 117 dX5_leastPrice_97 rfl (fun h97 => ?_) (fun h97 => ?_)
              · refine ev_iinc_6 (1) dX5_leastPrice_117 rfl rfl ?_
                refine ev_goto 33 dX5_leastPrice_120 rfl ?_
                rw [nI_1]
                exact ihn (p + 1) _ _ _ hw (by omega) (by rw [foI, ← hm]; repeat' (first | with_reducible rfl | contradiction | split))
              · refine ev_iload_5 dX5_leastPrice_100 ?_
                refine ev_iconst_m1 dX5_leastPrice_102 ?_
                refine ev_icmp_eq 113 dX5_leastPrice_103 rfl (fun h103 => ?_) (fun h103 => ?_)
                · refine ev_iload_8 dX5_leastPrice_113 ?_
                  refine ev_istore_5 dX5_leastPrice_115 rfl ?_
                  refine ev_iinc_6 (1) dX5_leastPrice_117 rfl rfl ?_
                  refine ev_goto 33 dX5_leastPrice_120 rfl ?_
                  rw [nI_1]
                  exact ihn (p + 1) _ _ _ hw (by omega) (by rw [foI, ← hm]; repeat' (first | with_reducible rfl | contradiction | split))
                · refine ev_iload_8 dX5_leastPrice_106 ?_
                  refine ev_iload_5 dX5_leastPrice_108 ?_
                  refine ev_icmp_ge 117 dX5_leastPrice_110 rfl (fun h110 => ?_) (fun h110 => ?_)
                  · refine ev_iinc_6 (1) dX5_leastPrice_117 rfl rfl ?_
                    refine ev_goto 33 dX5_leastPrice_120 rfl ?_
                    rw [nI_1]
                    exact ihn (p + 1) _ _ _ hw (by omega) (by rw [foI, ← hm]; repeat' (first | with_reducible rfl | contradiction | split))
                  · refine ev_iload_8 dX5_leastPrice_113 ?_
                    refine ev_istore_5 dX5_leastPrice_115 rfl ?_
                    refine ev_iinc_6 (1) dX5_leastPrice_117 rfl rfl ?_
                    refine ev_goto 33 dX5_leastPrice_120 rfl ?_
                    rw [nI_1]
                    exact ihn (p + 1) _ _ _ hw (by omega) (by rw [foI, ← hm]; repeat' (first | with_reducible rfl | contradiction | split))
    refine Ct.of (by decide +kernel) (Nat.le_of_ble_eq_true rfl) ⟨_, rfl, rfl⟩ ?_
    show Ev E _ RX5 cX5_leastPrice 9 _ 0 [some (.ref (E.1 r)), some (.ref (E.1 r2)), some (.int wt), some (.int (nI h)), some (.int fr), none, none, none, none] [] _
    refine ev_iload_3 dX5_leastPrice_0 ?_
    refine ev_iconst_4 dX5_leastPrice_1 ?_
    refine ev_icmp_lt 7 dX5_leastPrice_2 rfl (fun h2 => ?_) (fun h2 => ?_)
    · refine ev_iload_2 dX5_leastPrice_7 ?_
      refine ev_iload_3 dX5_leastPrice_8 ?_
      refine ev_invS dX5_leastPrice_9 ml_X5_270 mt_X5_has (c_X5_has d) rfl rfl (rm_ok (by omega)) (Nat.le_of_ble_eq_true rfl) ?_
      refine Ev.pc 12 rfl ?_
      refine ev_if_ne 27 dX5_leastPrice_12 rfl (fun h12 => ?_) (fun h12 => ?_)
      · have g := Decidable.not_not.mp (fun h => h12 (b2i_0.mpr h))
        refine ev_iconst_m1 dX5_leastPrice_27 ?_
        refine ev_istore_5 dX5_leastPrice_28 rfl ?_
        refine ev_iconst_0 dX5_leastPrice_30 ?_
        refine ev_istore_6 dX5_leastPrice_31 rfl ?_
        exact loop 7 0 _ _ _ g (by omega) rfl
      · have g := b2i_0.mp h12
        refine ev_aload_0 dX5_leastPrice_15 ?_
        refine ev_aload_1 dX5_leastPrice_16 ?_
        refine ev_iload_2 dX5_leastPrice_17 ?_
        refine ev_iload_3 dX5_leastPrice_18 ?_
        refine ev_iconst_1 dX5_leastPrice_19 ?_
        refine Ev.pc 20 rfl ?_
        refine ev_iadd dX5_leastPrice_20 ?_
        refine ev_iload_4 dX5_leastPrice_21 ?_
        rw [nI_1]
        refine ev_invS dX5_leastPrice_23 ml_X5_266 mt_X5_leastPrice (ih d (h + 1) _ (by omega)) rfl rfl (rm_ok (by omega)) (Nat.le_of_ble_eq_true rfl) ?_
        refine Ev.pc 26 rfl ?_
        exact ev_ireturn dX5_leastPrice_26 ⟨by (rw [lpC, if_neg g]), by rfl⟩
    · exact absurd (show nI h < nI 4 from nI_lt (by omega) (by omega)) h2
theorem hasIn_nI {n : Nat} {p : Int32} (hn : n < 2 ^ 31) (h : hasIn (nI n) p) : ∃ k, k < n ∧ p = nI k := by
  obtain ⟨h0, h1⟩ := h
  cases n with
  | zero => exact absurd (Int32.le_trans h0 h1) (by decide)
  | succ n =>
    rw [nI_pred] at h1
    have e0 : 0 ≤ p.toInt := by simpa [Int32.le_iff_toInt_le] using h0
    have e1 : p.toInt ≤ n := by rw [Int32.le_iff_toInt_le, nI_toInt (by omega)] at h1; exact h1
    refine ⟨p.toInt.toNat, by omega, ?_⟩
    apply Int32.toInt_inj.mp
    rw [nI_toInt (by omega)]
    omega
theorem hasIn_of {n k : Nat} (hn : n < 2 ^ 31) (h : k < n) : hasIn (nI n) (nI k) := by
  cases n with
  | zero => omega
  | succ n => exact ⟨nI_pos' (by omega), by rw [nI_pred]; exact nI_le (by omega) (by omega)⟩
def ffC (g : Nat → Int32) (k h : Nat) (fr : Int32) : Int32 :=
  if mjC g k (h + 1) fr = mjC g (k + 1) h fr then -1 else scanI (fun p => decide (hasI' fr p ∧ g (h * 7 + p) + mjC g k (h + 1) (woI fr (nI p)) = mjC g (k + 1) h fr)) 7 0
theorem c_X5_firstFor (d : Nat) {E : xE} {σ : xS} {H : Nat} (hH : σ.1 2 8 = nI H) (hH4 : H ≤ 4) (k h : Nat) (fr : Int32) (hh : h + (k + 1) = H) : Ct E (d + 6) yX5_firstFor cX5_firstFor 7 (some .int) [.ref (E.1 0), .int (nI h), .int fr] σ (some (.int (ffC (σ.1 70) k h fr))) σ := by
  have e70 : xlen 70 = 28 := by decide
  have loop : ∀ (n p : Nat) (x6 : Option Value), p + n = 7 → ffC (σ.1 70) k h fr = scanI (fun p => decide (hasI' fr p ∧ (σ.1 70) (h * 7 + p) + mjC (σ.1 70) k (h + 1) (woI fr (nI p)) = mjC (σ.1 70) (k + 1) h fr)) n p → Ev E (rm (d + 6)) RX5 cX5_firstFor 7 (fun v t => v = some (.int (ffC (σ.1 70) k h fr)) ∧ t = σ) 45 [some (.ref (E.1 0)), some (.int (nI h)), some (.int fr), some (.int (nI H)), some (.int (mjC (σ.1 70) (k + 1) h fr)), some (.int (nI p)), x6] [] σ := by
    intro n
    induction n with
    | zero =>
      intro p x6 hp he
      refine ev_iload_5 dX5_firstFor_45 ?_
      refine ev_bipush (7) dX5_firstFor_47 rfl ?_
      refine ev_icmp_ge 111 dX5_firstFor_49 rfl (fun h49 => ?_) (fun h49 => ?_)
      · refine ev_iconst_m1 dX5_firstFor_111 ?_
        exact ev_ireturn dX5_firstFor_112 ⟨by (rw [he]; rfl), by rfl⟩
      · exact absurd (show nI 7 ≤ nI p from nI_le (by omega) (by omega)) h49
    | succ n ihn =>
      intro p x6 hp he
      have e1 : xat σ 70 (nI h * 7 + nI p) = σ.1 70 (h * 7 + p) := xat_eq (by rw [show (7 : Int32) = nI 7 from rfl, pk_mul, nI_add]) (by omega)
      rw [scanI] at he
      refine ev_iload_5 dX5_firstFor_45 ?_
      refine ev_bipush (7) dX5_firstFor_47 rfl ?_
      refine ev_icmp_ge 111 dX5_firstFor_49 rfl (fun h49 => ?_) (fun h49 => ?_)
      · exact absurd h49 (show ¬ nI 7 ≤ nI p from nI_ge (by omega) (by omega))
      · refine ev_iload_2 dX5_firstFor_52 ?_
        refine ev_iload_5 dX5_firstFor_53 ?_
        refine ev_invS dX5_firstFor_55 ml_X5_270 mt_X5_has (c_X5_has d) rfl rfl (rm_ok (by omega)) (Nat.le_of_ble_eq_true rfl) ?_
        refine Ev.pc 58 rfl ?_
        refine ev_if_eq 105 dX5_firstFor_58 rfl (fun h58 => ?_) (fun h58 => ?_)
        · have g := b2i_0.mp h58
          refine ev_iinc_5 (1) dX5_firstFor_105 rfl rfl ?_
          refine ev_goto 45 dX5_firstFor_108 rfl ?_
          rw [nI_1]
          exact ihn (p + 1) _ (by omega) (by rw [if_neg (by simp only [decide_eq_true_eq]; intro hc; first | exact g hc.1 | exact h99 hc.2)] at he; exact he)
        · have g := Decidable.not_not.mp (fun h => h58 (b2i_0.mpr h))
          refine ev_aload_0 dX5_firstFor_61 ?_
          refine ev_get dX5_firstFor_62 fk_X5_36 (by first | assumption | decide) (by decide) rfl ?_
          refine ev_iload_3 dX5_firstFor_65 ?_
          refine ev_iload_1 dX5_firstFor_66 ?_
          refine ev_iconst_1 dX5_firstFor_67 ?_
          refine Ev.pc 68 rfl ?_
          refine ev_iadd dX5_firstFor_68 ?_
          refine ev_iload_2 dX5_firstFor_69 ?_
          refine ev_iload_5 dX5_firstFor_70 ?_
          refine ev_invS dX5_firstFor_72 ml_X5_255 mt_X5_without (c_X5_without d) rfl rfl (rm_ok (by omega)) (Nat.le_of_ble_eq_true rfl) ?_
          refine Ev.pc 75 rfl ?_
          rw [nI_1]
          refine ev_invS dX5_firstFor_75 ml_X5_248 mt_X5_mostJoy (c_X5_mostJoy (r := 70) (H := H) (by decide) (by decide) hH4 k (d + (4 - k)) (h + 1) _ (by omega)) rfl rfl (rm_ok (by omega)) (Nat.le_of_ble_eq_true rfl) ?_
          refine Ev.pc 78 rfl ?_
          refine ev_istore_6 dX5_firstFor_78 rfl ?_
          refine ev_aload_0 dX5_firstFor_80 ?_
          refine ev_get dX5_firstFor_81 fk_X5_36 (by first | assumption | decide) (by decide) rfl ?_
          refine ev_iload_1 dX5_firstFor_84 ?_
          refine ev_bipush (7) dX5_firstFor_85 rfl ?_
          refine Ev.pc 87 rfl ?_
          refine ev_imul dX5_firstFor_87 ?_
          refine ev_iload_5 dX5_firstFor_88 ?_
          refine ev_iadd dX5_firstFor_90 ?_
          refine ev_invS dX5_firstFor_91 ml_X5_196 mt_X5_at (c_X5_at d (by first | assumption | decide)) rfl rfl (rm_ok (by omega)) (Nat.le_of_ble_eq_true rfl) ?_
          rw [e1]
          refine Ev.pc 94 rfl ?_
          refine ev_iload_6 dX5_firstFor_94 ?_
          refine Ev.pc 96 rfl ?_
          refine ev_iadd dX5_firstFor_96 ?_
          refine ev_iload_4 dX5_firstFor_97 ?_
          refine ev_icmp_ne 105 dX5_firstFor_99 rfl (fun h99 => ?_) (fun h99 => ?_)
          · refine ev_iinc_5 (1) dX5_firstFor_105 rfl rfl ?_
            refine ev_goto 45 dX5_firstFor_108 rfl ?_
            rw [nI_1]
            exact ihn (p + 1) _ (by omega) (by rw [if_neg (by simp only [decide_eq_true_eq]; intro hc; first | exact g hc.1 | exact h99 hc.2)] at he; exact he)
          · refine ev_iload_5 dX5_firstFor_102 ?_
            exact ev_ireturn dX5_firstFor_104 ⟨by (rw [if_pos (by simp only [decide_eq_true_eq]; exact ⟨g, h99⟩)] at he; rw [he]), by rfl⟩
  refine Ct.of (by decide +kernel) (Nat.le_of_ble_eq_true rfl) ⟨_, rfl, rfl⟩ ?_
  show Ev E _ RX5 cX5_firstFor 7 _ 0 [some (.ref (E.1 0)), some (.int (nI h)), some (.int fr), none, none, none, none] [] _
  refine ev_aload_0 dX5_firstFor_0 ?_
  refine ev_get dX5_firstFor_1 fk_X5_10 (by first | assumption | decide) (by decide) rfl ?_
  refine ev_get dX5_firstFor_4 fk_X5_89 (by first | assumption | decide) (by decide) rfl ?_
  simp only [Nat.reduceAdd]
  refine ev_get dX5_firstFor_7 fk_X5_120 (by first | assumption | decide) (by decide) rfl ?_
  refine ev_istore_3 dX5_firstFor_10 rfl ?_
  refine Ev.pc 11 rfl ?_
  rw [hH]
  refine ev_aload_0 dX5_firstFor_11 ?_
  refine ev_get dX5_firstFor_12 fk_X5_36 (by first | assumption | decide) (by decide) rfl ?_
  refine ev_iload_3 dX5_firstFor_15 ?_
  refine ev_iload_1 dX5_firstFor_16 ?_
  refine ev_iload_2 dX5_firstFor_17 ?_
  refine Ev.pc 18 rfl ?_
  refine ev_invS dX5_firstFor_18 ml_X5_248 mt_X5_mostJoy (c_X5_mostJoy (r := 70) (H := H) (by decide) (by decide) hH4 (k + 1) (d + (3 - k)) h _ (by omega)) rfl rfl (rm_ok (by omega)) (Nat.le_of_ble_eq_true rfl) ?_
  refine Ev.pc 21 rfl ?_
  refine ev_istore_4 dX5_firstFor_21 rfl ?_
  refine ev_aload_0 dX5_firstFor_23 ?_
  refine ev_get dX5_firstFor_24 fk_X5_36 (by first | assumption | decide) (by decide) rfl ?_
  refine ev_iload_3 dX5_firstFor_27 ?_
  refine Ev.pc 28 rfl ?_
  refine ev_iload_1 dX5_firstFor_28 ?_
  refine ev_iconst_1 dX5_firstFor_29 ?_
  refine ev_iadd dX5_firstFor_30 ?_
  refine ev_iload_2 dX5_firstFor_31 ?_
  rw [nI_1]
  refine ev_invS dX5_firstFor_32 ml_X5_248 mt_X5_mostJoy (c_X5_mostJoy (r := 70) (H := H) (by decide) (by decide) hH4 k (d + (4 - k)) (h + 1) _ (by omega)) rfl rfl (rm_ok (by omega)) (Nat.le_of_ble_eq_true rfl) ?_
  refine Ev.pc 35 rfl ?_
  refine ev_iload_4 dX5_firstFor_35 ?_
  refine ev_icmp_ne 42 dX5_firstFor_37 rfl (fun h37 => ?_) (fun h37 => ?_)
  · refine ev_iconst_0 dX5_firstFor_42 ?_
    refine ev_istore_5 dX5_firstFor_43 rfl ?_
    exact loop 7 0 _ (by omega) (by rw [ffC, if_neg h37])
  · refine ev_iconst_m1 dX5_firstFor_40 ?_
    exact ev_ireturn dX5_firstFor_41 ⟨by (rw [ffC, if_pos h37]), by rfl⟩
def fitS (g : Nat → Int32) (H : Nat) (fr : Int32) : Nat → Int32 × Int32
  | 0 => (-1, fr)
  | i + 1 => (ffC g (H - i - 1) i (fitS g H fr i).2, if ffC g (H - i - 1) i (fitS g H fr i).2 = -1 then (fitS g H fr i).2 else woI (fitS g H fr i).2 (ffC g (H - i - 1) i (fitS g H fr i).2))
def winI (σ : xS) (P : Nat) : Int32 := mkI (fun k => decide (σ.1 6 k = 0)) P
def fitQ (σ : xS) (P H : Nat) (h : Int32) : Int32 × xS :=
  if h = -1 then (mjC ((wTo σ H P 0 P).1 70) H 0 (winI σ P), wTo σ H P 0 P)
  else if hasIn (σ.1 2 8) h then ((fitS ((wTo σ H P 0 P).1 70) H (winI σ P) (h.toNatClampNeg + 1)).1, wTo σ H P 0 P)
  else (-10, badS σ)
theorem c_X5_fit (d : Nat) {E : xE} {σ : xS} {P H : Nat} {h : Int32} (hP : σ.1 2 7 = nI P) (hP7 : P ≤ 7) (hH : σ.1 2 8 = nI H) (hH4 : H ≤ 4) : Ct E (d + 7) yX5_fit cX5_fit 6 (some .int) [.ref (E.1 0), .int h] σ (some (.int (fitQ σ P H h).1)) (fitQ σ P H h).2 := by
  have e6 : (wTo σ H P 0 P).1 6 = σ.1 6 := wTo_f (by decide) (by decide)
  have e2 : (wTo σ H P 0 P).1 2 7 = nI P := by rw [wTo_f (by decide) (by decide)]; exact hP
  have e28 : (wTo σ H P 0 P).1 2 8 = nI H := by rw [wTo_f (by decide) (by decide)]; exact hH
  have loop : ∀ (n i hh : Nat) (p fr : Int32), h = nI hh → hh < H → i + n = hh + 1 → (p, fr) = fitS ((wTo σ H P 0 P).1 70) H (winI σ P) i → Ev E (rm (d + 7)) RX5 cX5_fit 6 (fun v t => v = some (.int (fitQ σ P H h).1) ∧ t = (fitQ σ P H h).2) 63 [some (.ref (E.1 0)), some (.int h), some (.ref (E.1 2)), some (.int fr), some (.int p), some (.int (nI i))] [] (wTo σ H P 0 P) := by
    intro n
    induction n with
    | zero =>
      intro i hh p fr he hh2 hi hs
      have hne : ¬ h = -1 := by
        rw [he]; intro hc
        have := congrArg Int32.toInt hc
        rw [nI_toInt (by omega)] at this
        simp at this
      have hin : hasIn (σ.1 2 8) h := by rw [hH, he]; exact hasIn_of (by omega) hh2
      have hQ : fitQ σ P H h = ((fitS ((wTo σ H P 0 P).1 70) H (winI σ P) (hh + 1)).1, wTo σ H P 0 P) := by rw [fitQ, if_neg hne, if_pos hin, he, nI_clamp (by omega)]
      refine ev_iload_5 dX5_fit_63 ?_
      refine ev_iload_1 dX5_fit_65 ?_
      refine ev_icmp_gt 97 dX5_fit_66 rfl (fun h66 => ?_) (fun h66 => ?_)
      · refine ev_iload_4 dX5_fit_97 ?_
        exact ev_ireturn dX5_fit_99 ⟨by (rw [hQ, show hh + 1 = i by omega, ← hs]), by (rw [hQ])⟩
      · exact absurd (by rw [he]; exact nI_lt (by omega) (by omega)) h66
    | succ n ihn =>
      intro i hh p fr he hh2 hi hs
      have hs2 : fr = (fitS ((wTo σ H P 0 P).1 70) H (winI σ P) i).2 := by rw [← hs]
      refine ev_iload_5 dX5_fit_63 ?_
      refine ev_iload_1 dX5_fit_65 ?_
      refine ev_icmp_gt 97 dX5_fit_66 rfl (fun h66 => ?_) (fun h66 => ?_)
      · exact absurd h66 (by rw [he]; exact nI_nlt (by omega) (by omega))
      · refine ev_aload_0 dX5_fit_69 ?_
        refine ev_iload_5 dX5_fit_70 ?_
        refine ev_iload_3 dX5_fit_72 ?_
        refine ev_invV (ci := 5) dX5_fit_73 ml_X5_252 mt_X5_firstFor (c_X5_firstFor d (H := H) e28 hH4 (H - i - 1) i _ (by omega)) (by first | assumption | decide) (by decide) rfl rfl rfl (rm_ok (by omega)) (Nat.le_of_ble_eq_true rfl) ?_
        refine Ev.pc 76 rfl ?_
        refine ev_istore_4 dX5_fit_76 rfl ?_
        refine Ev.pc 78 rfl ?_
        refine ev_iload_4 dX5_fit_78 ?_
        refine ev_iconst_m1 dX5_fit_80 ?_
        refine ev_icmp_eq 91 dX5_fit_81 rfl (fun h81 => ?_) (fun h81 => ?_)
        · refine ev_iinc_5 (1) dX5_fit_91 rfl rfl ?_
          refine ev_goto 63 dX5_fit_94 rfl ?_
          rw [nI_1]
          exact ihn (i + 1) hh _ _ he hh2 (by omega) (by rw [fitS, ← hs2]; first | rw [if_pos h81] | rw [if_neg h81])
        · refine ev_iload_3 dX5_fit_84 ?_
          refine ev_iload_4 dX5_fit_85 ?_
          refine ev_invS dX5_fit_87 ml_X5_255 mt_X5_without (c_X5_without d) rfl rfl (rm_ok (by omega)) (Nat.le_of_ble_eq_true rfl) ?_
          refine Ev.pc 90 rfl ?_
          refine ev_istore_3 dX5_fit_90 rfl ?_
          refine ev_iinc_5 (1) dX5_fit_91 rfl rfl ?_
          refine Ev.pc 94 rfl ?_
          refine ev_goto 63 dX5_fit_94 rfl ?_
          rw [nI_1]
          exact ihn (i + 1) hh _ _ he hh2 (by omega) (by rw [fitS, ← hs2]; first | rw [if_pos h81] | rw [if_neg h81])
  refine Ct.of (by decide +kernel) (Nat.le_of_ble_eq_true rfl) ⟨_, rfl, rfl⟩ ?_
  show Ev E _ RX5 cX5_fit 6 _ 0 [some (.ref (E.1 0)), some (.int h), none, none, none, none] [] _
  refine ev_aload_0 dX5_fit_0 ?_
  refine ev_get dX5_fit_1 fk_X5_10 (by first | assumption | decide) (by decide) rfl ?_
  refine ev_get dX5_fit_4 fk_X5_89 (by first | assumption | decide) (by decide) rfl ?_
  simp only [Nat.reduceAdd]
  refine ev_astore_2 dX5_fit_7 rfl ?_
  refine ev_iload_1 dX5_fit_8 ?_
  refine Ev.pc 9 rfl ?_
  refine ev_iconst_m1 dX5_fit_9 ?_
  refine ev_icmp_eq 28 dX5_fit_10 rfl (fun h10 => ?_) (fun h10 => ?_)
  · refine ev_aload_0 dX5_fit_28 ?_
    refine ev_invV (ci := 5) dX5_fit_29 ml_X5_245 mt_X5_weigh (c_X5_weigh d hP hP7 hH hH4) (by first | assumption | decide) (by decide) rfl rfl rfl (rm_ok (by omega)) (Nat.le_of_ble_eq_true rfl) ?_
    refine Ev.pc 32 rfl ?_
    refine ev_aload_2 dX5_fit_32 ?_
    refine ev_iconst_0 dX5_fit_33 ?_
    refine ev_invV (ci := 4) dX5_fit_34 ml_X5_236 mt_X4_bitsAt (c_X4_bitsAt d (t := 2) (P := P) town_now e2 hP7) (by first | assumption | decide) (by decide) rfl rfl rfl (rm_ok (by omega)) (Nat.le_of_ble_eq_true rfl) ?_
    simp only [Nat.reduceAdd, e6]
    refine Ev.pc 37 rfl ?_
    refine ev_istore_3 dX5_fit_37 rfl ?_
    refine ev_iload_1 dX5_fit_38 ?_
    refine ev_iconst_m1 dX5_fit_39 ?_
    refine ev_icmp_ne 57 dX5_fit_40 rfl (fun h40 => ?_) (fun h40 => ?_)
    · refine ev_iconst_m1 dX5_fit_57 ?_
      refine ev_istore_4 dX5_fit_58 rfl ?_
      refine ev_iconst_0 dX5_fit_60 ?_
      refine ev_istore_5 dX5_fit_61 rfl ?_
      have hin : hasIn (nI H) h := by
        rw [← hH]
        first
          | exact absurd ‹h = -1› ‹¬ h = -1›
          | exact Decidable.not_not.mp (fun hc => h18 (b2i_0.mpr hc))
      obtain ⟨hh, hh1, hh2⟩ := hasIn_nI (by omega) hin
      exact loop (hh + 1) 0 hh _ _ hh2 hh1 (by omega) rfl
    · refine ev_aload_0 dX5_fit_43 ?_
      refine ev_get dX5_fit_44 fk_X5_36 (by first | assumption | decide) (by decide) rfl ?_
      refine ev_aload_2 dX5_fit_47 ?_
      refine ev_get dX5_fit_48 fk_X5_120 (by first | assumption | decide) (by decide) rfl ?_
      refine ev_iconst_0 dX5_fit_51 ?_
      refine Ev.pc 52 rfl ?_
      refine ev_iload_3 dX5_fit_52 ?_
      rw [e28]
      refine ev_invS dX5_fit_53 ml_X5_248 mt_X5_mostJoy (c_X5_mostJoy (r := 70) (H := H) (by decide) (by decide) hH4 H (d + (4 - H)) 0 _ (by omega)) rfl rfl (rm_ok (by omega)) (Nat.le_of_ble_eq_true rfl) ?_
      refine Ev.pc 56 rfl ?_
      exact ev_ireturn dX5_fit_56 ⟨by ((try simp only [b2i_0, b2i_1, Decidable.not_not] at *); simp only [fitQ, winI]; repeat' (first | with_reducible rfl | contradiction | (exfalso; simp_all; done) | split)), by ((try simp only [b2i_0, b2i_1, Decidable.not_not] at *); simp only [fitQ, badS]; repeat' (first | with_reducible rfl | contradiction | (exfalso; simp_all; done) | split))⟩
  · refine ev_aload_2 dX5_fit_13 ?_
    refine ev_iload_1 dX5_fit_14 ?_
    refine ev_invV (ci := 4) dX5_fit_15 ml_X5_200 mt_X4_hasHearer (c_X4_hasHearer d (t := 2) town_now.1) (by first | assumption | decide) (by decide) rfl rfl rfl (rm_ok (by omega)) (Nat.le_of_ble_eq_true rfl) ?_
    refine Ev.pc 18 rfl ?_
    refine ev_if_ne 28 dX5_fit_18 rfl (fun h18 => ?_) (fun h18 => ?_)
    · refine ev_aload_0 dX5_fit_28 ?_
      refine ev_invV (ci := 5) dX5_fit_29 ml_X5_245 mt_X5_weigh (c_X5_weigh d hP hP7 hH hH4) (by first | assumption | decide) (by decide) rfl rfl rfl (rm_ok (by omega)) (Nat.le_of_ble_eq_true rfl) ?_
      refine Ev.pc 32 rfl ?_
      refine ev_aload_2 dX5_fit_32 ?_
      refine ev_iconst_0 dX5_fit_33 ?_
      refine ev_invV (ci := 4) dX5_fit_34 ml_X5_236 mt_X4_bitsAt (c_X4_bitsAt d (t := 2) (P := P) town_now e2 hP7) (by first | assumption | decide) (by decide) rfl rfl rfl (rm_ok (by omega)) (Nat.le_of_ble_eq_true rfl) ?_
      simp only [Nat.reduceAdd, e6]
      refine Ev.pc 37 rfl ?_
      refine ev_istore_3 dX5_fit_37 rfl ?_
      refine ev_iload_1 dX5_fit_38 ?_
      refine ev_iconst_m1 dX5_fit_39 ?_
      refine ev_icmp_ne 57 dX5_fit_40 rfl (fun h40 => ?_) (fun h40 => ?_)
      · refine ev_iconst_m1 dX5_fit_57 ?_
        refine ev_istore_4 dX5_fit_58 rfl ?_
        refine ev_iconst_0 dX5_fit_60 ?_
        refine ev_istore_5 dX5_fit_61 rfl ?_
        have hin : hasIn (nI H) h := by
          rw [← hH]
          first
            | exact absurd ‹h = -1› ‹¬ h = -1›
            | exact Decidable.not_not.mp (fun hc => h18 (b2i_0.mpr hc))
        obtain ⟨hh, hh1, hh2⟩ := hasIn_nI (by omega) hin
        exact loop (hh + 1) 0 hh _ _ hh2 hh1 (by omega) rfl
      · refine ev_aload_0 dX5_fit_43 ?_
        refine ev_get dX5_fit_44 fk_X5_36 (by first | assumption | decide) (by decide) rfl ?_
        refine ev_aload_2 dX5_fit_47 ?_
        refine ev_get dX5_fit_48 fk_X5_120 (by first | assumption | decide) (by decide) rfl ?_
        refine ev_iconst_0 dX5_fit_51 ?_
        refine Ev.pc 52 rfl ?_
        refine ev_iload_3 dX5_fit_52 ?_
        rw [e28]
        refine ev_invS dX5_fit_53 ml_X5_248 mt_X5_mostJoy (c_X5_mostJoy (r := 70) (H := H) (by decide) (by decide) hH4 H (d + (4 - H)) 0 _ (by omega)) rfl rfl (rm_ok (by omega)) (Nat.le_of_ble_eq_true rfl) ?_
        refine Ev.pc 56 rfl ?_
        exact ev_ireturn dX5_fit_56 ⟨by ((try simp only [b2i_0, b2i_1, Decidable.not_not] at *); simp only [fitQ, winI]; repeat' (first | with_reducible rfl | contradiction | (exfalso; simp_all; done) | split)), by ((try simp only [b2i_0, b2i_1, Decidable.not_not] at *); simp only [fitQ, badS]; repeat' (first | with_reducible rfl | contradiction | (exfalso; simp_all; done) | split))⟩
    · refine ev_aload_0 dX5_fit_21 ?_
      refine ev_bipush (-10) dX5_fit_22 rfl ?_
      refine ev_invV (ci := 5) dX5_fit_24 ml_X5_73 mt_X5_bad_ (c_X5_bad_ d) (by first | assumption | decide) (by decide) rfl rfl rfl (rm_ok (by omega)) (Nat.le_of_ble_eq_true rfl) ?_
      refine Ev.pc 27 rfl ?_
      exact ev_ireturn dX5_fit_27 ⟨by ((try simp only [b2i_0, b2i_1, Decidable.not_not] at *); simp only [fitQ, winI]; repeat' (first | with_reducible rfl | contradiction | (exfalso; simp_all; done) | split)), by ((try simp only [b2i_0, b2i_1, Decidable.not_not] at *); simp only [fitQ, badS]; repeat' (first | with_reducible rfl | contradiction | (exfalso; simp_all; done) | split))⟩

def bbS (g pr : Nat → Int32) (purse : Int32) (s : Nat) (win : Int32) : Nat → Int32 × Int32
  | 0 => (0, 0)
  | b + 1 => if nI (b + 1) &&& (win ^^^ (-1)) = 0 then (if purse < sumV pr 0 (nI (b + 1)) 7 then bbS g pr purse s win b else (if sumV g s (nI (b + 1)) 7 ≤ (bbS g pr purse s win b).2 then bbS g pr purse s win b else (nI (b + 1), sumV g s (nI (b + 1)) 7))) else bbS g pr purse s win b
theorem c_X5_bestBuy (d : Nat) {E : xE} {σ : xS} {h : Nat} {purse win : Int32} (hh : h < 4) : Ct E (d + 2) yX5_bestBuy cX5_bestBuy 8 (some .int) [.ref (E.1 0), .int purse, .int (nI h), .int win] σ (some (.int (bbS (σ.1 70) (σ.1 71) purse (h * 7) win 127).1)) σ := by
  have e70 : xlen 70 = 28 := by decide
  have eh : nI h * 7 = nI (h * 7) := by rw [show (7 : Int32) = nI 7 from rfl, pk_mul]
  have loop : ∀ (n b : Nat) (best most : Int32) (x7 : Option Value), b + 1 + n = 128 → (best, most) = bbS (σ.1 70) (σ.1 71) purse (h * 7) win b → Ev E (rm (d + 2)) RX5 cX5_bestBuy 8 (fun v t => v = some (.int (bbS (σ.1 70) (σ.1 71) purse (h * 7) win 127).1) ∧ t = σ) 9 [some (.ref (E.1 0)), some (.int purse), some (.int (nI h)), some (.int win), some (.int best), some (.int most), some (.int (nI (b + 1))), x7] [] σ := by
    intro n
    induction n with
    | zero =>
      intro b best most x7 hb hs
      refine ev_iload_6 dX5_bestBuy_9 ?_
      refine ev_sipush (128) dX5_bestBuy_11 rfl ?_
      refine ev_icmp_ge 76 dX5_bestBuy_14 rfl (fun h14 => ?_) (fun h14 => ?_)
      · refine ev_iload_4 dX5_bestBuy_76 ?_
        exact ev_ireturn dX5_bestBuy_78 ⟨by (rw [show 127 = b by omega, ← hs]), by rfl⟩
      · exact absurd (show nI 128 ≤ nI (b + 1) from nI_le (by omega) (by omega)) h14
    | succ n ihn =>
      intro b best most x7 hb hs
      have hs2 : most = (bbS (σ.1 70) (σ.1 71) purse (h * 7) win b).2 := by rw [← hs]
      refine ev_iload_6 dX5_bestBuy_9 ?_
      refine ev_sipush (128) dX5_bestBuy_11 rfl ?_
      refine ev_icmp_ge 76 dX5_bestBuy_14 rfl (fun h14 => ?_) (fun h14 => ?_)
      · exact absurd h14 (show ¬ nI 128 ≤ nI (b + 1) from nI_ge (by omega) (by omega))
      · refine ev_iload_6 dX5_bestBuy_17 ?_
        refine ev_iload_3 dX5_bestBuy_19 ?_
        refine ev_iconst_m1 dX5_bestBuy_20 ?_
        refine ev_ixor dX5_bestBuy_21 ?_
        refine ev_iand dX5_bestBuy_22 ?_
        refine Ev.pc 23 rfl ?_
        refine ev_if_ne 70 dX5_bestBuy_23 rfl (fun h23 => ?_) (fun h23 => ?_)
        · refine ev_iinc_6 (1) dX5_bestBuy_70 rfl rfl ?_
          refine ev_goto 9 dX5_bestBuy_73 rfl ?_
          rw [nI_1]
          exact ihn (b + 1) _ _ _ (by omega) (by rw [bbS, ← hs2, ← hs]; repeat' (first | with_reducible rfl | contradiction | split))
        · refine ev_aload_0 dX5_bestBuy_26 ?_
          refine ev_get dX5_bestBuy_27 fk_X5_40 (by first | assumption | decide) (by decide) rfl ?_
          refine ev_iconst_0 dX5_bestBuy_30 ?_
          refine ev_iload_6 dX5_bestBuy_31 ?_
          refine ev_invS dX5_bestBuy_33 ml_X5_262 mt_X5_sumOver (c_X5_sumOver d (r := 71) (s := 0) (by decide) (by decide)) rfl rfl (rm_ok (by omega)) (Nat.le_of_ble_eq_true rfl) ?_
          refine Ev.pc 36 rfl ?_
          refine ev_iload_1 dX5_bestBuy_36 ?_
          refine ev_icmp_gt 70 dX5_bestBuy_37 rfl (fun h37 => ?_) (fun h37 => ?_)
          · refine ev_iinc_6 (1) dX5_bestBuy_70 rfl rfl ?_
            refine ev_goto 9 dX5_bestBuy_73 rfl ?_
            rw [nI_1]
            exact ihn (b + 1) _ _ _ (by omega) (by rw [bbS, ← hs2, ← hs]; repeat' (first | with_reducible rfl | contradiction | split))
          · refine ev_aload_0 dX5_bestBuy_40 ?_
            refine ev_get dX5_bestBuy_41 fk_X5_36 (by first | assumption | decide) (by decide) rfl ?_
            refine ev_iload_2 dX5_bestBuy_44 ?_
            refine ev_bipush (7) dX5_bestBuy_45 rfl ?_
            refine ev_imul dX5_bestBuy_47 ?_
            refine Ev.pc 48 rfl ?_
            refine ev_iload_6 dX5_bestBuy_48 ?_
            rw [eh]
            refine ev_invS dX5_bestBuy_50 ml_X5_262 mt_X5_sumOver (c_X5_sumOver d (r := 70) (s := h * 7) (by decide) (by omega)) rfl rfl (rm_ok (by omega)) (Nat.le_of_ble_eq_true rfl) ?_
            refine Ev.pc 53 rfl ?_
            refine ev_istore_7 dX5_bestBuy_53 rfl ?_
            refine ev_iload_7 dX5_bestBuy_55 ?_
            refine ev_iload_5 dX5_bestBuy_57 ?_
            refine Ev.pc 59 rfl ?_
            refine ev_icmp_le 70 dX5_bestBuy_59 rfl (fun h59 => ?_) (fun h59 => ?_)
            · refine ev_iinc_6 (1) dX5_bestBuy_70 rfl rfl ?_
              refine ev_goto 9 dX5_bestBuy_73 rfl ?_
              rw [nI_1]
              exact ihn (b + 1) _ _ _ (by omega) (by rw [bbS, ← hs2, ← hs]; repeat' (first | with_reducible rfl | contradiction | split))
            · refine ev_iload_7 dX5_bestBuy_62 ?_
              refine ev_istore_5 dX5_bestBuy_64 rfl ?_
              refine ev_iload_6 dX5_bestBuy_66 ?_
              refine ev_istore_4 dX5_bestBuy_68 rfl ?_
              refine ev_iinc_6 (1) dX5_bestBuy_70 rfl rfl ?_
              refine Ev.pc 73 rfl ?_
              refine ev_goto 9 dX5_bestBuy_73 rfl ?_
              rw [nI_1]
              exact ihn (b + 1) _ _ _ (by omega) (by rw [bbS, ← hs2, ← hs]; repeat' (first | with_reducible rfl | contradiction | split))
  refine Ct.of (by decide +kernel) (Nat.le_of_ble_eq_true rfl) ⟨_, rfl, rfl⟩ ?_
  show Ev E _ RX5 cX5_bestBuy 8 _ 0 [some (.ref (E.1 0)), some (.int purse), some (.int (nI h)), some (.int win), none, none, none, none] [] _
  refine ev_iconst_0 dX5_bestBuy_0 ?_
  refine ev_istore_4 dX5_bestBuy_1 rfl ?_
  refine ev_iconst_0 dX5_bestBuy_3 ?_
  refine ev_istore_5 dX5_bestBuy_4 rfl ?_
  refine ev_iconst_1 dX5_bestBuy_6 ?_
  refine Ev.pc 7 rfl ?_
  refine ev_istore_6 dX5_bestBuy_7 rfl ?_
  exact loop 127 0 0 0 _ (by omega) rfl
def buyQ (σ : xS) (P H : Nat) (b h w : Int32) : Int32 × xS :=
  let sw := wTo σ H P 0 P
  let bits := (bbS (sw.1 70) (sw.1 71) (xat σ 9 b) (h.toNatClampNeg * 7) (winI σ P) 127).1
  if hasIn (σ.1 2 9) b then if hasIn (σ.1 2 8) h then if btw w 0 1 then (if w = 1 then bits else sumV (sw.1 70) (h.toNatClampNeg * 7) bits 7, sw) else (-2, badS σ) else (-2, badS σ) else (-2, badS σ)
theorem c_X5_buy (d : Nat) {E : xE} {σ : xS} {P H : Nat} {b h w : Int32} (hP : σ.1 2 7 = nI P) (hP7 : P ≤ 7) (hH : σ.1 2 8 = nI H) (hH4 : H ≤ 4) : Ct E (d + 5) yX5_buy cX5_buy 6 (some .int) [.ref (E.1 0), .int b, .int h, .int w] σ (some (.int (buyQ σ P H b h w).1)) (buyQ σ P H b h w).2 := by
  have e6 : (wTo σ H P 0 P).1 6 = σ.1 6 := wTo_f (by decide) (by decide)
  have e9 : xat (wTo σ H P 0 P) 9 b = xat σ 9 b := xat_o (wTo_f (by decide) (by decide)) b
  have e2 : (wTo σ H P 0 P).1 2 7 = nI P := by rw [wTo_f (by decide) (by decide)]; exact hP
  have e70 : xlen 70 = 28 := by decide
  by_cases hin : hasIn (σ.1 2 8) h
  ·
    obtain ⟨k, hk, he⟩ := hasIn_nI (by omega) (hH ▸ hin)
    have ek : h.toNatClampNeg = k := by rw [he, nI_clamp (by omega)]
    have eh : h * 7 = nI (k * 7) := by rw [he, show (7 : Int32) = nI 7 from rfl, pk_mul]
    refine Ct.of (by decide +kernel) (Nat.le_of_ble_eq_true rfl) ⟨_, rfl, rfl⟩ ?_
    show Ev E _ RX5 cX5_buy 6 _ 0 [some (.ref (E.1 0)), some (.int b), some (.int h), some (.int w), none, none] [] _
    refine ev_aload_0 dX5_buy_0 ?_
    refine ev_get dX5_buy_1 fk_X5_10 (by first | assumption | decide) (by decide) rfl ?_
    refine ev_get dX5_buy_4 fk_X5_89 (by first | assumption | decide) (by decide) rfl ?_
    simp only [Nat.reduceAdd]
    refine ev_astore_4 dX5_buy_7 rfl ?_
    refine ev_aload_4 dX5_buy_9 ?_
    refine Ev.pc 11 rfl ?_
    refine ev_iload_1 dX5_buy_11 ?_
    refine ev_invV (ci := 4) dX5_buy_12 ml_X5_175 mt_X4_hasBuyer (c_X4_hasBuyer d (t := 2) town_now.1) (by first | assumption | decide) (by decide) rfl rfl rfl (rm_ok (by omega)) (Nat.le_of_ble_eq_true rfl) ?_
    refine Ev.pc 15 rfl ?_
    refine ev_if_eq 36 dX5_buy_15 rfl (fun h15 => ?_) (fun h15 => ?_)
    · refine ev_aload_0 dX5_buy_36 ?_
      refine ev_invV (ci := 5) dX5_buy_37 ml_X5_102 mt_X5_bad (c_X5_bad d) (by first | assumption | decide) (by decide) rfl rfl rfl (rm_ok (by omega)) (Nat.le_of_ble_eq_true rfl) ?_
      refine Ev.pc 40 rfl ?_
      exact ev_ireturn dX5_buy_40 ⟨by ((try simp only [b2i_0, b2i_1, Decidable.not_not] at *); simp only [buyQ, winI, ek]; repeat' (first | with_reducible rfl | contradiction | (exfalso; simp_all; done) | split)), by ((try simp only [b2i_0, b2i_1, Decidable.not_not] at *); simp only [buyQ, badS]; repeat' (first | with_reducible rfl | contradiction | (exfalso; simp_all; done) | split))⟩
    · refine ev_aload_4 dX5_buy_18 ?_
      refine ev_iload_2 dX5_buy_20 ?_
      refine ev_invV (ci := 4) dX5_buy_21 ml_X5_200 mt_X4_hasHearer (c_X4_hasHearer d (t := 2) town_now.1) (by first | assumption | decide) (by decide) rfl rfl rfl (rm_ok (by omega)) (Nat.le_of_ble_eq_true rfl) ?_
      refine Ev.pc 24 rfl ?_
      refine ev_if_eq 36 dX5_buy_24 rfl (fun h24 => ?_) (fun h24 => ?_)
      · exact absurd hin (b2i_0.mp h24)
      · refine ev_iload_3 dX5_buy_27 ?_
        refine ev_iconst_0 dX5_buy_28 ?_
        refine ev_iconst_1 dX5_buy_29 ?_
        refine ev_invS dX5_buy_30 ml_X5_98 mt_X5_between (c_X5_between d) rfl rfl (rm_ok (by omega)) (Nat.le_of_ble_eq_true rfl) ?_
        refine Ev.pc 33 rfl ?_
        refine ev_if_ne 41 dX5_buy_33 rfl (fun h33 => ?_) (fun h33 => ?_)
        · refine ev_aload_0 dX5_buy_41 ?_
          refine ev_invV (ci := 5) dX5_buy_42 ml_X5_245 mt_X5_weigh (c_X5_weigh d hP hP7 hH hH4) (by first | assumption | decide) (by decide) rfl rfl rfl (rm_ok (by omega)) (Nat.le_of_ble_eq_true rfl) ?_
          refine Ev.pc 45 rfl ?_
          refine ev_aload_0 dX5_buy_45 ?_
          refine ev_aload_4 dX5_buy_46 ?_
          refine ev_get dX5_buy_48 fk_X5_193 (by first | assumption | decide) (by decide) rfl ?_
          simp only [Nat.reduceAdd]
          refine Ev.pc 51 rfl ?_
          refine ev_iload_1 dX5_buy_51 ?_
          refine ev_invS dX5_buy_52 ml_X5_196 mt_X5_at (c_X5_at d (by first | assumption | decide)) rfl rfl (rm_ok (by omega)) (Nat.le_of_ble_eq_true rfl) ?_
          rw [e9]
          refine Ev.pc 55 rfl ?_
          refine ev_iload_2 dX5_buy_55 ?_
          refine ev_aload_4 dX5_buy_56 ?_
          refine ev_iconst_0 dX5_buy_58 ?_
          refine Ev.pc 59 rfl ?_
          refine ev_invV (ci := 4) dX5_buy_59 ml_X5_236 mt_X4_bitsAt (c_X4_bitsAt d (t := 2) (P := P) town_now e2 hP7) (by first | assumption | decide) (by decide) rfl rfl rfl (rm_ok (by omega)) (Nat.le_of_ble_eq_true rfl) ?_
          simp only [Nat.reduceAdd, e6]
          refine Ev.pc 62 rfl ?_
          refine ev_invV (ci := 5) dX5_buy_62 ml_X5_258 mt_X5_bestBuy (he ▸ c_X5_bestBuy d (h := k) (by omega)) (by first | assumption | decide) (by decide) rfl rfl rfl (rm_ok (by omega)) (Nat.le_of_ble_eq_true rfl) ?_
          refine Ev.pc 65 rfl ?_
          refine ev_istore_5 dX5_buy_65 rfl ?_
          refine ev_iload_3 dX5_buy_67 ?_
          refine ev_iconst_1 dX5_buy_68 ?_
          refine Ev.pc 69 rfl ?_
          refine ev_icmp_ne 77 dX5_buy_69 rfl (fun h69 => ?_) (fun h69 => ?_)
          · refine ev_aload_0 dX5_buy_77 ?_
            refine ev_get dX5_buy_78 fk_X5_36 (by first | assumption | decide) (by decide) rfl ?_
            refine ev_iload_2 dX5_buy_81 ?_
            refine ev_bipush (7) dX5_buy_82 rfl ?_
            refine ev_imul dX5_buy_84 ?_
            refine Ev.pc 85 rfl ?_
            refine ev_iload_5 dX5_buy_85 ?_
            rw [eh]
            refine ev_invS dX5_buy_87 ml_X5_262 mt_X5_sumOver (c_X5_sumOver d (r := 70) (s := k * 7) (by decide) (by omega)) rfl rfl (rm_ok (by omega)) (Nat.le_of_ble_eq_true rfl) ?_
            refine Ev.pc 90 rfl ?_
            exact ev_ireturn dX5_buy_90 ⟨by ((try simp only [b2i_0, b2i_1, Decidable.not_not] at *); simp only [buyQ, winI, ek]; repeat' (first | with_reducible rfl | contradiction | (exfalso; simp_all; done) | split)), by ((try simp only [b2i_0, b2i_1, Decidable.not_not] at *); simp only [buyQ, badS]; repeat' (first | with_reducible rfl | contradiction | (exfalso; simp_all; done) | split))⟩
          · refine ev_iload_5 dX5_buy_72 ?_
            refine ev_goto 90 dX5_buy_74 rfl ?_
            exact ev_ireturn dX5_buy_90 ⟨by ((try simp only [b2i_0, b2i_1, Decidable.not_not] at *); simp only [buyQ, winI, ek]; repeat' (first | with_reducible rfl | contradiction | (exfalso; simp_all; done) | split)), by ((try simp only [b2i_0, b2i_1, Decidable.not_not] at *); simp only [buyQ, badS]; repeat' (first | with_reducible rfl | contradiction | (exfalso; simp_all; done) | split))⟩
        · refine ev_aload_0 dX5_buy_36 ?_
          refine ev_invV (ci := 5) dX5_buy_37 ml_X5_102 mt_X5_bad (c_X5_bad d) (by first | assumption | decide) (by decide) rfl rfl rfl (rm_ok (by omega)) (Nat.le_of_ble_eq_true rfl) ?_
          refine Ev.pc 40 rfl ?_
          exact ev_ireturn dX5_buy_40 ⟨by ((try simp only [b2i_0, b2i_1, Decidable.not_not] at *); simp only [buyQ, winI, ek]; repeat' (first | with_reducible rfl | contradiction | (exfalso; simp_all; done) | split)), by ((try simp only [b2i_0, b2i_1, Decidable.not_not] at *); simp only [buyQ, badS]; repeat' (first | with_reducible rfl | contradiction | (exfalso; simp_all; done) | split))⟩
  ·
    refine Ct.of (by decide +kernel) (Nat.le_of_ble_eq_true rfl) ⟨_, rfl, rfl⟩ ?_
    show Ev E _ RX5 cX5_buy 6 _ 0 [some (.ref (E.1 0)), some (.int b), some (.int h), some (.int w), none, none] [] _
    refine ev_aload_0 dX5_buy_0 ?_
    refine ev_get dX5_buy_1 fk_X5_10 (by first | assumption | decide) (by decide) rfl ?_
    refine ev_get dX5_buy_4 fk_X5_89 (by first | assumption | decide) (by decide) rfl ?_
    simp only [Nat.reduceAdd]
    refine ev_astore_4 dX5_buy_7 rfl ?_
    refine ev_aload_4 dX5_buy_9 ?_
    refine Ev.pc 11 rfl ?_
    refine ev_iload_1 dX5_buy_11 ?_
    refine ev_invV (ci := 4) dX5_buy_12 ml_X5_175 mt_X4_hasBuyer (c_X4_hasBuyer d (t := 2) town_now.1) (by first | assumption | decide) (by decide) rfl rfl rfl (rm_ok (by omega)) (Nat.le_of_ble_eq_true rfl) ?_
    refine Ev.pc 15 rfl ?_
    refine ev_if_eq 36 dX5_buy_15 rfl (fun h15 => ?_) (fun h15 => ?_)
    · refine ev_aload_0 dX5_buy_36 ?_
      refine ev_invV (ci := 5) dX5_buy_37 ml_X5_102 mt_X5_bad (c_X5_bad d) (by first | assumption | decide) (by decide) rfl rfl rfl (rm_ok (by omega)) (Nat.le_of_ble_eq_true rfl) ?_
      refine Ev.pc 40 rfl ?_
      exact ev_ireturn dX5_buy_40 ⟨by ((try simp only [b2i_0, b2i_1, Decidable.not_not] at *); simp only [buyQ]; repeat' (first | with_reducible rfl | contradiction | (exfalso; simp_all; done) | split)), by ((try simp only [b2i_0, b2i_1, Decidable.not_not] at *); simp only [buyQ, badS]; repeat' (first | with_reducible rfl | contradiction | (exfalso; simp_all; done) | split))⟩
    · refine ev_aload_4 dX5_buy_18 ?_
      refine ev_iload_2 dX5_buy_20 ?_
      refine ev_invV (ci := 4) dX5_buy_21 ml_X5_200 mt_X4_hasHearer (c_X4_hasHearer d (t := 2) town_now.1) (by first | assumption | decide) (by decide) rfl rfl rfl (rm_ok (by omega)) (Nat.le_of_ble_eq_true rfl) ?_
      refine Ev.pc 24 rfl ?_
      refine ev_if_eq 36 dX5_buy_24 rfl (fun h24 => ?_) (fun h24 => ?_)
      · refine ev_aload_0 dX5_buy_36 ?_
        refine ev_invV (ci := 5) dX5_buy_37 ml_X5_102 mt_X5_bad (c_X5_bad d) (by first | assumption | decide) (by decide) rfl rfl rfl (rm_ok (by omega)) (Nat.le_of_ble_eq_true rfl) ?_
        refine Ev.pc 40 rfl ?_
        exact ev_ireturn dX5_buy_40 ⟨by ((try simp only [b2i_0, b2i_1, Decidable.not_not] at *); simp only [buyQ]; repeat' (first | with_reducible rfl | contradiction | (exfalso; simp_all; done) | split)), by ((try simp only [b2i_0, b2i_1, Decidable.not_not] at *); simp only [buyQ, badS]; repeat' (first | with_reducible rfl | contradiction | (exfalso; simp_all; done) | split))⟩
      · exact absurd (Decidable.not_not.mp (fun hc => h24 (b2i_0.mpr hc))) hin
def cheapQ (σ : xS) (P H : Nat) : Int32 := lpC ((wTo σ H P 0 P).1 70) ((wTo σ H P 0 P).1 71) (mkI (fun h => decide (mkI (fun k => decide (σ.1 6 k = 10 + nI h)) P = 0)) H) 4 0 (winI σ P)
theorem c_X5_cheap (d : Nat) {E : xE} {σ : xS} {P H : Nat} (hP : σ.1 2 7 = nI P) (hP7 : P ≤ 7) (hH : σ.1 2 8 = nI H) (hH4 : H ≤ 4) : Ct E (d + 6) yX5_cheap cX5_cheap 1 (some .int) [.ref (E.1 0)] σ (some (.int (cheapQ σ P H))) (wTo σ H P 0 P) := by
  have e6 : (wTo σ H P 0 P).1 6 = σ.1 6 := wTo_f (by decide) (by decide)
  have e2 : (wTo σ H P 0 P).1 2 7 = nI P := by rw [wTo_f (by decide) (by decide)]; exact hP
  have e28 : (wTo σ H P 0 P).1 2 8 = nI H := by rw [wTo_f (by decide) (by decide)]; exact hH
  refine Ct.of (by decide +kernel) (Nat.le_of_ble_eq_true rfl) ⟨_, rfl, rfl⟩ ?_
  show Ev E _ RX5 cX5_cheap 1 _ 0 [some (.ref (E.1 0))] [] _
  refine ev_aload_0 dX5_cheap_0 ?_
  refine ev_invV (ci := 5) dX5_cheap_1 ml_X5_245 mt_X5_weigh (c_X5_weigh d hP hP7 hH hH4) (by first | assumption | decide) (by decide) rfl rfl rfl (rm_ok (by omega)) (Nat.le_of_ble_eq_true rfl) ?_
  refine Ev.pc 4 rfl ?_
  refine ev_aload_0 dX5_cheap_4 ?_
  refine ev_get dX5_cheap_5 fk_X5_36 (by first | assumption | decide) (by decide) rfl ?_
  refine ev_aload_0 dX5_cheap_8 ?_
  refine Ev.pc 9 rfl ?_
  refine ev_get dX5_cheap_9 fk_X5_40 (by first | assumption | decide) (by decide) rfl ?_
  refine ev_aload_0 dX5_cheap_12 ?_
  refine ev_get dX5_cheap_13 fk_X5_10 (by first | assumption | decide) (by decide) rfl ?_
  refine ev_get dX5_cheap_16 fk_X5_89 (by first | assumption | decide) (by decide) rfl ?_
  simp only [Nat.reduceAdd]
  refine ev_invV (ci := 4) dX5_cheap_19 ml_X5_242 mt_X4_waitingBits (c_X4_waitingBits d (t := 2) (P := P) (H := H) town_now e2 hP7 e28 hH4) (by first | assumption | decide) (by decide) rfl rfl rfl (rm_ok (by omega)) (Nat.le_of_ble_eq_true rfl) ?_
  simp only [Nat.reduceAdd, e6]
  refine Ev.pc 22 rfl ?_
  refine ev_iconst_0 dX5_cheap_22 ?_
  refine ev_aload_0 dX5_cheap_23 ?_
  refine ev_get dX5_cheap_24 fk_X5_10 (by first | assumption | decide) (by decide) rfl ?_
  refine ev_get dX5_cheap_27 fk_X5_89 (by first | assumption | decide) (by decide) rfl ?_
  simp only [Nat.reduceAdd]
  refine ev_iconst_0 dX5_cheap_30 ?_
  refine Ev.pc 31 rfl ?_
  refine ev_invV (ci := 4) dX5_cheap_31 ml_X5_236 mt_X4_bitsAt (c_X4_bitsAt d (t := 2) (P := P) town_now e2 hP7) (by first | assumption | decide) (by decide) rfl rfl rfl (rm_ok (by omega)) (Nat.le_of_ble_eq_true rfl) ?_
  simp only [Nat.reduceAdd, e6]
  refine Ev.pc 34 rfl ?_
  refine ev_invS dX5_cheap_34 ml_X5_266 mt_X5_leastPrice (c_X5_leastPrice (r := 70) (r2 := 71) (by decide) (by decide) (by decide) (by decide) 4 d 0 _ (by omega)) rfl rfl (rm_ok (by omega)) (Nat.le_of_ble_eq_true rfl) ?_
  refine Ev.pc 37 rfl ?_
  exact ev_ireturn dX5_cheap_37 ⟨by rfl, by rfl⟩
