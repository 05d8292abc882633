/-! the reference: cheap -/
abbrev fitsM (f m : Nat → Int32) (wait : Int32) (k : Nat) : Prop := if hasI' wait k then (¬ m k = -1 ∧ 0 < joyF f (m k).toNatClampNeg k) else m k = -1
def ccM (f m : Nat → Int32) (wait : Int32) (k : Nat) : Int32 := if fitsM f m wait k then (if m k = -1 then 0 else priceF f (m k).toNatClampNeg) else farM
def chS (f g8 : Nat → Int32) (P H : Nat) (wait : Int32) : Nat → Int32
  | 0 => farM
  | c + 1 => if okM f P c H = true then (if smI (ccM f (rwM g8 (dgt H) H (c + 1)) wait) H < chS f g8 P H wait c then smI (ccM f (rwM g8 (dgt H) H (c + 1)) wait) H else chS f g8 P H wait c) else chS f g8 P H wait c
theorem chS_n {f g8 : Nat → Int32} {P H c : Nat} {wait : Int32} (h : ¬ okM f P c H = true) : chS f g8 P H wait (c + 1) = chS f g8 P H wait c := by rw [chS, if_neg h]
theorem chS_y {f g8 : Nat → Int32} {P H c : Nat} {wait : Int32} (h : okM f P c H = true) : chS f g8 P H wait (c + 1) = if smI (ccM f (rwM g8 (dgt H) H (c + 1)) wait) H < chS f g8 P H wait c then smI (ccM f (rwM g8 (dgt H) H (c + 1)) wait) H else chS f g8 P H wait c := by rw [chS, if_pos h]
def mCheap (σ : xS) (P H : Nat) : Int32 × xS :=
  (if chS (σ.1 74) (σ.1 78) P H (waitM (σ.1 74) P H) (8 ^ H) = farM then -1 else chS (σ.1 74) (σ.1 78) P H (waitM (σ.1 74) P H) (8 ^ H), xrow σ 78 (rwM (σ.1 78) (dgt H) H (8 ^ H)))
theorem c_X6_cheap (d : Nat) {E : xE} {σ : xS} {P H : Nat} (hP : σ.1 74 0 = nI P) (hP7 : P ≤ 7) (hH : σ.1 74 1 = nI H) (hH4 : H ≤ 4) : Ct E (d + 3) yX6_cheap cX6_cheap 7 (some .int) [.ref (E.1 73)] σ (some (.int (mCheap σ P H).1)) (mCheap σ P H).2 := by
  rw [mCheap]
  obtain ⟨g8, hg8⟩ : ∃ x, x = σ.1 78 := ⟨_, rfl⟩
  obtain ⟨f, hf⟩ : ∃ x, x = σ.1 74 := ⟨_, rfl⟩
  have h8 := p8 hH4
  obtain ⟨C, hC⟩ : ∃ x, x = 8 ^ H := ⟨_, rfl⟩
  have hw := c_X6_waiting d (E := E) hP hP7 hH hH4
  rw [← hf] at hw
  obtain ⟨wait, hwait⟩ : ∃ x, x = waitM f P H := ⟨_, rfl⟩
  rw [← hwait] at hw
  rw [← hg8, ← hf, ← hC, ← hwait]
  rw [← hC] at h8
  dsimp only
  obtain ⟨F, hF⟩ : ∃ F : Option Value → xS → Prop, F = fun v t => v = some (.int (if chS f g8 P H wait C = farM then -1 else chS f g8 P H wait C)) ∧ t = xrow σ 78 (rwM g8 (dgt H) H C) := ⟨_, rfl⟩
  have e74 : ∀ a, (xrow σ 78 a).1 74 = f := fun a => by rw [xrow_ne _ _ (by decide), hf]
  have eP : ∀ a, (xrow σ 78 a).1 74 0 = nI P := fun a => by rw [e74, hf, hP]
  have eH : ∀ a, (xrow σ 78 a).1 74 1 = nI H := fun a => by rw [e74, hf, hH]
  have sum : ∀ (c : Nat) (least : Int32) (m : Nat → Int32), (∀ k, k < H → m k = -1 ∨ ∃ e, e < 7 ∧ m k = nI e) → (∀ z5 z6, Ev E (rm (d + 3)) RX6 cX6_cheap 7 F 158 [some (.ref (E.1 73)), some (.int wait), some (.int least), some (.int (nI c)), some (.int (smI (ccM f m wait) H)), z5, z6] [] (xrow σ 78 m)) →
      ∀ (n k : Nat) (z6 : Option Value), k + n = H → Ev E (rm (d + 3)) RX6 cX6_cheap 7 F 32 [some (.ref (E.1 73)), some (.int wait), some (.int least), some (.int (nI c)), some (.int (smI (ccM f m wait) k)), some (.int (nI k)), z6] [] (xrow σ 78 m) := by
    intro c least m hm K n
    induction n with
    | zero =>
      intro k z6 hk
      refine ev_iload_5 dX6_cheap_32 ?_
      refine ev_aload_0 dX6_cheap_34 ?_
      refine ev_get dX6_cheap_35 fk_X6_7 (by first | assumption | decide) (by decide) rfl ?_
      refine ev_iconst_1 dX6_cheap_38 ?_
      refine ev_aldL (n := 1) dX6_cheap_39 (by first | assumption | decide) (by have := xls; omega) ?_
      refine Ev.pc 40 rfl ?_
      refine ev_icmp_ge 158 dX6_cheap_40 rfl (fun h40 => ?_) (fun h40 => ?_)
      · rw [show k = H by omega]
        exact K _ _
      · exact absurd (show (xrow σ 78 m).1 74 1 ≤ nI k by rw [eH]; exact nI_le (by omega) (by omega)) h40
    | succ n ih =>
      intro k z6 hk
      have K2 : ∀ y : Int32, y = b2i (fitsM f m wait k) → Ev E (rm (d + 3)) RX6 cX6_cheap 7 F 106 [some (.ref (E.1 73)), some (.int wait), some (.int least), some (.int (nI c)), some (.int (smI (ccM f m wait) k)), some (.int (nI k)), z6] [.int y] (xrow σ 78 m) := by
        intro y hy
        have hi := fun z => ih (k + 1) z (by omega)
        rw [smI] at hi
        by_cases q7 : fitsM f m wait k
        ·
          have hy1 : ¬ y = 0 := by rw [hy]; exact b2i_n0.mpr q7
          rcases hm k (by omega) with q | ⟨e, he, q⟩
          ·
            have e3 : ccM f m wait k = 0 := by rw [ccM, if_pos q7, if_pos q]
            rw [e3] at hi
            refine ev_istore_6 dX6_cheap_106 rfl ?_
            refine ev_iload_4 dX6_cheap_108 ?_
            refine ev_iload_6 dX6_cheap_110 ?_
            refine ev_if_ne 120 dX6_cheap_112 rfl (fun h112 => ?_) (fun h112 => ?_)
            · refine ev_aload_0 dX6_cheap_120 ?_
              refine ev_get dX6_cheap_121 fk_X6_27 (by first | assumption | decide) (by decide) rfl ?_
              refine ev_iload_5 dX6_cheap_124 ?_
              refine ev_aldV dX6_cheap_126 (by first | assumption | decide) (by have := xls; omega) ?_
              rw [xrow_at, q]
              refine ev_iconst_m1 dX6_cheap_127 ?_
              refine Ev.pc 128 rfl ?_
              refine ev_icmp_ne 135 dX6_cheap_128 rfl (fun h128 => ?_) (fun h128 => ?_)
              · exact absurd rfl h128
              · refine ev_iconst_0 dX6_cheap_131 ?_
                refine ev_goto 149 dX6_cheap_132 rfl ?_
                refine ev_iadd dX6_cheap_149 ?_
                refine ev_istore_4 dX6_cheap_150 rfl ?_
                refine ev_iinc_5 (1) dX6_cheap_152 rfl rfl ?_
                refine ev_goto 32 dX6_cheap_155 rfl ?_
                rw [nI_1]
                exact hi _
            · exact absurd h112 hy1
          ·
            have e3 : ccM f m wait k = priceF f e := by rw [ccM, if_pos q7, if_neg (by rw [q]; exact nI_m1 (by omega)), q, nI_clamp (by omega)]
            rw [e3] at hi
            refine ev_istore_6 dX6_cheap_106 rfl ?_
            refine ev_iload_4 dX6_cheap_108 ?_
            refine ev_iload_6 dX6_cheap_110 ?_
            refine ev_if_ne 120 dX6_cheap_112 rfl (fun h112 => ?_) (fun h112 => ?_)
            · refine ev_aload_0 dX6_cheap_120 ?_
              refine ev_get dX6_cheap_121 fk_X6_27 (by first | assumption | decide) (by decide) rfl ?_
              refine ev_iload_5 dX6_cheap_124 ?_
              refine ev_aldV dX6_cheap_126 (by first | assumption | decide) (by have := xls; omega) ?_
              rw [xrow_at, q]
              refine ev_iconst_m1 dX6_cheap_127 ?_
              refine Ev.pc 128 rfl ?_
              refine ev_icmp_ne 135 dX6_cheap_128 rfl (fun h128 => ?_) (fun h128 => ?_)
              · refine ev_aload_0 dX6_cheap_135 ?_
                refine ev_get dX6_cheap_136 fk_X6_7 (by first | assumption | decide) (by decide) rfl ?_
                refine ev_aload_0 dX6_cheap_139 ?_
                refine ev_get dX6_cheap_140 fk_X6_27 (by first | assumption | decide) (by decide) rfl ?_
                refine ev_iload_5 dX6_cheap_143 ?_
                refine Ev.pc 145 rfl ?_
                refine ev_aldV dX6_cheap_145 (by first | assumption | decide) (by have := xls; omega) ?_
                rw [xrow_at, q]
                refine ev_invS dX6_cheap_146 ml_X6_111 mt_X6_priceOf (c_X6_priceOf d (by first | assumption | decide) (by have := xls; omega) (by omega)) rfl rfl (rm_ok (by omega)) (Nat.le_of_ble_eq_true rfl) ?_
                rw [e74]
                refine Ev.pc 149 rfl ?_
                refine ev_iadd dX6_cheap_149 ?_
                refine ev_istore_4 dX6_cheap_150 rfl ?_
                refine ev_iinc_5 (1) dX6_cheap_152 rfl rfl ?_
                refine Ev.pc 155 rfl ?_
                refine ev_goto 32 dX6_cheap_155 rfl ?_
                rw [nI_1]
                exact hi _
              · exact absurd h128 (nI_m1 (by omega))
            · exact absurd h112 hy1
        ·
          have hy1 : y = 0 := by rw [hy]; exact b2i_0.mpr q7
          have e3 : ccM f m wait k = farM := by rw [ccM, if_neg q7]
          rw [e3] at hi
          refine ev_istore_6 dX6_cheap_106 rfl ?_
          refine ev_iload_4 dX6_cheap_108 ?_
          refine ev_iload_6 dX6_cheap_110 ?_
          refine ev_if_ne 120 dX6_cheap_112 rfl (fun h112 => ?_) (fun h112 => ?_)
          · exact absurd hy1 h112
          · refine ev_ldc dX6_cheap_115 cn_X6_172 ?_
            refine ev_goto 149 dX6_cheap_117 rfl ?_
            rw [farM_e]
            refine ev_iadd dX6_cheap_149 ?_
            refine ev_istore_4 dX6_cheap_150 rfl ?_
            refine ev_iinc_5 (1) dX6_cheap_152 rfl rfl ?_
            refine ev_goto 32 dX6_cheap_155 rfl ?_
            rw [nI_1]
            exact hi _
      by_cases q8 : hasI' wait k
      ·
        rcases hm k (by omega) with q | ⟨e, he, q⟩
        ·
          refine ev_iload_5 dX6_cheap_32 ?_
          refine ev_aload_0 dX6_cheap_34 ?_
          refine ev_get dX6_cheap_35 fk_X6_7 (by first | assumption | decide) (by decide) rfl ?_
          refine ev_iconst_1 dX6_cheap_38 ?_
          refine ev_aldL (n := 1) dX6_cheap_39 (by first | assumption | decide) (by have := xls; omega) ?_
          refine Ev.pc 40 rfl ?_
          refine ev_icmp_ge 158 dX6_cheap_40 rfl (fun h40 => ?_) (fun h40 => ?_)
          · exact absurd h40 (by rw [eH]; exact nI_ge (by omega) (by omega))
          · refine ev_iload_1 dX6_cheap_43 ?_
            refine ev_iload_5 dX6_cheap_44 ?_
            refine ev_invS dX6_cheap_46 ml_X6_162 mt_X6_has (c_X6_has d) rfl rfl (rm_ok (by omega)) (Nat.le_of_ble_eq_true rfl) ?_
            refine Ev.pc 49 rfl ?_
            refine ev_if_eq 90 dX6_cheap_49 rfl (fun h49 => ?_) (fun h49 => ?_)
            · exact absurd q8 (b2i_0.mp h49)
            · refine ev_aload_0 dX6_cheap_52 ?_
              refine ev_get dX6_cheap_53 fk_X6_27 (by first | assumption | decide) (by decide) rfl ?_
              refine ev_iload_5 dX6_cheap_56 ?_
              refine ev_aldV dX6_cheap_58 (by first | assumption | decide) (by have := xls; omega) ?_
              rw [xrow_at, q]
              refine ev_iconst_m1 dX6_cheap_59 ?_
              refine Ev.pc 60 rfl ?_
              refine ev_icmp_eq 86 dX6_cheap_60 rfl (fun h60 => ?_) (fun h60 => ?_)
              · refine ev_iconst_0 dX6_cheap_86 ?_
                refine ev_goto 106 dX6_cheap_87 rfl ?_
                exact K2 _ (b2i_f (by rw [fitsM, if_pos q8]; exact fun hh => hh.1 q))
              · exact absurd rfl h60
        ·
          refine ev_iload_5 dX6_cheap_32 ?_
          refine ev_aload_0 dX6_cheap_34 ?_
          refine ev_get dX6_cheap_35 fk_X6_7 (by first | assumption | decide) (by decide) rfl ?_
          refine ev_iconst_1 dX6_cheap_38 ?_
          refine ev_aldL (n := 1) dX6_cheap_39 (by first | assumption | decide) (by have := xls; omega) ?_
          refine Ev.pc 40 rfl ?_
          refine ev_icmp_ge 158 dX6_cheap_40 rfl (fun h40 => ?_) (fun h40 => ?_)
          · exact absurd h40 (by rw [eH]; exact nI_ge (by omega) (by omega))
          · refine ev_iload_1 dX6_cheap_43 ?_
            refine ev_iload_5 dX6_cheap_44 ?_
            refine ev_invS dX6_cheap_46 ml_X6_162 mt_X6_has (c_X6_has d) rfl rfl (rm_ok (by omega)) (Nat.le_of_ble_eq_true rfl) ?_
            refine Ev.pc 49 rfl ?_
            refine ev_if_eq 90 dX6_cheap_49 rfl (fun h49 => ?_) (fun h49 => ?_)
            · exact absurd q8 (b2i_0.mp h49)
            · refine ev_aload_0 dX6_cheap_52 ?_
              refine ev_get dX6_cheap_53 fk_X6_27 (by first | assumption | decide) (by decide) rfl ?_
              refine ev_iload_5 dX6_cheap_56 ?_
              refine ev_aldV dX6_cheap_58 (by first | assumption | decide) (by have := xls; omega) ?_
              rw [xrow_at, q]
              refine ev_iconst_m1 dX6_cheap_59 ?_
              refine Ev.pc 60 rfl ?_
              refine ev_icmp_eq 86 dX6_cheap_60 rfl (fun h60 => ?_) (fun h60 => ?_)
              · exact absurd h60 (nI_m1 (by omega))
              · refine ev_aload_0 dX6_cheap_63 ?_
                refine ev_get dX6_cheap_64 fk_X6_7 (by first | assumption | decide) (by decide) rfl ?_
                refine ev_aload_0 dX6_cheap_67 ?_
                refine ev_get dX6_cheap_68 fk_X6_27 (by first | assumption | decide) (by decide) rfl ?_
                refine ev_iload_5 dX6_cheap_71 ?_
                refine Ev.pc 73 rfl ?_
                refine ev_aldV dX6_cheap_73 (by first | assumption | decide) (by have := xls; omega) ?_
                rw [xrow_at, q]
                refine ev_iload_5 dX6_cheap_74 ?_
                refine ev_invS dX6_cheap_76 ml_X6_114 mt_X6_joyOf (c_X6_joyOf d (by first | assumption | decide) (by have := xls; omega) (by omega) (by omega)) rfl rfl (rm_ok (by omega)) (Nat.le_of_ble_eq_true rfl) ?_
                rw [e74]
                refine Ev.pc 79 rfl ?_
                refine ev_if_le 86 dX6_cheap_79 rfl (fun h79 => ?_) (fun h79 => ?_)
                · refine ev_iconst_0 dX6_cheap_86 ?_
                  refine ev_goto 106 dX6_cheap_87 rfl ?_
                  first | exact K2 _ (b2i_f (by rw [fitsM, if_pos q8, q, nI_clamp (by omega)]; exact fun hh => absurd hh.2 (Int32.not_lt.mpr h79))) | exact K2 _ (b2i_t (by rw [fitsM, if_pos q8, q, nI_clamp (by omega)]; exact ⟨nI_m1 (by omega), Int32.not_le.mp h79⟩))
                · refine ev_iconst_1 dX6_cheap_82 ?_
                  refine ev_goto 106 dX6_cheap_83 rfl ?_
                  first | exact K2 _ (b2i_f (by rw [fitsM, if_pos q8, q, nI_clamp (by omega)]; exact fun hh => absurd hh.2 (Int32.not_lt.mpr h79))) | exact K2 _ (b2i_t (by rw [fitsM, if_pos q8, q, nI_clamp (by omega)]; exact ⟨nI_m1 (by omega), Int32.not_le.mp h79⟩))
      ·
        refine ev_iload_5 dX6_cheap_32 ?_
        refine ev_aload_0 dX6_cheap_34 ?_
        refine ev_get dX6_cheap_35 fk_X6_7 (by first | assumption | decide) (by decide) rfl ?_
        refine ev_iconst_1 dX6_cheap_38 ?_
        refine ev_aldL (n := 1) dX6_cheap_39 (by first | assumption | decide) (by have := xls; omega) ?_
        refine Ev.pc 40 rfl ?_
        refine ev_icmp_ge 158 dX6_cheap_40 rfl (fun h40 => ?_) (fun h40 => ?_)
        · exact absurd h40 (by rw [eH]; exact nI_ge (by omega) (by omega))
        · refine ev_iload_1 dX6_cheap_43 ?_
          refine ev_iload_5 dX6_cheap_44 ?_
          refine ev_invS dX6_cheap_46 ml_X6_162 mt_X6_has (c_X6_has d) rfl rfl (rm_ok (by omega)) (Nat.le_of_ble_eq_true rfl) ?_
          refine Ev.pc 49 rfl ?_
          refine ev_if_eq 90 dX6_cheap_49 rfl (fun h49 => ?_) (fun h49 => ?_)
          · refine ev_aload_0 dX6_cheap_90 ?_
            refine ev_get dX6_cheap_91 fk_X6_27 (by first | assumption | decide) (by decide) rfl ?_
            refine ev_iload_5 dX6_cheap_94 ?_
            refine ev_aldV dX6_cheap_96 (by first | assumption | decide) (by have := xls; omega) ?_
            rw [xrow_at]
            refine ev_iconst_m1 dX6_cheap_97 ?_
            refine Ev.pc 98 rfl ?_
            refine ev_icmp_ne 105 dX6_cheap_98 rfl (fun h98 => ?_) (fun h98 => ?_)
            · refine ev_iconst_0 dX6_cheap_105 ?_
              first | exact K2 _ (b2i_f (by rw [fitsM, if_neg q8]; exact h98)) | exact K2 _ (b2i_t (by rw [fitsM, if_neg q8]; exact h98))
            · refine ev_iconst_1 dX6_cheap_101 ?_
              refine ev_goto 106 dX6_cheap_102 rfl ?_
              first | exact K2 _ (b2i_f (by rw [fitsM, if_neg q8]; exact h98)) | exact K2 _ (b2i_t (by rw [fitsM, if_neg q8]; exact h98))
          · exact absurd (b2i_n0.mp h49) q8
  have loop : ∀ (n c : Nat) (z4 z5 z6 : Option Value), c + n = C → Ev E (rm (d + 3)) RX6 cX6_cheap 7 F 10 [some (.ref (E.1 73)), some (.int wait), some (.int (chS f g8 P H wait c)), some (.int (nI c)), z4, z5, z6] [] (xrow σ 78 (rwM g8 (dgt H) H c)) := by
    intro n
    induction n with
    | zero =>
      intro c z4 z5 z6 hc
      obtain rfl : c = C := by omega
      rw [hF]
      refine ev_iload_3 dX6_cheap_10 ?_
      refine ev_aload_0 dX6_cheap_11 ?_
      refine ev_invV (ci := 6) dX6_cheap_12 ml_X6_166 mt_X6_codes (c_X6_codes (d + 1) (eH _) hH4) (by first | assumption | decide) (by decide) rfl rfl rfl (rm_ok (by omega)) (Nat.le_of_ble_eq_true rfl) ?_
      rw [← hC]
      refine Ev.pc 15 rfl ?_
      refine ev_icmp_ge 177 dX6_cheap_15 rfl (fun h15 => ?_) (fun h15 => ?_)
      · refine ev_iload_2 dX6_cheap_177 ?_
        refine ev_ldc dX6_cheap_178 cn_X6_172 ?_
        rw [farM_e]
        refine ev_icmp_ne 187 dX6_cheap_180 rfl (fun h180 => ?_) (fun h180 => ?_)
        · refine ev_iload_2 dX6_cheap_187 ?_
          exact ev_ireturn dX6_cheap_188 ⟨by (first | rw [if_pos h180] | rw [if_neg h180]), by rfl⟩
        · refine ev_iconst_m1 dX6_cheap_183 ?_
          refine ev_goto 188 dX6_cheap_184 rfl ?_
          exact ev_ireturn dX6_cheap_188 ⟨by (first | rw [if_pos h180] | rw [if_neg h180]), by rfl⟩
      · exact absurd (nI_le (by omega) (by omega)) h15
    | succ n ih =>
      intro c z4 z5 z6 hc
      have eM := c_X6_means d (E := E) (σ := xrow σ 78 (rwM g8 (dgt H) H c)) (c := c) (eP _) hP7 (eH _) hH4 (by omega)
      simp only [e74, xrow_at, xrow_row, rwM_s] at eM
      by_cases q7 : okM f P c H = true
      ·
        have hi := fun z4 z5 z6 => ih (c + 1) z4 z5 z6 (by omega)
        rw [chS_y q7] at hi
        refine ev_iload_3 dX6_cheap_10 ?_
        refine ev_aload_0 dX6_cheap_11 ?_
        refine ev_invV (ci := 6) dX6_cheap_12 ml_X6_166 mt_X6_codes (c_X6_codes (d + 1) (eH _) hH4) (by first | assumption | decide) (by decide) rfl rfl rfl (rm_ok (by omega)) (Nat.le_of_ble_eq_true rfl) ?_
        rw [← hC]
        refine Ev.pc 15 rfl ?_
        refine ev_icmp_ge 177 dX6_cheap_15 rfl (fun h15 => ?_) (fun h15 => ?_)
        · exact absurd h15 (nI_ge (by omega) (by omega))
        · refine ev_aload_0 dX6_cheap_18 ?_
          refine ev_iload_3 dX6_cheap_19 ?_
          refine ev_invV (ci := 6) dX6_cheap_20 ml_X6_169 mt_X6_means eM (by first | assumption | decide) (by decide) rfl rfl rfl (rm_ok (by omega)) (Nat.le_of_ble_eq_true rfl) ?_
          refine Ev.pc 23 rfl ?_
          refine ev_if_eq 171 dX6_cheap_23 rfl (fun h23 => ?_) (fun h23 => ?_)
          · exact absurd q7 (b2i_0.mp h23)
          · refine ev_iconst_0 dX6_cheap_26 ?_
            refine ev_istore_4 dX6_cheap_27 rfl ?_
            refine ev_iconst_0 dX6_cheap_29 ?_
            refine ev_istore_5 dX6_cheap_30 rfl ?_
            refine sum c _ _ (fun k hk => by rw [rwM_dg _ _ _ _ hk]; exact dgt_or _ _ _) (fun z5 z6 => ?_) H 0 z6 (by omega)
            refine ev_iload_4 dX6_cheap_158 ?_
            refine ev_iload_2 dX6_cheap_160 ?_
            refine ev_icmp_ge 169 dX6_cheap_161 rfl (fun h161 => ?_) (fun h161 => ?_)
            · refine ev_iload_2 dX6_cheap_169 ?_
              refine ev_istore_2 dX6_cheap_170 rfl ?_
              refine ev_iinc_3 (1) dX6_cheap_171 rfl rfl ?_
              refine ev_goto 10 dX6_cheap_174 rfl ?_
              first | (rw [if_neg (Int32.not_lt.mpr h161)] at hi; rw [nI_1]; exact hi _ _ _) | (rw [if_pos (Int32.not_le.mp h161)] at hi; rw [nI_1]; exact hi _ _ _)
            · refine ev_iload_4 dX6_cheap_164 ?_
              refine ev_goto 170 dX6_cheap_166 rfl ?_
              refine ev_istore_2 dX6_cheap_170 rfl ?_
              refine ev_iinc_3 (1) dX6_cheap_171 rfl rfl ?_
              refine ev_goto 10 dX6_cheap_174 rfl ?_
              first | (rw [if_neg (Int32.not_lt.mpr h161)] at hi; rw [nI_1]; exact hi _ _ _) | (rw [if_pos (Int32.not_le.mp h161)] at hi; rw [nI_1]; exact hi _ _ _)
      ·
        have hi := fun z4 z5 z6 => ih (c + 1) z4 z5 z6 (by omega)
        rw [chS_n q7] at hi
        refine ev_iload_3 dX6_cheap_10 ?_
        refine ev_aload_0 dX6_cheap_11 ?_
        refine ev_invV (ci := 6) dX6_cheap_12 ml_X6_166 mt_X6_codes (c_X6_codes (d + 1) (eH _) hH4) (by first | assumption | decide) (by decide) rfl rfl rfl (rm_ok (by omega)) (Nat.le_of_ble_eq_true rfl) ?_
        rw [← hC]
        refine Ev.pc 15 rfl ?_
        refine ev_icmp_ge 177 dX6_cheap_15 rfl (fun h15 => ?_) (fun h15 => ?_)
        · exact absurd h15 (nI_ge (by omega) (by omega))
        · refine ev_aload_0 dX6_cheap_18 ?_
          refine ev_iload_3 dX6_cheap_19 ?_
          refine ev_invV (ci := 6) dX6_cheap_20 ml_X6_169 mt_X6_means eM (by first | assumption | decide) (by decide) rfl rfl rfl (rm_ok (by omega)) (Nat.le_of_ble_eq_true rfl) ?_
          refine Ev.pc 23 rfl ?_
          refine ev_if_eq 171 dX6_cheap_23 rfl (fun h23 => ?_) (fun h23 => ?_)
          · refine ev_iinc_3 (1) dX6_cheap_171 rfl rfl ?_
            refine ev_goto 10 dX6_cheap_174 rfl ?_
            rw [nI_1]
            exact hi _ _ _
          · exact absurd (b2i_n0.mp h23) q7
  have start := fun z4 z5 z6 => loop C 0 z4 z5 z6 (by omega)
  rw [show xrow σ 78 (rwM g8 (dgt H) H 0) = σ by rw [rwM, hg8, xrow_id], chS] at start
  rw [hF] at start
  refine Ct.of (by decide +kernel) (Nat.le_of_ble_eq_true rfl) ⟨_, rfl, rfl⟩ ?_
  show Ev E _ RX6 cX6_cheap 7 _ 0 [some (.ref (E.1 73)), none, none, none, none, none, none] [] _
  refine ev_aload_0 dX6_cheap_0 ?_
  refine ev_invV (ci := 6) dX6_cheap_1 ml_X6_159 mt_X6_waiting hw (by first | assumption | decide) (by decide) rfl rfl rfl (rm_ok (by omega)) (Nat.le_of_ble_eq_true rfl) ?_
  refine Ev.pc 4 rfl ?_
  refine ev_istore_1 dX6_cheap_4 rfl ?_
  refine ev_ldc dX6_cheap_5 cn_X6_172 ?_
  rw [farM_e]
  refine ev_istore_2 dX6_cheap_7 rfl ?_
  refine Ev.pc 8 rfl ?_
  refine ev_iconst_0 dX6_cheap_8 ?_
  refine ev_istore_3 dX6_cheap_9 rfl ?_
  exact start _ _ _
