/-! the reference: what is meant by a code, fit -/
def usM (c : Nat) : Nat → Int32
  | 0 => 0
  | n + 1 => if c / 8 ^ n % 8 = 0 then usM c n else usM c n ||| (1 <<< (nI (c / 8 ^ n % 8 - 1) &&& 31))
def okM (f : Nat → Int32) (P c : Nat) : Nat → Bool
  | 0 => true
  | n + 1 => if c / 8 ^ n % 8 = 0 then okM f P c n else okM f P c n && decide (c / 8 ^ n % 8 - 1 < P) && decide (f (7 + (c / 8 ^ n % 8 - 1)) = 0) && !decide (hasI' (usM c n) (c / 8 ^ n % 8 - 1))
theorem okM_0 {f : Nat → Int32} {P c n : Nat} (h : c / 8 ^ n % 8 = 0) : okM f P c (n + 1) = okM f P c n := by rw [okM, if_pos h]
theorem usM_0 {c n : Nat} (h : c / 8 ^ n % 8 = 0) : usM c (n + 1) = usM c n := by rw [usM, if_pos h]
theorem usM_e {c n e : Nat} (h : c / 8 ^ n % 8 = e + 1) : usM c (n + 1) = usM c n ||| (1 <<< (nI e &&& 31)) := by rw [usM, if_neg (by omega), h, Nat.add_sub_cancel]
theorem okM_e {f : Nat → Int32} {P c n e : Nat} (h : c / 8 ^ n % 8 = e + 1) : okM f P c (n + 1) = (okM f P c n && decide (e < P) && decide (f (7 + e) = 0) && !decide (hasI' (usM c n) e)) := by rw [okM, if_neg (by omega), h, Nat.add_sub_cancel]
theorem okM_n1 {f : Nat → Int32} {P c n e : Nat} (h : c / 8 ^ n % 8 = e + 1) (k : ¬ okM f P c n = true) : (0 : Int32) = b2i (okM f P c (n + 1) = true) := b2i_f (by rw [okM_e h]; simp [k])
theorem okM_n2 {f : Nat → Int32} {P c n e : Nat} (h : c / 8 ^ n % 8 = e + 1) (k : ¬ e < P) : (0 : Int32) = b2i (okM f P c (n + 1) = true) := b2i_f (by rw [okM_e h]; simp [k])
theorem okM_n3 {f : Nat → Int32} {P c n e : Nat} (h : c / 8 ^ n % 8 = e + 1) (k : ¬ f (7 + e) = 0) : (0 : Int32) = b2i (okM f P c (n + 1) = true) := b2i_f (by rw [okM_e h]; simp [k])
theorem okM_n4 {f : Nat → Int32} {P c n e : Nat} (h : c / 8 ^ n % 8 = e + 1) (k : hasI' (usM c n) e) : (0 : Int32) = b2i (okM f P c (n + 1) = true) := b2i_f (by rw [okM_e h, decide_eq_true k]; simp)
theorem okM_y {f : Nat → Int32} {P c n e : Nat} (h : c / 8 ^ n % 8 = e + 1) (k1 : okM f P c n = true) (k2 : e < P) (k3 : f (7 + e) = 0) (k4 : ¬ hasI' (usM c n) e) : (1 : Int32) = b2i (okM f P c (n + 1) = true) := b2i_t (by rw [okM_e h, decide_eq_false k4]; simp [k1, k2, k3])
/-- the digit of hearer h -/
def dgt (H c h : Nat) : Int32 := nI (c / 8 ^ (H - 1 - h) % 8) - 1
def mtF (g : Nat → Int32) (c H n : Nat) : Nat → Int32 := fun h => if H - n ≤ h ∧ h < H then dgt H c h else g h
theorem mtF_0 (g : Nat → Int32) (c H : Nat) : mtF g c H 0 = g := by
  funext h; simp only [mtF, show ¬ (H - 0 ≤ h ∧ h < H) by omega, if_false]
theorem mtF_s (g : Nat → Int32) {c H n m : Nat} (h : m + 1 + n = H) : upd (mtF g c H n) m (nI (c / 8 ^ n % 8) - 1) = mtF g c H (n + 1) := by
  funext k
  by_cases hk : k = m
  · subst hk
    simp only [upd, mtF, if_true, dgt, show (H - (n + 1) ≤ k ∧ k < H) by omega, show H - 1 - k = n by omega, and_self]
  · simp only [upd, hk, if_false, mtF, show (H - n ≤ k ∧ k < H) ↔ (H - (n + 1) ≤ k ∧ k < H) by omega]
theorem mtF_H (g : Nat → Int32) (c H : Nat) : mtF g c H H = tmF g (dgt H c) H := by
  funext k; simp only [mtF, tmF, show (H - H ≤ k ∧ k < H) ↔ k < H by omega]
theorem dgt_or (H c h : Nat) : dgt H c h = -1 ∨ ∃ e, e < 7 ∧ dgt H c h = nI e := by
  unfold dgt
  have h8 : c / 8 ^ (H - 1 - h) % 8 < 8 := Nat.mod_lt _ (by omega)
  by_cases q : c / 8 ^ (H - 1 - h) % 8 = 0
  · exact Or.inl (by rw [q]; rfl)
  · obtain ⟨e, he⟩ : ∃ e, c / 8 ^ (H - 1 - h) % 8 = e + 1 := ⟨_, (Nat.sub_add_cancel (by omega : 1 ≤ _)).symm⟩
    exact Or.inr ⟨e, by omega, by rw [he, nI_pred]⟩
theorem nI_m1 {e : Nat} (h : e < 1000) : ¬ nI e = -1 := fun k => absurd (by rw [k]; decide : nI e < 0) (nI_pos (by omega))
theorem c_X6_means (d : Nat) {E : xE} {σ : xS} {P H c : Nat} (hP : σ.1 74 0 = nI P) (hP7 : P ≤ 7) (hH : σ.1 74 1 = nI H) (hH4 : H ≤ 4) (hc : c < 4096) : Ct E (d + 2) yX6_means cX6_means 7 (some .boolean) [.ref (E.1 73), .int (nI c)] σ (some (.int (b2i (okM (σ.1 74) P c H = true)))) (xrow σ 78 (tmF (σ.1 78) (dgt H c) H)) := by
  obtain ⟨g, hg⟩ : ∃ x, x = σ.1 78 := ⟨_, rfl⟩
  rw [← hg, ← mtF_H]
  have loop : ∀ (m n : Nat) (z6 : Option Value), m + n = H → Ev E (rm (d + 2)) RX6 cX6_means 7 (fun v t => v = some (.int (b2i (okM (σ.1 74) P c H = true))) ∧ t = xrow σ 78 (mtF g c H H)) 17 [some (.ref (E.1 73)), some (.int (nI c)), some (.int (nI (c / 8 ^ n))), some (.int (usM c n)), some (.int (b2i (okM (σ.1 74) P c n = true))), some (.int (nI m - 1)), z6] [] (xrow σ 78 (mtF g c H n)) := by
    intro m
    induction m with
    | zero =>
      intro n z6 hm
      refine ev_iload_5 dX6_means_17 ?_
      refine ev_if_lt 105 dX6_means_19 rfl (fun h19 => ?_) (fun h19 => ?_)
      · refine ev_iload_4 dX6_means_105 ?_
        exact ev_ireturn dX6_means_107 ⟨by (rw [show n = H by omega]), by (rw [show n = H by omega])⟩
      · exact absurd (show nI 0 - 1 < 0 by decide) h19
    | succ m ih =>
      intro n z6 hm
      have hr : c / 8 ^ n < 2 ^ 31 := Nat.lt_of_le_of_lt (Nat.div_le_self _ _) (by omega)
      have hr2 : c / 8 ^ n / 8 = c / 8 ^ (n + 1) := by rw [Nat.div_div_eq_div_mul, Nat.pow_succ]
      have hm2 : nI m + (-1) = nI m - 1 := (Int32.sub_eq_add_neg _ _).symm
      rw [nI_pred]
      by_cases q7 : c / 8 ^ n % 8 = 0
      ·
        refine ev_iload_5 dX6_means_17 ?_
        refine ev_if_lt 105 dX6_means_19 rfl (fun h19 => ?_) (fun h19 => ?_)
        · exact absurd h19 (nI_pos (by omega))
        · refine ev_iload_2 dX6_means_22 ?_
          refine ev_bipush (8) dX6_means_23 rfl ?_
          refine ev_irem dX6_means_25 (by decide) ?_
          rw [show (8 : Int32) = nI 8 from rfl, pk_rem hr (by omega) (by omega)]
          refine ev_iconst_1 dX6_means_26 ?_
          refine ev_isub dX6_means_27 ?_
          refine Ev.pc 28 rfl ?_
          refine ev_istore_6 dX6_means_28 rfl ?_
          refine ev_aload_0 dX6_means_30 ?_
          refine ev_get dX6_means_31 fk_X6_27 (by first | assumption | decide) (by decide) rfl ?_
          refine ev_iload_5 dX6_means_34 ?_
          refine ev_iload_6 dX6_means_36 ?_
          refine Ev.pc 38 rfl ?_
          refine ev_astV dX6_means_38 (by first | assumption | decide) (by have := xls; omega) ?_
          refine ev_iload_2 dX6_means_39 ?_
          refine ev_bipush (8) dX6_means_40 rfl ?_
          refine ev_idiv dX6_means_42 (by decide) ?_
          rw [xrow_at, xrow_row, mtF_s g hm, show (8 : Int32) = nI 8 from rfl, pk_div hr (by omega) (by omega), hr2]
          refine ev_istore_2 dX6_means_43 rfl ?_
          refine Ev.pc 44 rfl ?_
          refine ev_iload_6 dX6_means_44 ?_
          refine ev_iconst_m1 dX6_means_46 ?_
          refine ev_icmp_eq 99 dX6_means_47 rfl (fun h47 => ?_) (fun h47 => ?_)
          · refine ev_iinc_5 (-1) dX6_means_99 rfl rfl ?_
            refine ev_goto 17 dX6_means_102 rfl ?_
            rw [hm2]
            have h := ih (n + 1) (some (.int (nI (c / 8 ^ n % 8) - 1))) (by omega)
            rw [okM_0 q7, usM_0 q7] at h
            exact h
          · exact absurd (show nI (c / 8 ^ n % 8) - 1 = -1 by rw [q7]; rfl) h47
      ·
        obtain ⟨e, he⟩ : ∃ e, c / 8 ^ n % 8 = e + 1 := ⟨_, (Nat.sub_add_cancel (by omega : 1 ≤ _)).symm⟩
        have he7 : e < 7 := by have := Nat.mod_lt (c / 8 ^ n) (show 0 < 8 by omega); omega
        have eP : ∀ f : Nat → Int32, b2i (hasIn ((xrow σ 78 f).1 74 0) (nI e)) = b2i (e < P) := by
          intro f
          rw [xrow_ne _ _ (by decide), hP]
          by_cases q : e < P
          · rw [← b2i_t q, ← b2i_t (hasIn_of (by omega) q)]
          · rw [← b2i_f q, ← b2i_f (fun h => q (by obtain ⟨k, k1, k2⟩ := hasIn_nI (by omega) h; rw [(nI_eq (by omega) (by omega)).mp k2]; exact k1))]
        refine ev_iload_5 dX6_means_17 ?_
        refine ev_if_lt 105 dX6_means_19 rfl (fun h19 => ?_) (fun h19 => ?_)
        · exact absurd h19 (nI_pos (by omega))
        · refine ev_iload_2 dX6_means_22 ?_
          refine ev_bipush (8) dX6_means_23 rfl ?_
          refine ev_irem dX6_means_25 (by decide) ?_
          rw [show (8 : Int32) = nI 8 from rfl, pk_rem hr (by omega) (by omega)]
          refine ev_iconst_1 dX6_means_26 ?_
          refine ev_isub dX6_means_27 ?_
          refine Ev.pc 28 rfl ?_
          refine ev_istore_6 dX6_means_28 rfl ?_
          refine ev_aload_0 dX6_means_30 ?_
          refine ev_get dX6_means_31 fk_X6_27 (by first | assumption | decide) (by decide) rfl ?_
          refine ev_iload_5 dX6_means_34 ?_
          refine ev_iload_6 dX6_means_36 ?_
          refine Ev.pc 38 rfl ?_
          refine ev_astV dX6_means_38 (by first | assumption | decide) (by have := xls; omega) ?_
          refine ev_iload_2 dX6_means_39 ?_
          refine ev_bipush (8) dX6_means_40 rfl ?_
          refine ev_idiv dX6_means_42 (by decide) ?_
          rw [xrow_at, xrow_row, mtF_s g hm, show (8 : Int32) = nI 8 from rfl, pk_div hr (by omega) (by omega), hr2, he, nI_pred]
          refine ev_istore_2 dX6_means_43 rfl ?_
          refine Ev.pc 44 rfl ?_
          refine ev_iload_6 dX6_means_44 ?_
          refine ev_iconst_m1 dX6_means_46 ?_
          refine ev_icmp_eq 99 dX6_means_47 rfl (fun h47 => ?_) (fun h47 => ?_)
          · exact absurd h47 (nI_m1 (by omega))
          · refine ev_iload_4 dX6_means_50 ?_
            refine ev_if_eq 89 dX6_means_52 rfl (fun h52 => ?_) (fun h52 => ?_)
            · refine ev_iconst_0 dX6_means_89 ?_
              refine ev_istore_4 dX6_means_90 rfl ?_
              refine ev_iload_3 dX6_means_92 ?_
              refine ev_iconst_1 dX6_means_93 ?_
              refine ev_iload_6 dX6_means_94 ?_
              refine Ev.pc 96 rfl ?_
              refine ev_ishl dX6_means_96 ?_
              refine ev_ior dX6_means_97 ?_
              refine ev_istore_3 dX6_means_98 rfl ?_
              refine ev_iinc_5 (-1) dX6_means_99 rfl rfl ?_
              refine ev_goto 17 dX6_means_102 rfl ?_
              rw [hm2]
              have h := ih (n + 1) (some (.int (nI e))) (by omega)
              rw [usM_e he] at h
              first | (rw [← okM_n1 he (b2i_0.mp h52)] at h; exact h) | (rw [← okM_n2 he (b2i_0.mp h61)] at h; exact h) | (rw [← okM_n3 he (b2i_0.mp h73)] at h; exact h) | (rw [← okM_n4 he (b2i_n0.mp h82)] at h; exact h) | (rw [← okM_y he (b2i_n0.mp h52) (b2i_n0.mp h61) (b2i_n0.mp h73) (b2i_0.mp h82)] at h; exact h)
            · refine ev_aload_0 dX6_means_55 ?_
              refine ev_iload_6 dX6_means_56 ?_
              refine ev_invV (ci := 6) dX6_means_58 ml_X6_121 mt_X6_isPromise (c_X6_isPromise d) (by first | assumption | decide) (by decide) rfl rfl rfl (rm_ok (by omega)) (Nat.le_of_ble_eq_true rfl) ?_
              rw [eP]
              refine Ev.pc 61 rfl ?_
              refine ev_if_eq 89 dX6_means_61 rfl (fun h61 => ?_) (fun h61 => ?_)
              · refine ev_iconst_0 dX6_means_89 ?_
                refine ev_istore_4 dX6_means_90 rfl ?_
                refine ev_iload_3 dX6_means_92 ?_
                refine ev_iconst_1 dX6_means_93 ?_
                refine ev_iload_6 dX6_means_94 ?_
                refine Ev.pc 96 rfl ?_
                refine ev_ishl dX6_means_96 ?_
                refine ev_ior dX6_means_97 ?_
                refine ev_istore_3 dX6_means_98 rfl ?_
                refine ev_iinc_5 (-1) dX6_means_99 rfl rfl ?_
                refine ev_goto 17 dX6_means_102 rfl ?_
                rw [hm2]
                have h := ih (n + 1) (some (.int (nI e))) (by omega)
                rw [usM_e he] at h
                first | (rw [← okM_n1 he (b2i_0.mp h52)] at h; exact h) | (rw [← okM_n2 he (b2i_0.mp h61)] at h; exact h) | (rw [← okM_n3 he (b2i_0.mp h73)] at h; exact h) | (rw [← okM_n4 he (b2i_n0.mp h82)] at h; exact h) | (rw [← okM_y he (b2i_n0.mp h52) (b2i_n0.mp h61) (b2i_n0.mp h73) (b2i_0.mp h82)] at h; exact h)
              · refine ev_aload_0 dX6_means_64 ?_
                refine ev_get dX6_means_65 fk_X6_7 (by first | assumption | decide) (by decide) rfl ?_
                refine ev_iload_6 dX6_means_68 ?_
                refine ev_invS dX6_means_70 ml_X6_95 mt_X6_isShown (c_X6_isShown d (by first | assumption | decide) (by have := xls; omega) (by omega)) rfl rfl (rm_ok (by omega)) (Nat.le_of_ble_eq_true rfl) ?_
                rw [xrow_ne _ _ (by decide)]
                refine Ev.pc 73 rfl ?_
                refine ev_if_eq 89 dX6_means_73 rfl (fun h73 => ?_) (fun h73 => ?_)
                · refine ev_iconst_0 dX6_means_89 ?_
                  refine ev_istore_4 dX6_means_90 rfl ?_
                  refine ev_iload_3 dX6_means_92 ?_
                  refine ev_iconst_1 dX6_means_93 ?_
                  refine ev_iload_6 dX6_means_94 ?_
                  refine Ev.pc 96 rfl ?_
                  refine ev_ishl dX6_means_96 ?_
                  refine ev_ior dX6_means_97 ?_
                  refine ev_istore_3 dX6_means_98 rfl ?_
                  refine ev_iinc_5 (-1) dX6_means_99 rfl rfl ?_
                  refine ev_goto 17 dX6_means_102 rfl ?_
                  rw [hm2]
                  have h := ih (n + 1) (some (.int (nI e))) (by omega)
                  rw [usM_e he] at h
                  first | (rw [← okM_n1 he (b2i_0.mp h52)] at h; exact h) | (rw [← okM_n2 he (b2i_0.mp h61)] at h; exact h) | (rw [← okM_n3 he (b2i_0.mp h73)] at h; exact h) | (rw [← okM_n4 he (b2i_n0.mp h82)] at h; exact h) | (rw [← okM_y he (b2i_n0.mp h52) (b2i_n0.mp h61) (b2i_n0.mp h73) (b2i_0.mp h82)] at h; exact h)
                · refine ev_iload_3 dX6_means_76 ?_
                  refine ev_iload_6 dX6_means_77 ?_
                  refine ev_invS dX6_means_79 ml_X6_162 mt_X6_has (c_X6_has d) rfl rfl (rm_ok (by omega)) (Nat.le_of_ble_eq_true rfl) ?_
                  refine Ev.pc 82 rfl ?_
                  refine ev_if_ne 89 dX6_means_82 rfl (fun h82 => ?_) (fun h82 => ?_)
                  · refine ev_iconst_0 dX6_means_89 ?_
                    refine ev_istore_4 dX6_means_90 rfl ?_
                    refine ev_iload_3 dX6_means_92 ?_
                    refine ev_iconst_1 dX6_means_93 ?_
                    refine ev_iload_6 dX6_means_94 ?_
                    refine Ev.pc 96 rfl ?_
                    refine ev_ishl dX6_means_96 ?_
                    refine ev_ior dX6_means_97 ?_
                    refine ev_istore_3 dX6_means_98 rfl ?_
                    refine ev_iinc_5 (-1) dX6_means_99 rfl rfl ?_
                    refine ev_goto 17 dX6_means_102 rfl ?_
                    rw [hm2]
                    have h := ih (n + 1) (some (.int (nI e))) (by omega)
                    rw [usM_e he] at h
                    first | (rw [← okM_n1 he (b2i_0.mp h52)] at h; exact h) | (rw [← okM_n2 he (b2i_0.mp h61)] at h; exact h) | (rw [← okM_n3 he (b2i_0.mp h73)] at h; exact h) | (rw [← okM_n4 he (b2i_n0.mp h82)] at h; exact h) | (rw [← okM_y he (b2i_n0.mp h52) (b2i_n0.mp h61) (b2i_n0.mp h73) (b2i_0.mp h82)] at h; exact h)
                  · refine ev_iconst_1 dX6_means_85 ?_
                    refine ev_goto 90 dX6_means_86 rfl ?_
                    refine ev_istore_4 dX6_means_90 rfl ?_
                    refine ev_iload_3 dX6_means_92 ?_
                    refine ev_iconst_1 dX6_means_93 ?_
                    refine ev_iload_6 dX6_means_94 ?_
                    refine Ev.pc 96 rfl ?_
                    refine ev_ishl dX6_means_96 ?_
                    refine ev_ior dX6_means_97 ?_
                    refine ev_istore_3 dX6_means_98 rfl ?_
                    refine ev_iinc_5 (-1) dX6_means_99 rfl rfl ?_
                    refine ev_goto 17 dX6_means_102 rfl ?_
                    rw [hm2]
                    have h := ih (n + 1) (some (.int (nI e))) (by omega)
                    rw [usM_e he] at h
                    first | (rw [← okM_n1 he (b2i_0.mp h52)] at h; exact h) | (rw [← okM_n2 he (b2i_0.mp h61)] at h; exact h) | (rw [← okM_n3 he (b2i_0.mp h73)] at h; exact h) | (rw [← okM_n4 he (b2i_n0.mp h82)] at h; exact h) | (rw [← okM_y he (b2i_n0.mp h52) (b2i_n0.mp h61) (b2i_n0.mp h73) (b2i_0.mp h82)] at h; exact h)
  refine Ct.of (by decide +kernel) (Nat.le_of_ble_eq_true rfl) ⟨_, rfl, nb_b2i _⟩ ?_
  show Ev E _ RX6 cX6_means 7 _ 0 [some (.ref (E.1 73)), some (.int (nI c)), none, none, none, none, none] [] _
  refine ev_iload_1 dX6_means_0 ?_
  refine ev_istore_2 dX6_means_1 rfl ?_
  refine ev_iconst_0 dX6_means_2 ?_
  refine ev_istore_3 dX6_means_3 rfl ?_
  refine ev_iconst_1 dX6_means_4 ?_
  refine Ev.pc 5 rfl ?_
  refine ev_istore_4 dX6_means_5 rfl ?_
  refine ev_aload_0 dX6_means_7 ?_
  refine ev_get dX6_means_8 fk_X6_7 (by first | assumption | decide) (by decide) rfl ?_
  refine ev_iconst_1 dX6_means_11 ?_
  refine ev_aldL (n := 1) dX6_means_12 (by first | assumption | decide) (by have := xls; omega) ?_
  refine Ev.pc 13 rfl ?_
  refine ev_iconst_1 dX6_means_13 ?_
  rw [hH]
  refine ev_isub dX6_means_14 ?_
  refine ev_istore_5 dX6_means_15 rfl ?_
  have h := loop H 0 none (by omega)
  rw [mtF_0, hg, xrow_id] at h
  rw [hg]
  simp only [Nat.pow_zero, Nat.div_one] at h
  exact h
theorem c_X6_codes (d : Nat) {E : xE} {σ : xS} {H : Nat} (hH : σ.1 74 1 = nI H) (hH4 : H ≤ 4) : Ct E d yX6_codes cX6_codes 3 (some .int) [.ref (E.1 73)] σ (some (.int (nI (8 ^ H)))) σ := by
  have loop : ∀ (n k : Nat), k + n = H → Ev E (rm (d + 0)) RX6 cX6_codes 3 (fun v t => v = some (.int (nI (8 ^ H))) ∧ t = σ) 4 [some (.ref (E.1 73)), some (.int (nI (8 ^ k))), some (.int (nI k))] [] σ := by
    intro n
    induction n with
    | zero =>
      intro k hk
      refine ev_iload_2 dX6_codes_4 ?_
      refine ev_aload_0 dX6_codes_5 ?_
      refine ev_get dX6_codes_6 fk_X6_7 (by first | assumption | decide) (by decide) rfl ?_
      refine ev_iconst_1 dX6_codes_9 ?_
      refine ev_aldL (n := 1) dX6_codes_10 (by first | assumption | decide) (by have := xls; omega) ?_
      refine Ev.pc 11 rfl ?_
      refine ev_icmp_ge 25 dX6_codes_11 rfl (fun h11 => ?_) (fun h11 => ?_)
      · refine ev_iload_1 dX6_codes_25 ?_
        exact ev_ireturn dX6_codes_26 ⟨by (rw [show k = H by omega]), by rfl⟩
      · exact absurd (show σ.1 74 1 ≤ nI k by rw [hH]; exact nI_le (by omega) (by omega)) h11
    | succ n ih =>
      intro k hk
      refine ev_iload_2 dX6_codes_4 ?_
      refine ev_aload_0 dX6_codes_5 ?_
      refine ev_get dX6_codes_6 fk_X6_7 (by first | assumption | decide) (by decide) rfl ?_
      refine ev_iconst_1 dX6_codes_9 ?_
      refine ev_aldL (n := 1) dX6_codes_10 (by first | assumption | decide) (by have := xls; omega) ?_
      refine Ev.pc 11 rfl ?_
      refine ev_icmp_ge 25 dX6_codes_11 rfl (fun h11 => ?_) (fun h11 => ?_)
      · exact absurd h11 (by rw [hH]; exact nI_ge (by omega) (by omega))
      · refine ev_iload_1 dX6_codes_14 ?_
        refine ev_bipush (8) dX6_codes_15 rfl ?_
        refine ev_imul dX6_codes_17 ?_
        rw [show (8 : Int32) = nI 8 from rfl, pk_mul, ← Nat.pow_succ]
        refine ev_istore_1 dX6_codes_18 rfl ?_
        refine ev_iinc_2 (1) dX6_codes_19 rfl rfl ?_
        refine Ev.pc 22 rfl ?_
        refine ev_goto 4 dX6_codes_22 rfl ?_
        rw [nI_1]
        exact ih (k + 1) (by omega)
  refine Ct.of (by decide +kernel) (Nat.le_of_ble_eq_true rfl) ⟨_, rfl, rfl⟩ ?_
  show Ev E _ RX6 cX6_codes 3 _ 0 [some (.ref (E.1 73)), none, none] [] _
  refine ev_iconst_1 dX6_codes_0 ?_
  refine ev_istore_1 dX6_codes_1 rfl ?_
  refine ev_iconst_0 dX6_codes_2 ?_
  refine ev_istore_2 dX6_codes_3 rfl ?_
  exact loop H 0 (by omega)
