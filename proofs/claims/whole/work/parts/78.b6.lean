/-! both, call by call: what is best -/
theorem cFr_w (σ : xS) (H p h c : Nat) : cFr σ (wTo σ H p h c) := ⟨fun i hi => wTo_f (by omega) (by omega), rfl⟩
theorem cS_w (σ : xS) (H p h c : Nat) : cSame σ (wTo σ H p h c) := ⟨fun i hi => wTo_f (by omega) (by omega), wTo_f (by decide) (by decide), by rw [wTo_f (by decide) (by decide)], rfl⟩
theorem w_70 (σ : xS) {P H p h : Nat} (hP : P ≤ 7) (hp : p < P) (hh : h < H) : (wTo σ H P 0 P).1 70 (h * 7 + p) = jB σ 2 (nI p) (nI h) := by
  have e1 : (h * 7 + p) % 7 = p := by omega
  have e2 : (h * 7 + p) / 7 = h := by omega
  unfold wTo
  dsimp only
  rw [if_neg (fun z => absurd z.1 (by decide)), if_pos ⟨rfl, Or.inl ⟨by omega, by omega⟩⟩, e1, e2]
theorem w_71 (σ : xS) {P H p : Nat} (hp : p < P) : (wTo σ H P 0 P).1 71 p = prB σ 2 (nI p) := by
  show (if 71 = 71 ∧ p < P then prB σ 2 (nI p) else _) = _
  rw [if_pos ⟨rfl, hp⟩]
theorem wM_iff {f : Nat → Int32} {P p : Nat} : wM f P p = true ↔ p < P ∧ f (7 + p) = 0 := by
  rw [wM, Bool.and_eq_true, decide_eq_true_eq, decide_eq_true_eq]
theorem FB_win {σ : xS} {f : Nat → Int32} {D P H B : Nat} (h : zT σ 2 f D P H B) : FB (winI σ P) (wM f P) := by
  have hP := h.1.1.2.2
  obtain ⟨-, D0, -, -, -, -, m3, -, -⟩ := h
  intro p hp
  rw [winI, hasI_mk (by omega) (by omega), wM_iff, decide_eq_true_eq]
  exact ⟨fun z => ⟨z.1, (m3 p z.1).1.symm.trans z.2⟩, fun z => ⟨z.1, (m3 p z.1).1.trans z.2⟩⟩
theorem GN_w {σ : xS} {f : Nat → Int32} {P H B : Nat} (h : zT σ 2 f 9999 P H B) : GN ((wTo σ H P 0 P).1 70) (Jf f) H (wM f P) := by
  intro k hk p hp hw
  have hpP := (wM_iff.mp hw).1
  rw [w_70 σ h.1.1.2.2 hpP hk]
  exact (h.jo (by omega) town_now hpP hk).1
theorem PN_w {σ : xS} {f : Nat → Int32} {P H B : Nat} (h : zT σ 2 f 9999 P H B) : ∀ p, p < 7 → wM f P p = true → (wTo σ H P 0 P).1 71 p = nI (Cf f p) := by
  intro p hp hw
  have hpP := (wM_iff.mp hw).1
  rw [w_71 σ hpP]
  exact (h.pr (by omega) town_now hpP).1
theorem b_fit {E : xE} {σ : xS} {g : Int32} (h : Inv σ σ) : Both E yX5_fit cX5_fit 6 (some .int) yX6_fit cX6_fit 6 (some .int) [.int g] σ := by
  obtain ⟨P, H, B, U, S, N, M, hx⟩ := h.x
  have hT := hx.1
  have hP := hT.1.1
  have hH := hT.1.2.1
  have hc := c_X5_fit 1 (E := E) (h := g) hP.1 hP.2.2 hH.1 hH.2.2
  obtain ⟨σ1, e1⟩ : ∃ σ1, σ1 = wTo σ H P 0 P := ⟨_, rfl⟩
  have cf : cFr σ σ1 := by rw [e1]; exact cFr_w _ _ _ _ _
  have cs : cSame σ σ1 := by rw [e1]; exact cS_w _ _ _ _ _
  have e74 : σ1.1 74 = σ.1 74 := cf.1 74 (by omega)
  have hJ : ∀ h, h < H → ∀ p, p < P → joyF (σ.1 74) p h = nI (Jf (σ.1 74) h p) := fun k hk p hp => (hT.jo (by omega) town_now hp hk).2
  have hG := (gC_ok (Jf (σ.1 74)) H 0 (wM (σ.1 74) P)).1
  obtain ⟨f1, f2⟩ := (ftS_ok (g8 := σ1.1 78) (g9 := σ1.1 79) hH.2.2 (Jf_le (σ.1 74)) hJ (8 ^ H) (Nat.le_refl _)).2 hG
  have rr : ∀ a b : Nat → Int32, rFr σ1 (xrow (xrow σ1 78 a) 79 b) := fun a b => ((rFr.rf _).row (by omega)).row (by omega)
  have rs : ∀ a b : Nat → Int32, rSame σ1 (xrow (xrow σ1 78 a) 79 b) := fun a b => ⟨fun j h1 h2 => by rw [xrow_ne _ _ (by omega), xrow_ne _ _ (by omega)], by rw [xrow_ne _ _ (by omega), xrow_ne _ _ (by omega)], by rw [xrow_ne _ _ (by omega), xrow_ne _ _ (by omega)], rfl⟩
  by_cases q0 : g = -1
  · rw [fitQ, if_pos q0] at hc
    have hr := c_X6_fit 5 (E := E) (σ := σ1) (P := P) (H := H) (h := g) (by rw [e74]; exact hP.2.1) hP.2.2 (by rw [e74]; exact hH.2.1) hH.2.2 (Or.inl q0)
    rw [mFit, if_pos q0, e74, f1] at hr
    dsimp only at hc hr
    rw [mjC_N (Jf_le (σ.1 74)) H 0 (winI σ P) (wM (σ.1 74) P) hH.2.2 (by omega) (FB_win hT) (GN_w hT), ← e1] at hc
    exact b_same h hc hr cf cs (rr _ _) (rs _ _) rfl
  · by_cases q1 : hasIn (σ.1 2 8) g
    · obtain ⟨k, hk, rfl⟩ := hasIn_nI (by omega) (hH.1 ▸ q1)
      rw [fitQ, if_neg q0, if_pos q1, nI_clamp (by omega)] at hc
      have hr := c_X6_fit 5 (E := E) (σ := σ1) (P := P) (H := H) (h := nI k) (by rw [e74]; exact hP.2.1) hP.2.2 (by rw [e74]; exact hH.2.1) hH.2.2 (Or.inr ⟨k, hk, rfl⟩)
      rw [mFit, if_neg q0, e74, nI_clamp (by omega), f2 k hk] at hr
      dsimp only at hc hr
      rw [(fitS_N hH.2.2 (Jf_le (σ.1 74)) (FB_win hT) (GN_w hT) k (by omega)).2 hk, ← e1] at hc
      exact b_same h hc hr cf cs (rr _ _) (rs _ _) rfl
    · rw [fitQ, if_neg q0, if_neg q1] at hc
      refine b_bad h hc (c_X6_fit_bad 5 (fun z => ?_))
      rw [(cFr_bad σ).1 74 (by omega), hH.2.1, ← hH.1] at z
      exact z.elim q0 q1
theorem b_buy {E : xE} {σ : xS} {b g w : Int32} (h : Inv σ σ) : Both E yX5_buy cX5_buy 6 (some .int) yX6_buy cX6_buy 10 (some .int) [.int b, .int g, .int w] σ := by
  obtain ⟨P, H, B, U, S, N, M, hx⟩ := h.x
  have hT := hx.1
  have hP := hT.1.1
  have hH := hT.1.2.1
  have hB := hT.1.2.2.1
  have hc := c_X5_buy 3 (E := E) (b := b) (h := g) (w := w) hP.1 hP.2.2 hH.1 hH.2.2
  by_cases q : hasIn (σ.1 2 9) b ∧ hasIn (σ.1 2 8) g ∧ btw w 0 1
  · obtain ⟨q1, q2, q3⟩ := q
    obtain ⟨b', hb, rfl⟩ := hasIn_nI (by omega) (hB.1 ▸ q1)
    obtain ⟨k, hk, rfl⟩ := hasIn_nI (by omega) (hH.1 ▸ q2)
    obtain ⟨σ1, e1⟩ : ∃ σ1, σ1 = wTo σ H P 0 P := ⟨_, rfl⟩
    have cf : cFr σ σ1 := by rw [e1]; exact cFr_w _ _ _ _ _
    have cs : cSame σ σ1 := by rw [e1]; exact cS_w _ _ _ _ _
    have e74 : σ1.1 74 = σ.1 74 := cf.1 74 (by omega)
    obtain ⟨D0, -, -, -, -, -, -, m5⟩ := hT.2
    obtain ⟨-, qv, hq9, hq⟩ := m5 b' hb
    have hq : (σ.1 74) (21 + b') = nI qv := hq
    have hpu : xat σ 9 (nI b') = nI qv := (hT.atb town_now hb).trans hq
    have key := buy_eq (f := σ.1 74) (g := σ1.1 70) (pr := σ1.1 71) (J := Jf (σ.1 74) k) (C := Cf (σ.1 74)) (P := P) (b := b') (h := k) (s := k * 7) (q := qv) (win := winI σ P) hP.2.2 (Jf_le (σ.1 74) k) (Cf_le (σ.1 74)) hq9 hq (fun p hp => (hT.jo (by omega) town_now hp hk).2) (fun p hp => (hT.pr (by omega) town_now hp).2) (FB_win hT) (fun p hp hw => by rw [e1]; exact GN_w hT k hk p hp hw) (fun p hp hw => by rw [e1]; exact PN_w hT p hp hw)
    have hr := c_X6_buy 5 (E := E) (σ := σ1) (P := P) (H := H) (B := B) (b := b') (h := k) (w := w) (by rw [e74]; exact hP.2.1) hP.2.2 (by rw [e74]; exact hH.2.1) hH.2.2 (by rw [e74]; exact hB.2.1) hB.2.2 hb hk q3
    rw [e74, key] at hr
    rw [buyQ, if_pos q1, if_pos q2, if_pos q3, nI_clamp (by omega), hpu, ← e1, bbS_v] at hc
    dsimp only at hc hr
    refine b_same h hc hr cf cs (rFr.rf _) (rSame.rf _) (congrArg Value.int ?_)
    obtain ⟨j, hj, rfl⟩ := btw_k (n := 1) rfl q3
    rcases (show j = 0 ∨ j = 1 by omega) with rfl | rfl
    · rw [if_pos (by decide), if_neg (by decide)]
    · rw [if_neg (by decide), if_pos (by decide)]
  · have e : buyQ σ P H b g w = (-2, badS σ) := by
      rw [buyQ]
      repeat' split
      all_goals first | rfl | exact absurd ⟨‹_›, ‹_›, ‹_›⟩ q
    rw [e] at hc
    refine b_bad h hc (c_X6_buy_bad 5 (fun z => q ?_))
    rw [(cFr_bad σ).1 74 (by omega), hB.2.1, hH.2.1] at z
    rw [hB.1, hH.1]; exact z
theorem b_cheap {E : xE} {σ : xS} (h : Inv σ σ) : Both E yX5_cheap cX5_cheap 1 (some .int) yX6_cheap cX6_cheap 7 (some .int) [] σ := by
  obtain ⟨P, H, B, U, S, N, M, hx⟩ := h.x
  have hT := hx.1
  have hP := hT.1.1
  have hH := hT.1.2.1
  have hc := c_X5_cheap 2 (E := E) hP.1 hP.2.2 hH.1 hH.2.2
  obtain ⟨σ1, e1⟩ : ∃ σ1, σ1 = wTo σ H P 0 P := ⟨_, rfl⟩
  have cf : cFr σ σ1 := by rw [e1]; exact cFr_w _ _ _ _ _
  have cs : cSame σ σ1 := by rw [e1]; exact cS_w _ _ _ _ _
  have e74 : σ1.1 74 = σ.1 74 := cf.1 74 (by omega)
  have hr := c_X6_cheap 5 (E := E) (σ := σ1) (P := P) (H := H) (by rw [e74]; exact hP.2.1) hP.2.2 (by rw [e74]; exact hH.2.1) hH.2.2
  rw [mCheap, e74] at hr
  have hw : mkI (fun h => decide (mkI (fun k => decide (σ.1 6 k = 10 + nI h)) P = 0)) H = waitM (σ.1 74) P H := hT.wait
  rw [cheapQ, hw, ← e1] at hc
  dsimp only at hr
  refine b_same h hc hr cf cs ((rFr.rf _).row (by omega)) (rS_row _ _ (by omega)) (congrArg Value.int ?_)
  refine cheap_eq (Wt := fun k => bt (waitM (σ.1 74) P H) k && decide (k < H)) (J := Jf (σ.1 74)) (C := Cf (σ.1 74)) hP.2.2 hH.2.2 (Jf_le _) (Cf_le _) (fun k hk => ?_) (fun k hk => by rw [decide_eq_false (by omega), Bool.and_false]) (fun k hk p hp => (hT.jo (by omega) town_now hp hk).2) (fun p hp => (hT.pr (by omega) town_now hp).2) (FB_win hT) (by rw [e1]; exact GN_w hT) (by rw [e1]; exact PN_w hT)
  rw [hasI_bt (by omega), Bool.and_eq_true, decide_eq_true_eq]
  refine ⟨fun z => ⟨z, ?_⟩, fun z => z.1⟩
  have := (hasI_bt (by omega)).mpr z
  rw [waitM] at this
  exact ((hasI_mk (by omega) (by omega)).mp this).1
theorem b_bids {E : xE} {σ : xS} {a b p g k : Int32} (h : Inv σ σ) : Both E yX5_bids cX5_bids 11 (some .int) yX6_bids cX6_bids 9 (some .int) [.int a, .int b, .int p, .int g, .int k] σ := by
  obtain ⟨P, H, B, U, S, N, M, hx⟩ := h.x
  have hT := hx.1
  have hP := hT.1.1
  have hH := hT.1.2.1
  have hB := hT.1.2.2.1
  have hc := c_X5_bids 4 (E := E) (σ := σ) (a := a) (b := b) (p := p) (h := g) (k := k)
  by_cases q : hasIn (σ.1 2 9) a ∧ hasIn (σ.1 2 9) b ∧ ¬ a = b ∧ hasIn (σ.1 2 7) p ∧ hasIn (σ.1 2 8) g ∧ -1 ≤ k
  · obtain ⟨q1, q2, q3, q4, q5, q6⟩ := q
    obtain ⟨p', hp, rfl⟩ := hasIn_nI (by omega) (hP.1 ▸ q4)
    obtain ⟨g', hg, rfl⟩ := hasIn_nI (by omega) (hH.1 ▸ q5)
    rw [bidsQ, if_pos q1, if_pos q2, if_neg q3, if_pos q6, if_pos q4, if_pos q5] at hc
    have hj := hT.jo (by omega) town_now hp hg
    have e2 : (σ.1 74) 2 = σ.1 2 9 := hB.2.1.trans hB.1.symm
    have hr := c_X6_bids 5 (E := E) (σ := σ) (P := P) (H := H) (p := p') (h := g') (a := a) (b := b) (k := k) hP.2.1 hP.2.2 hH.2.1 hH.2.2 (by rw [e2]; exact q1) (by rw [e2]; exact q2) q3 hp hg q6
    exact b_q h hc hr (by rw [hj.1, hj.2])
  · have e : bidsQ σ a b p g k = (-10, badS σ) := by
      rw [bidsQ]
      repeat' split
      all_goals first | rfl | exact absurd ⟨‹_›, ‹_›, ‹_›, ‹_›, ‹_›, ‹_›⟩ q
    rw [e] at hc
    refine b_bad h hc (c_X6_bids_bad 5 (fun z => q ?_))
    rw [(cFr_bad σ).1 74 (by omega), hB.2.1, hH.2.1, hP.2.1] at z
    rw [hB.1, hH.1, hP.1]; exact z
/-! redeemed -/
theorem gcd_10 : ∀ r, r < 10 → gcdB 9 10 (lN r) ∧ gcdN 10 10 (lN r) = gcdN 99 10 (lN r) ∧ ¬ gcdN 10 10 (lN r) ≤ 0 := by
  have dec : ∀ n a b, Decidable (gcdB n a b) := by
    intro n
    induction n with
    | zero => intro a b; exact inferInstanceAs (Decidable (b = 0))
    | succ n ih => intro a b; exact @instDecidableOr _ _ _ (ih _ _)
  intro r hr
  rcases (show r = 0 ∨ r = 1 ∨ r = 2 ∨ r = 3 ∨ r = 4 ∨ r = 5 ∨ r = 6 ∨ r = 7 ∨ r = 8 ∨ r = 9 by omega) with rfl | rfl | rfl | rfl | rfl | rfl | rfl | rfl | rfl | rfl
  all_goals
    refine ⟨?_, by decide +kernel, by decide +kernel⟩
    simp only [gcdB]
    decide +kernel
theorem gcd_A {A : Nat} (hA : A < 100000) : gcdB 10 (lN A) 10 ∧ gcdN 11 (lN A) 10 = gcdN 100 (lN A) 10 ∧ ¬ gcdN 100 (lN A) 10 ≤ 0 := by
  have e : lN A - lN A / 10 * 10 = lN (A % 10) := pk_lRem (b := 10) (by omega) (by decide) (by decide)
  obtain ⟨g1, g2, g3⟩ := gcd_10 (A % 10) (Nat.mod_lt A (by decide))
  have n0 : ¬ (10 : Int64) = 0 := by decide
  have s11 : gcdN 11 (lN A) 10 = gcdN 10 10 (lN (A % 10)) := by rw [gcdN, if_neg n0, e]
  have s100 : gcdN 100 (lN A) 10 = gcdN 99 10 (lN (A % 10)) := by rw [gcdN, if_neg n0, e]
  refine ⟨Or.inr (by rw [e]; exact g1), by rw [s11, s100, g2], by rw [s100, ← g2]; exact g3⟩
theorem rdS_N {f : Nat → Int32} {k : Nat} (hk : k ≤ 10) {P : Nat} (hpr : ∀ p, p < P → priceF f p = nI (Cf f p)) : ∀ p, p ≤ P → rdS f (nI k) p = lN ((10 - k) * smN (fun j => if f (7 + j) = 0 then Cf f j else 0) p) := by
  intro p
  induction p with
  | zero => intro _; rfl
  | succ p ih =>
    intro hp
    have hC := Cf_le f p
    rw [rdS, ih (by omega), smN]
    by_cases q : f (7 + p) = 0
    · rw [if_pos q, if_pos q, hpr p (by omega), show (10 : Int32) - nI k = nI (10 - k) from pk_sub (a := 10) hk, pk_mul, nI_l, lN_add, Nat.mul_add]
      have : (10 - k) * Cf f p ≤ 10 * 60 := Nat.mul_le_mul (by omega) hC
      omega
    · rw [if_neg q, if_neg q, Nat.add_zero, Int64.add_zero]
theorem xul_1 (σ : xS) (i k : Nat) (v : Int64) : (xul σ i k v).1 = σ.1 := rfl
theorem xul_2 (σ : xS) (i k : Nat) (v : Int64) (a b : Nat) : (xul σ i k v).2 a b = if a = i ∧ b = k then v else σ.2 a b := rfl
theorem b_redeemed {E : xE} {σ : xS} {c : Int32} (h : Inv σ σ) : Both E yX5_redeemed cX5_redeemed 3 (some .int) yX6_redeemed cX6_redeemed 5 (some .int) [.int c] σ := by
  obtain ⟨P, H, B, U, S, N, M, hx⟩ := h.x
  have hT := hx.1
  have hP := hT.1.1
  have hH := hT.1.2.1
  have hc := c_X5_redeemed 3 (E := E) (c := c) hP.1 hP.2.2 hH.1 hH.2.2
  by_cases q1 : btw c 0 10
  · obtain ⟨k, hk, rfl⟩ := btw_k (n := 10) rfl q1
    have hpr : ∀ p, p < P → priceF (σ.1 74) p = nI (Cf (σ.1 74) p) := fun p hp => (hT.pr (by omega) town_now hp).2
    obtain ⟨T, hTT⟩ : ∃ T, T = smN (fun j => if (σ.1 74) (7 + j) = 0 then Cf (σ.1 74) j else 0) P := ⟨_, rfl⟩
    have hTb : T ≤ 60 * P := by
      rw [hTT]
      exact smN_le (fun j _ => by have := Cf_le (σ.1 74) j; split <;> omega)
    have hA : (10 - k) * T ≤ 10 * 420 := Nat.mul_le_mul (by omega) (by omega)
    have hrd : rdS (σ.1 74) (nI k) P = lN ((10 - k) * T) := by rw [hTT]; exact rdS_N hk hpr P (Nat.le_refl P)
    have hcost : sumV ((wTo σ H P 0 P).1 71) 0 (winI σ P) 7 = nI T := by
      rw [sumV_N (c := Cf (σ.1 74)) (F := wM (σ.1 74) P) (fun p hp hw => by rw [Nat.zero_add]; exact PN_w hT p hp hw) (fun p hp hb => (FB_win hT p hp).mp hb) 7 (Nat.le_refl 7), hTT]
      congr 1
      have hpd := smN_pad (g := sbN (winI σ P) (Cf (σ.1 74))) (P := P) (7 - P) (fun j h1 h2 => by rw [sbN, if_neg (fun z => by have := (wM_iff.mp ((FB_win hT j (by omega)).mp z)).1; omega)])
      rw [show P + (7 - P) = 7 by omega] at hpd
      rw [hpd]
      refine smN_congr (fun j hj => ?_)
      rw [sbN]
      by_cases z : (σ.1 74) (7 + j) = 0
      · rw [if_pos z, if_pos ((FB_win hT j (by omega)).mpr (wM_iff.mpr ⟨hj, z⟩))]
      · rw [if_neg z, if_neg (fun y => z (wM_iff.mp ((FB_win hT j (by omega)).mp y)).2)]
    have hmul : (nI T).toInt64 * (10 - nI k).toInt64 = lN ((10 - k) * T) := by
      rw [show (10 : Int32) - nI k = nI (10 - k) from pk_sub (a := 10) hk, nI_l (by omega), nI_l (by omega), lN_mul, Nat.mul_comm]
    have e : redeemedQ σ P H (nI k) = (1, setFr (wTo σ H P 0 P) (lN ((10 - k) * T)) 10) := by
      rw [redeemedQ, if_pos q1]
      show (1, setFr (wTo σ H P 0 P) ((sumV ((wTo σ H P 0 P).1 71) 0 (winI σ P) 7).toInt64 * (10 - nI k).toInt64) 10) = _
      rw [hcost, hmul]
    rw [e] at hc
    obtain ⟨A, hAA⟩ : ∃ A, A = (10 - k) * T := ⟨_, rfl⟩
    rw [← hAA] at hc hrd hA
    obtain ⟨g1, g2, g3⟩ := gcd_A (A := A) (by omega)
    have n0 : ¬ gcdN 11 (lN A) 10 = 0 := by rw [g2]; intro z; rw [z] at g3; exact g3 (by decide)
    obtain ⟨σ1, e1⟩ : ∃ σ1, σ1 = setFr (wTo σ H P 0 P) (lN A) 10 := ⟨_, rfl⟩
    have hc : Ct E 8 yX5_redeemed cX5_redeemed 3 (some .int) [.ref (E.1 0), .int (nI k)] σ (some (.int 1)) σ1 := by rw [e1]; exact hc
    have s1 : σ1.1 = (wTo σ H P 0 P).1 := by rw [e1]; rfl
    have s8 : σ1.2 0 8 = lN A / gcdN 100 (lN A) 10 := by
      rw [e1, setFr]
      show (xul (xul _ 0 8 _) 0 9 _).2 0 8 = _
      rw [xul_2, if_neg (by omega), xul_2, if_pos ⟨rfl, rfl⟩, if_neg g3]
    have s9 : σ1.2 0 9 = 10 / gcdN 100 (lN A) 10 := by
      rw [e1, setFr]
      show (xul (xul _ 0 8 _) 0 9 _).2 0 9 = _
      rw [xul_2, if_pos ⟨rfl, rfl⟩, if_neg g3]
    have s73 : σ1.2 73 = σ.2 73 := by
      rw [e1]; funext b
      show (xul (xul _ 0 8 _) 0 9 _).2 73 b = _
      rw [xul_2, if_neg (by omega), xul_2, if_neg (by omega)]; rfl
    have cf : cFr σ σ1 := ⟨fun i hi => by rw [s1]; exact wTo_f (by omega) (by omega), s73⟩
    have e74 : σ1.1 74 = σ.1 74 := cf.1 74 (by omega)
    have hr := c_X6_redeemed 5 (E := E) (σ := σ1) (P := P) (n := 10) (c := nI k) (by rw [e74]; exact hP.2.1) hP.2.2 q1 (by rw [e74, hrd]; exact g1) (by rw [e74, hrd]; exact n0)
    rw [e74, hrd] at hr
    obtain ⟨σ2, e2⟩ : ∃ σ2, σ2 = frM σ1 (lN A) 10 (10 + 1) := ⟨_, rfl⟩
    rw [← e2] at hr
    have t1 : σ2.1 = σ1.1 := by rw [e2]; rfl
    have t0 : σ2.2 0 = σ1.2 0 := by
      rw [e2]; funext b
      show (xul (xul _ 73 4 _) 73 5 _).2 0 b = _
      rw [xul_2, if_neg (by omega), xul_2, if_neg (by omega)]
    have t4 : σ2.2 73 4 = lN A / gcdN 11 (lN A) 10 := by
      rw [e2]
      show (xul (xul _ 73 4 _) 73 5 _).2 73 4 = _
      rw [xul_2, if_neg (by omega), xul_2, if_pos ⟨rfl, rfl⟩]
    have t5 : σ2.2 73 5 = 10 / gcdN 11 (lN A) 10 := by
      rw [e2]
      show (xul (xul _ 73 4 _) 73 5 _).2 73 5 = _
      rw [xul_2, if_pos ⟨rfl, rfl⟩]
    refine mkB h hc hr cf ⟨fun i hi => by rw [t1], t0⟩ (fun hi => ⟨rfl, ?_⟩)
    obtain ⟨i1, ⟨i2, i3⟩, ⟨i4, i5⟩, i6, -, i12, i15⟩ := hi
    have a1 : ∀ i, i ≠ 70 → i ≠ 71 → σ1.1 i = σ.1 i := fun i h1 h2 => by rw [s1]; exact wTo_f h1 h2
    rw [Inv, t1, a1 18 (by omega) (by omega), a1 35 (by omega) (by omega), a1 53 (by omega) (by omega), a1 52 (by omega) (by omega), a1 0 (by omega) (by omega), a1 12 (by omega) (by omega), a1 14 (by omega) (by omega), a1 16 (by omega) (by omega)]
    exact ⟨i1.o (fun i _ _ => a1 i (by omega) (by omega)) (fun _ _ => rfl), ⟨i2, fun z => (i3 z).o (fun i _ _ => a1 i (by omega) (by omega)) (fun _ _ => rfl)⟩, ⟨i4, fun z => (i5 z).o (fun i _ _ => a1 i (by omega) (by omega)) (fun _ _ => rfl)⟩, i6, ⟨by rw [s8, t4, g2], by rw [s9, t5, g2]⟩, i12, i15⟩
  · rw [redeemedQ, if_neg q1] at hc
    exact b_bad h hc (c_X6_redeemed_bad 5 q1)
