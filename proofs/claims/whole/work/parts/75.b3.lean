/-! both, call by call: what is asked of promises, hearers, buyers -/
theorem b_q {E : xE} {yc : MethodName} {bc : ByteArray} {nc : Nat} {rc : Option FieldType} {yr : MethodName} {br : ByteArray} {nr : Nat} {rr : Option FieldType} {as : List Value} {σ : xS} {v v' : Value} (h : Inv σ σ) (hc : Ct E 8 yc bc nc rc (.ref (E.1 0) :: as) σ (some v) σ) (hr : Ct E 8 yr br nr rr (.ref (E.1 73) :: as) σ (some v') σ) (e : v' = v) (hv : vOk rc v = true := by rfl) : Both E yc bc nc rc yr br nr rr as σ :=
  mkB h hc hr (cFr.rf σ) (rFr.rf σ) (fun h1 => ⟨e, h1⟩) (hv := hv)
theorem btw_k {w M : Int32} {n : Nat} (hM : M.toInt = n) (h : btw w 0 M) : ∃ k, k ≤ n ∧ w = nI k := nI_of2 hM (Int32.not_lt.mpr h.1) h.2
/-- the places of the town at hand -/
theorem zT.at {σ : xS} {t : Nat} {f : Nat → Int32} {D P H B : Nat} (h : zT σ t f D P H B) (ht : TownAt t) {p : Nat} (hp : p < P) : xat σ (t + 1) (nI p) = f (26 + p) ∧ xat σ (t + 2) (nI p) = f (33 + p) ∧ xat σ (t + 3) (nI p) = f (14 + p) ∧ xat σ (t + 4) (nI p) = f (7 + p) := by
  obtain ⟨⟨⟨a1, a2, a3⟩, -, -, d, -⟩, D0, -, -, -, -, m3, m4, -⟩ := h
  obtain ⟨-, -, -, -, -, -, -, -, l1, l2, l3, l4, l5, l6, l7⟩ := ht
  rw [xat_nI (by omega), xat_nI (by omega), xat_nI (by omega), xat_nI (by omega)]
  exact ⟨(d p hp).1, (d p hp).2.1, (m4 p hp).1, (m3 p hp).1⟩
theorem zT.ath {σ : xS} {t : Nat} {f : Nat → Int32} {D P H B : Nat} (h : zT σ t f D P H B) (ht : TownAt t) {k : Nat} (hk : k < H) : xat σ (t + 5) (nI k) = f (40 + k) ∧ xat σ (t + 6) (nI k) = f (44 + k) := by
  obtain ⟨⟨-, ⟨b1, b2, b3⟩, -, -, e⟩, -⟩ := h
  obtain ⟨-, -, -, -, -, -, -, -, l1, l2, l3, l4, l5, l6, l7⟩ := ht
  rw [xat_nI (by omega), xat_nI (by omega)]
  exact ⟨(e k hk).1, (e k hk).2.1⟩
theorem zT.atb {σ : xS} {t : Nat} {f : Nat → Int32} {D P H B : Nat} (h : zT σ t f D P H B) (ht : TownAt t) {k : Nat} (hk : k < B) : xat σ (t + 7) (nI k) = f (21 + k) := by
  obtain ⟨⟨-, -, ⟨c1, c2, c3⟩, -⟩, D0, -, -, -, -, -, -, m5⟩ := h
  obtain ⟨-, -, -, -, -, -, -, -, l1, l2, l3, l4, l5, l6, l7⟩ := ht
  rw [xat_nI (by omega)]
  exact (m5 k hk).1
theorem zT.all {σ : xS} {t : Nat} {f : Nat → Int32} {D P H B : Nat} (h : zT σ t f D P H B) (pl : Int32) : mkI (fun k => decide (σ.1 (t + 4) k = pl)) P = allM f P pl := by
  obtain ⟨-, D0, -, -, -, -, m3, -, -⟩ := h
  exact mkI_congr (fun k hk => by rw [show σ.1 (t + 4) k = f (7 + k) from (m3 k hk).1])
theorem b_of {E : xE} {σ : xS} {p w : Int32} (h : Inv σ σ) : Both E yX5_of cX5_of 4 (some .int) yX6_of cX6_of 3 (some .int) [.int p, .int w] σ := by
  obtain ⟨P, H, B, U, S, N, M, hx⟩ := h.x
  have hP := hx.1.1.1
  have hc := c_X5_of 4 (E := E) (σ := σ) (p := p) (w := w)
  by_cases q1 : hasIn (σ.1 2 7) p
  · by_cases q2 : btw w 0 5
    · obtain ⟨p', hp, rfl⟩ := hasIn_nI (by omega) (hP.1 ▸ q1)
      have hr := c_X6_of 4 (E := E) hP.2.1 hP.2.2 hp q2
      obtain ⟨a1, a2, a3, a4⟩ := hx.1.at town_now hp
      have hg := hx.1.good (by omega) town_now hp
      have hpr := hx.1.pr (by omega) town_now hp
      obtain ⟨k, hk, rfl⟩ := btw_k (n := 5) rfl q2
      rcases (show k = 0 ∨ k = 1 ∨ k = 2 ∨ k = 3 ∨ k = 4 ∨ k = 5 by omega) with rfl | rfl | rfl | rfl | rfl | rfl
      · rw [ofC, if_pos q1, if_pos (by decide)] at hc
        rw [toldF, if_pos (by decide)] at hr
        exact b_q h hc hr (congrArg Value.int a1.symm)
      · rw [ofC, if_pos q1, if_neg (by decide), if_pos (by decide)] at hc
        rw [toldF, if_neg (by decide), if_pos (by decide)] at hr
        exact b_q h hc hr (congrArg Value.int a2.symm)
      · rw [ofC, if_pos q1, if_neg (by decide), if_neg (by decide), if_pos (by decide)] at hc
        rw [toldF, if_neg (by decide), if_neg (by decide), if_pos (by decide)] at hr
        exact b_q h hc hr (congrArg Value.int a3.symm)
      · rw [ofC, if_pos q1, if_neg (by decide), if_neg (by decide), if_neg (by decide), if_pos (by decide)] at hc
        rw [toldF, if_neg (by decide), if_neg (by decide), if_neg (by decide), if_pos (by decide)] at hr
        exact b_q h hc hr (congrArg Value.int a4.symm)
      · rw [ofC, if_pos q1, if_neg (by decide), if_neg (by decide), if_neg (by decide), if_neg (by decide), if_pos (by decide)] at hc
        rw [toldF, if_neg (by decide), if_neg (by decide), if_neg (by decide), if_neg (by decide), if_pos (by decide)] at hr
        exact b_q h hc hr (congrArg Value.int (hg.2.1.trans hg.1.symm))
      · rw [ofC, if_pos q1, if_neg (by decide), if_neg (by decide), if_neg (by decide), if_neg (by decide), if_neg (by decide), if_pos (by decide)] at hc
        rw [toldF, if_neg (by decide), if_neg (by decide), if_neg (by decide), if_neg (by decide), if_neg (by decide)] at hr
        exact b_q h hc hr (congrArg Value.int (hpr.2.trans hpr.1.symm))
    · have hw : ∀ x : Int32, btw x 0 5 → ¬ w = x := fun x hx e => q2 (e ▸ hx)
      rw [ofC, if_pos q1, if_neg (hw 0 (by decide)), if_neg (hw 1 (by decide)), if_neg (hw 2 (by decide)), if_neg (hw 3 (by decide)), if_neg (hw 4 (by decide)), if_neg (hw 5 (by decide))] at hc
      exact b_bad h hc (c_X6_of_bad 4 (fun z => q2 z.2))
  · rw [ofC, if_neg q1] at hc
    refine b_bad h hc (c_X6_of_bad 4 (fun z => q1 ?_))
    rw [(cFr_bad σ).1 74 (by omega), hP.2.1] at z
    rw [hP.1]; exact z.1
theorem b_about {E : xE} {σ : xS} {g w : Int32} (h : Inv σ σ) : Both E yX5_about cX5_about 4 (some .int) yX6_about cX6_about 3 (some .int) [.int g, .int w] σ := by
  obtain ⟨P, H, B, U, S, N, M, hx⟩ := h.x
  have hP := hx.1.1.1
  have hH := hx.1.1.2.1
  have hc := c_X5_about 6 (E := E) (σ := σ) (P := P) (h := g) (w := w) hP.1 hP.2.2
  by_cases q1 : hasIn (σ.1 2 8) g
  · by_cases q2 : btw w 0 2
    · obtain ⟨g', hg, rfl⟩ := hasIn_nI (by omega) (hH.1 ▸ q1)
      have hr := c_X6_about 6 (E := E) hP.2.1 hP.2.2 hH.2.1 hH.2.2 hg q2
      obtain ⟨a1, a2⟩ := hx.1.ath town_now hg
      obtain ⟨k, hk, rfl⟩ := btw_k (n := 2) rfl q2
      rcases (show k = 0 ∨ k = 1 ∨ k = 2 by omega) with rfl | rfl | rfl
      · rw [aboutC, if_pos q1, if_pos (by decide)] at hc
        rw [if_pos (by decide)] at hr
        exact b_q h hc hr (congrArg Value.int a1.symm)
      · rw [aboutC, if_pos q1, if_neg (by decide), if_pos (by decide)] at hc
        rw [if_neg (by decide), if_pos (by decide)] at hr
        exact b_q h hc hr (congrArg Value.int a2.symm)
      · rw [aboutC, if_pos q1, if_neg (by decide), if_neg (by decide), if_pos (by decide)] at hc
        rw [if_neg (by decide), if_neg (by decide)] at hr
        exact b_q h hc hr (congrArg Value.int (hx.1.all _).symm)
    · have hw : ∀ x : Int32, btw x 0 2 → ¬ w = x := fun x hx e => q2 (e ▸ hx)
      rw [aboutC, if_pos q1, if_neg (hw 0 (by decide)), if_neg (hw 1 (by decide)), if_neg (hw 2 (by decide))] at hc
      exact b_bad h hc (c_X6_about_bad 6 (fun z => q2 z.2))
  · rw [aboutC, if_neg q1] at hc
    refine b_bad h hc (c_X6_about_bad 6 (fun z => q1 ?_))
    rw [(cFr_bad σ).1 74 (by omega), hH.2.1] at z
    rw [hH.1]; exact z.1
theorem b_purse {E : xE} {σ : xS} {b w : Int32} (h : Inv σ σ) : Both E yX5_purse cX5_purse 4 (some .int) yX6_purse cX6_purse 3 (some .int) [.int b, .int w] σ := by
  obtain ⟨P, H, B, U, S, N, M, hx⟩ := h.x
  have hP := hx.1.1.1
  have hB := hx.1.1.2.2.1
  have hc := c_X5_purse 6 (E := E) (σ := σ) (P := P) (b := b) (w := w) hP.1 hP.2.2
  by_cases q1 : hasIn (σ.1 2 9) b
  · by_cases q2 : btw w 0 1
    · obtain ⟨b', hb, rfl⟩ := hasIn_nI (by omega) (hB.1 ▸ q1)
      have hr := c_X6_purse 6 (E := E) hP.2.1 hP.2.2 hB.2.1 hB.2.2 hb q2
      have a1 := hx.1.atb town_now hb
      obtain ⟨k, hk, rfl⟩ := btw_k (n := 1) rfl q2
      rcases (show k = 0 ∨ k = 1 by omega) with rfl | rfl
      · rw [purseC, if_pos q1, if_pos (by decide)] at hc
        rw [if_pos (by decide)] at hr
        exact b_q h hc hr (congrArg Value.int a1.symm)
      · rw [purseC, if_pos q1, if_neg (by decide), if_pos (by decide)] at hc
        rw [if_neg (by decide)] at hr
        exact b_q h hc hr (congrArg Value.int (hx.1.all _).symm)
    · have hw : ∀ x : Int32, btw x 0 1 → ¬ w = x := fun x hx e => q2 (e ▸ hx)
      rw [purseC, if_pos q1, if_neg (hw 0 (by decide)), if_neg (hw 1 (by decide))] at hc
      exact b_bad h hc (c_X6_purse_bad 6 (fun z => q2 z.2))
  · rw [purseC, if_neg q1] at hc
    refine b_bad h hc (c_X6_purse_bad 6 (fun z => q1 ?_))
    rw [(cFr_bad σ).1 74 (by omega), hB.2.1] at z
    rw [hB.1]; exact z.1
theorem b_good {E : xE} {σ : xS} {p m : Int32} (h : Inv σ σ) : Both E yX5_good cX5_good 3 (some .int) yX6_good cX6_good 3 (some .int) [.int p, .int m] σ := by
  obtain ⟨P, H, B, U, S, N, M, hx⟩ := h.x
  have hP := hx.1.1.1
  have hc := c_X5_good 5 (E := E) (σ := σ) (p := p) (m := m)
  by_cases q1 : hasIn (σ.1 2 7) p
  · by_cases q2 : btw m 0 60
    · obtain ⟨p', hp, rfl⟩ := hasIn_nI (by omega) (hP.1 ▸ q1)
      have hr := c_X6_good 6 (E := E) hP.2.1 hP.2.2 hp q2
      obtain ⟨k, hk, rfl⟩ := btw_k (n := 60) rfl q2
      have hg := hx.1.gb (by omega) town_now hp hk
      rw [goodQ, if_pos q1, if_pos q2] at hc
      exact b_q h hc hr (congrArg Value.int (hg.2.1.trans hg.1.symm))
    · rw [goodQ, if_pos q1, if_neg q2] at hc
      exact b_bad h hc (c_X6_good_bad 6 (fun z => q2 z.2))
  · rw [goodQ, if_neg q1] at hc
    refine b_bad h hc (c_X6_good_bad 6 (fun z => q1 ?_))
    rw [(cFr_bad σ).1 74 (by omega), hP.2.1] at z
    rw [hP.1]; exact z.1
theorem b_joy {E : xE} {σ : xS} {p g : Int32} (h : Inv σ σ) : Both E yX5_joy cX5_joy 3 (some .int) yX6_joy cX6_joy 3 (some .int) [.int p, .int g] σ := by
  obtain ⟨P, H, B, U, S, N, M, hx⟩ := h.x
  have hP := hx.1.1.1
  have hH := hx.1.1.2.1
  have hc := c_X5_joy 4 (E := E) (σ := σ) (p := p) (h := g)
  by_cases q1 : hasIn (σ.1 2 7) p
  · by_cases q2 : hasIn (σ.1 2 8) g
    · obtain ⟨p', hp, rfl⟩ := hasIn_nI (by omega) (hP.1 ▸ q1)
      obtain ⟨g', hg, rfl⟩ := hasIn_nI (by omega) (hH.1 ▸ q2)
      have hr := c_X6_joy 5 (E := E) hP.2.1 hP.2.2 hH.2.1 hH.2.2 hp hg
      have hj := hx.1.jo (by omega) town_now hp hg
      rw [joyQ, if_pos q1, if_pos q2] at hc
      exact b_q h hc hr (congrArg Value.int (hj.2.trans hj.1.symm))
    · rw [joyQ, if_pos q1, if_neg q2] at hc
      refine b_bad h hc (c_X6_joy_bad 5 (fun z => q2 ?_))
      rw [(cFr_bad σ).1 74 (by omega), hH.2.1] at z
      rw [hH.1]; exact z.2
  · rw [joyQ, if_neg q1] at hc
    refine b_bad h hc (c_X6_joy_bad 5 (fun z => q1 ?_))
    rw [(cFr_bad σ).1 74 (by omega), hP.2.1] at z
    rw [hP.1]; exact z.1
theorem whenF_scan (f : Nat → Int32) (p : Nat) (x : Int32) : ∀ n m, whenF f p x n m = scanI (fun m => decide (x ≤ gbF f p (nI m))) n m := by
  intro n
  induction n with
  | zero => intro m; rfl
  | succ n ih =>
    intro m
    rw [whenF, scanI, ih]
    by_cases q : x ≤ gbF f p (nI m)
    · rw [if_pos q, if_pos (decide_eq_true q)]
    · rw [if_neg q, if_neg (by rw [decide_eq_true_eq]; exact q)]
theorem b_when {E : xE} {σ : xS} {p x : Int32} (h : Inv σ σ) : Both E yX5_when cX5_when 4 (some .int) yX6_when cX6_when 4 (some .int) [.int p, .int x] σ := by
  obtain ⟨P, H, B, U, S, N, M, hx⟩ := h.x
  have hP := hx.1.1.1
  have hc := c_X5_when 5 (E := E) (σ := σ) (p := p) (x := x)
  by_cases q1 : hasIn (σ.1 2 7) p
  · by_cases q2 : btw x 1 30
    · obtain ⟨p', hp, rfl⟩ := hasIn_nI (by omega) (hP.1 ▸ q1)
      have hr := c_X6_when 6 (E := E) hP.2.1 hP.2.2 hp q2
      rw [whenQ, if_pos q1, if_pos q2] at hc
      refine b_q h hc hr (congrArg Value.int ?_)
      rw [whenF_scan]
      show scanI (fun m => decide (x ≤ gbF (σ.1 74) p' (nI m))) 61 0 = scanI (fun m => decide (x ≤ gB σ 2 (nI p') (nI m))) 61 0
      refine scanI_congr (fun m hm => ?_)
      rw [Nat.zero_add]
      have hg := hx.1.gb (by omega) town_now hp (m := m) (by omega)
      rw [hg.1, hg.2.1]
    · rw [whenQ, if_pos q1, if_neg q2] at hc
      exact b_bad h hc (c_X6_when_bad 6 (fun z => q2 z.2))
  · rw [whenQ, if_neg q1] at hc
    refine b_bad h hc (c_X6_when_bad 6 (fun z => q1 ?_))
    rw [(cFr_bad σ).1 74 (by omega), hP.2.1] at z
    rw [hP.1]; exact z.1
theorem zT.wait {σ : xS} {t : Nat} {f : Nat → Int32} {D P H B : Nat} (h : zT σ t f D P H B) : mkI (fun k => decide (mkI (fun j => decide (σ.1 (t + 4) j = 10 + nI k)) P = 0)) H = waitM f P H := by
  rw [waitM]
  exact mkI_congr (fun k hk => by rw [h.all (10 + nI k)])
theorem b_waits {E : xE} {σ : xS} (h : Inv σ σ) : Both E yX5_waits cX5_waits 1 (some .int) yX6_waits cX6_waits 1 (some .int) [] σ := by
  obtain ⟨P, H, B, U, S, N, M, hx⟩ := h.x
  have hP := hx.1.1.1
  have hH := hx.1.1.2.1
  exact b_q h (c_X5_waits 5 hP.1 hP.2.2 hH.1 hH.2.2) (c_X6_waits 5 hP.2.1 hP.2.2 hH.2.1 hH.2.2) (congrArg Value.int hx.1.wait.symm)
/-! counts -/
theorem b_status {E : xE} {σ : xS} {w : Int32} (h : Inv σ σ) : Both E yX5_status cX5_status 2 (some .int) yX6_status cX6_status 2 (some .int) [.int w] σ := by
  obtain ⟨s1, s2, s3⟩ := h.2.2.2.2.2.1
  have hc := c_X5_status 7 (E := E) (σ := σ) (w := w)
  by_cases q2 : btw w 0 2
  · obtain ⟨k, hk, rfl⟩ := btw_k (n := 2) rfl q2
    have hr := c_X6_status 7 (E := E) (σ := σ) (k := k) (by omega)
    rcases (show k = 0 ∨ k = 1 ∨ k = 2 by omega) with rfl | rfl | rfl
    · rw [statusQ, if_pos (by decide)] at hc
      exact b_q h hc hr (congrArg Value.int s1.symm)
    · rw [statusQ, if_neg (by decide), if_pos (by decide)] at hc
      exact b_q h hc hr (congrArg Value.int s2.symm)
    · rw [statusQ, if_neg (by decide), if_neg (by decide), if_pos (by decide)] at hc
      exact b_q h hc hr (congrArg Value.int s3.symm)
  · have hw : ∀ x : Int32, btw x 0 2 → ¬ w = x := fun x hx e => q2 (e ▸ hx)
    rw [statusQ, if_neg (hw 0 (by decide)), if_neg (hw 1 (by decide)), if_neg (hw 2 (by decide))] at hc
    exact b_bad h hc (c_X6_status_bad 7 q2)
theorem kept_sum {x : Int32} {H : Nat} (hH : H ≤ 4) (h : PlOK H x) : smI (fun k => bI (decide (x = 10 + nI k))) H = bI (decide (10 ≤ x)) := by
  have e10 : ∀ k, (10 : Int32) + nI k = nI (10 + k) := fun k => nI_add 10 k
  have one : ∀ n y, n ≤ 4 → smI (fun k => bI (decide (nI y = nI (10 + k)))) n = if y < 1000 then bI (decide (10 ≤ y ∧ y < 10 + n)) else smI (fun k => bI (decide (nI y = nI (10 + k)))) n := by
    intro n y
    induction n with
    | zero => intro _; split
              · rw [decide_eq_false (by omega)]; rfl
              · rfl
    | succ n ih =>
      intro hn
      by_cases hy : y < 1000
      · rw [if_pos hy, smI, ih (by omega), if_pos hy]
        by_cases q : y = 10 + n
        · rw [decide_eq_false (show ¬ (10 ≤ y ∧ y < 10 + n) by omega), decide_eq_true (show nI y = nI (10 + n) by rw [q]), decide_eq_true (show 10 ≤ y ∧ y < 10 + (n + 1) by omega)]; rfl
        · rw [decide_eq_false (show ¬ nI y = nI (10 + n) from fun z => q ((nI_eq (by omega) (by omega)).mp z)), show bI false = 0 from rfl, Int32.add_zero]
          congr 1
          exact decide_eq_decide.mpr (by omega)
      · rw [if_neg hy]
  have fin : ∀ y, y < 1000 → x = nI y → (10 ≤ y → y < 10 + H) → smI (fun k => bI (decide (x = 10 + nI k))) H = bI (decide (10 ≤ x)) := fun y hy hx hyH => by
    subst hx
    simp only [e10]
    rw [one H y hH, if_pos hy]
    congr 1
    refine decide_eq_decide.mpr ⟨fun z => show nI 10 ≤ nI y from nI_le z.1 (by omega), fun z => ?_⟩
    have := (nI_leI (a := 10) (by decide) (by omega)).mp z
    exact ⟨this, hyH this⟩
  rcases h with z | ⟨b, hb, z⟩ | ⟨k, hk, z⟩
  · exact fin 0 (by omega) z (by omega)
  · exact fin (1 + b) (by omega) z (by omega)
  · exact fin (10 + k) (by omega) z (by omega)
theorem cnt_eq {σ : xS} {P H B U S N M k : Nat} (h : Inv σ σ) (hx : SX σ (σ.1 74) P H B U S N M) (hk : k < 12) : countC σ P H (nI k) = cntM σ P k := by
  obtain ⟨hT, L, hL, h1, h2⟩ := h.2.2.2.1
  obtain ⟨hT, hU, hE, hN, hM⟩ := hx
  obtain ⟨D0, d0, d1, d2, d3, m3, m4, m5⟩ := hT.2
  have hP := hT.1.1
  have hH := hT.1.2.1
  have hB := hT.1.2.2.1
  rcases (show k = 0 ∨ k = 1 ∨ k = 2 ∨ k = 3 ∨ k = 4 ∨ k = 5 ∨ k = 6 ∨ k = 7 ∨ k = 8 ∨ k = 9 ∨ k = 10 ∨ k = 11 by omega) with rfl | rfl | rfl | rfl | rfl | rfl | rfl | rfl | rfl | rfl | rfl | rfl
  · exact hP.1.trans hP.2.1.symm
  · exact hH.1.trans hH.2.1.symm
  · exact hB.1.trans hB.2.1.symm
  · exact d2
  · show bitCnt (mkI (fun k => decide (σ.1 6 k = 0)) P) = shM (σ.1 74) P
    rw [cnt_P _ hP.2.2, shM]
    refine smI_congr (fun k hk => ?_)
    rw [b2i_bI, show σ.1 6 k = σ.1 74 (7 + k) from (m3 k hk).1]
  · show smI (fun h => bitCnt (mkI (fun k => decide (σ.1 6 k = 10 + nI h)) P)) H = kpM (σ.1 74) P
    have e : ∀ h, bitCnt (mkI (fun k => decide (σ.1 6 k = 10 + nI h)) P) = smI (fun k => bI (decide (σ.1 6 k = 10 + nI h))) P := fun h => cnt_P _ hP.2.2
    simp only [e]
    rw [smI_swap, kpM]
    refine smI_congr (fun k hk => ?_)
    rw [b2i_bI]
    have hm := m3 k hk
    rw [show σ.1 6 k = σ.1 74 (7 + k) from hm.1]
    exact kept_sum hH.2.2 hm.2
  · exact d3
  · exact hE.1.trans hE.2.1.symm
  · exact hN.1.trans hN.2.1.symm
  · exact hM.1.trans hM.2.1.symm
  · exact hU.1.trans hU.2.1.symm
  · exact h1.trans h2.symm
theorem b_count {E : xE} {σ : xS} {w : Int32} (h : Inv σ σ) : Both E yX5_count cX5_count 2 (some .int) yX6_count cX6_count 2 (some .int) [.int w] σ := by
  obtain ⟨P, H, B, U, S, N, M, hx⟩ := h.x
  have hP := hx.1.1.1
  have hH := hx.1.1.2.1
  have hc := c_X5_count 4 (E := E) (σ := σ) (P := P) (H := H) (w := w) hP.1 hP.2.2 hH.1 hH.2.2
  by_cases q2 : btw w 0 11
  · obtain ⟨k, hk, rfl⟩ := btw_k (n := 11) rfl q2
    have hr := c_X6_count 6 (E := E) (σ := σ) (P := P) (k := k) hP.2.1 hP.2.2 (by omega)
    rw [countQ, if_pos q2] at hc
    exact b_q h hc hr (congrArg Value.int (cnt_eq h hx (by omega)).symm)
  · rw [countQ, if_neg q2] at hc
    exact b_bad h hc (c_X6_count_bad 6 q2)
theorem b_part {E : xE} {σ : xS} {w : Int32} (h : Inv σ σ) : Both E yX5_part cX5_part 2 (some .long) yX6_part cX6_part 2 (some .long) [.int w] σ := by
  obtain ⟨s1, s2⟩ := h.2.2.2.2.1
  have hc := c_X5_part 6 (E := E) (σ := σ) (w := w)
  by_cases q0 : w = 0
  · have hr := c_X6_part 7 (E := E) (σ := σ) (w := w)
    rw [partQ, if_pos q0] at hc
    rw [if_pos q0, if_pos q0] at hr
    exact b_q h hc hr (congrArg Value.long s1.symm)
  · by_cases q1 : w = 1
    · have hr := c_X6_part 7 (E := E) (σ := σ) (w := w)
      rw [partQ, if_neg q0, if_pos q1] at hc
      rw [if_neg q0, if_pos q1, if_neg q0, if_pos q1] at hr
      exact b_q h hc hr (congrArg Value.long s2.symm)
    · have hr := c_X6_part 7 (E := E) (σ := badS σ) (w := w)
      rw [partQ, if_neg q0, if_neg q1] at hc
      rw [if_neg q0, if_neg q1, if_neg q0, if_neg q1] at hr
      exact b_bad h hc hr
/-! the digest -/
theorem dgF_s (g : Nat → Int64 → Int64) (n : Nat) (h : Int64) : dgF g (n + 1) h = g n (dgF g n h) := rfl
theorem dgF_congr {g g' : Nat → Int64 → Int64} {h : Int64} : ∀ {n : Nat}, (∀ k, k < n → ∀ h, g k h = g' k h) → dgF g n h = dgF g' n h := by
  intro n
  induction n with
  | zero => intro _; rfl
  | succ n ih => intro hk; rw [dgF_s, dgF_s, ih (fun k hk' => hk k (by omega)), hk n (by omega)]
theorem smL_dg (f : Nat → Int32) (s : Nat) (h : Int64) : ∀ n, smL f s n h = dgF (fun k h => dg h (f (s + k))) n h := by
  intro n
  induction n with
  | zero => rfl
  | succ n ih => rw [smL, ih, dgF_s]; rfl
theorem dgF_2 (g : Nat → Int64 → Int64) (h : Int64) : ∀ n, dgF g (2 * n) h = dgF (fun r h => g (2 * r + 1) (g (2 * r) h)) n h := by
  intro n
  induction n with
  | zero => rfl
  | succ n ih => rw [show 2 * (n + 1) = 2 * n + 1 + 1 by omega, dgF_s, dgF_s, ih, dgF_s]
theorem dgF_4 (g : Nat → Int64 → Int64) (h : Int64) : ∀ n, dgF g (4 * n) h = dgF (fun r h => g (4 * r + 3) (g (4 * r + 2) (g (4 * r + 1) (g (4 * r) h)))) n h := by
  intro n
  induction n with
  | zero => rfl
  | succ n ih => rw [show 4 * (n + 1) = 4 * n + 1 + 1 + 1 + 1 by omega, dgF_s, dgF_s, dgF_s, dgF_s, ih, dgF_s]
theorem zN_dg {σ : xS} {i : Nat} {f : Nat → Int32} {c s D N : Nat} (h : zN σ i f c s D N) (x : Int64) : dgF (fun r => dgC σ i r 0 4) N x = smL f s (4 * N) x := by
  rw [smL_dg, dgF_4]
  refine dgF_congr (fun r hr y => ?_)
  have e := (h.2.2.2 r hr).1
  show dg (dg (dg (dg y (σ.1 (i + 1) (4 * r + (0 + 0)))) (σ.1 (i + 1) (4 * r + (0 + 1)))) (σ.1 (i + 1) (4 * r + (0 + 2)))) (σ.1 (i + 1) (4 * r + (0 + 3))) = dg (dg (dg (dg y (f (s + 4 * r))) (f (s + (4 * r + 1)))) (f (s + (4 * r + 2)))) (f (s + (4 * r + 3)))
  rw [show σ.1 (i + 1) (4 * r + (0 + 0)) = f (s + 4 * r) from e 0 (by omega), show σ.1 (i + 1) (4 * r + (0 + 1)) = f (s + (4 * r + 1)) from e 1 (by omega), show σ.1 (i + 1) (4 * r + (0 + 2)) = f (s + (4 * r + 2)) from e 2 (by omega), show σ.1 (i + 1) (4 * r + (0 + 3)) = f (s + (4 * r + 3)) from e 3 (by omega)]
theorem zE_dg {σ : xS} {i : Nat} {f : Nat → Int32} {S : Nat} (h : zE σ i f S) (x : Int64) : dgF (fun r => dgC σ i r 2 2) S x = smL f 48 (2 * S) x := by
  rw [smL_dg, dgF_2]
  refine dgF_congr (fun r hr y => ?_)
  obtain ⟨-, e2, e3, -⟩ := h.2.2.2 r hr
  show dg (dg y (σ.1 (i + 1) (4 * r + (2 + 0)))) (σ.1 (i + 1) (4 * r + (2 + 1))) = dg (dg y (f (48 + 2 * r))) (f (48 + (2 * r + 1)))
  rw [show σ.1 (i + 1) (4 * r + (2 + 0)) = f (48 + 2 * r) from e2, show σ.1 (i + 1) (4 * r + (2 + 1)) = f (48 + (2 * r + 1)) from e3]
theorem b_digest {E : xE} {σ : xS} (h : Inv σ σ) : Both E yX5_digest cX5_digest 4 (some .long) yX6_digest cX6_digest 5 (some .long) [] σ := by
  obtain ⟨P, H, B, U, S, N, M, hx⟩ := h.x
  obtain ⟨hT, hU, hE, hN, hM⟩ := id hx
  have hP := hT.1.1
  have hH := hT.1.2.1
  have hB := hT.1.2.2.1
  obtain ⟨s1, s2⟩ := h.2.2.2.2.1
  have hc := c_X5_digest 4 (E := E) hP.1 hP.2.2 hH.1 hH.2.2 hB.1 hB.2.2 hE.1 hE.2.2.1 hN.1 hN.2.2.1 hM.1 hM.2.2.1
  have hr := c_X6_digest 4 (E := E) hP.2.1 hP.2.2 hH.2.1 hH.2.2 hB.2.1 hB.2.2 hE.2.1 hE.2.2.1 hN.2.1 hN.2.2.1 hM.2.1 hM.2.2.1
  refine b_q h hc hr (congrArg Value.long ?_)
  obtain ⟨D0, -, -, -, -, m3, m4, m5⟩ := hT.2
  have k1 : digM1 σ P = dgF (fun k h => dg h (countC σ P H (nI k))) 12 1637 := by
    rw [digM1]
    exact dgF_congr (fun k hk y => by rw [cnt_eq h hx hk])
  have k2 : ∀ y, digM2 (σ.1 74) P y = dgF (dgP σ 2) P y := fun y => by
    rw [digM2]
    refine dgF_congr (fun p hp z => ?_)
    show dg (dg (dg (dg z (toldF (σ.1 74) p (nI 0))) (toldF (σ.1 74) p (nI 1))) (toldF (σ.1 74) p (nI 2))) (toldF (σ.1 74) p (nI 3)) = dg (dg (dg (dg z (σ.1 3 p)) (σ.1 4 p)) (σ.1 5 p)) (σ.1 6 p)
    rw [show σ.1 3 p = σ.1 74 (26 + p) from (hT.1.2.2.2.1 p hp).1, show σ.1 4 p = σ.1 74 (33 + p) from (hT.1.2.2.2.1 p hp).2.1, show σ.1 5 p = σ.1 74 (14 + p) from (m4 p hp).1, show σ.1 6 p = σ.1 74 (7 + p) from (m3 p hp).1]
    rfl
  have k3 : ∀ y, digM3 (σ.1 74) H y = dgF (dgH σ 2) H y := fun y => by
    rw [digM3]
    refine dgF_congr (fun k hk z => ?_)
    show dg (dg z (σ.1 74 (40 + k))) (σ.1 74 (44 + k)) = dg (dg z (σ.1 7 k)) (σ.1 8 k)
    rw [show σ.1 7 k = σ.1 74 (40 + k) from (hT.1.2.2.2.2 k hk).1, show σ.1 8 k = σ.1 74 (44 + k) from (hT.1.2.2.2.2 k hk).2.1]
  have k4 : ∀ y, smL (σ.1 74) 21 B y = dgF (dgB σ 2) B y := fun y => by
    rw [smL_dg]
    refine dgF_congr (fun k hk z => ?_)
    show dg z (σ.1 74 (21 + k)) = dg z (σ.1 9 k)
    rw [show σ.1 9 k = σ.1 74 (21 + k) from (m5 k hk).1]
  rw [digM, digC, k1, k2, k3, k4, ← zE_dg hE, ← zN_dg hN, ← zN_dg hM, s1, s2]
