/-! the reference: the items that add, full or not -/
def tAddP (σ : xS) (P : Nat) : Int32 × xS := if P = 7 then (0, σ) else (b2i (twoB σ), twoS σ (mLay (σ.1 83) P ((gbS σ).1 73 15) ((tkS (gbS σ) 0 0 5).1 73 15)))
def tAddH (σ : xS) (H : Nat) : Int32 × xS := if H = 4 then (0, σ) else (b2i (twoB σ), twoS σ (upd (upd (upd (σ.1 83) (40 + H) ((gbS σ).1 73 15)) (44 + H) ((tkS (gbS σ) 0 0 5).1 73 15)) 1 (nI (H + 1))))
def tAddB (σ : xS) (B : Nat) : Int32 × xS := if B = 3 then (0, σ) else (b2i (tkB (gbS σ) 0 99), oneS σ (upd (upd (σ.1 83) (21 + B) ((gbS σ).1 73 15)) 2 (nI (B + 1))))
theorem c_X6_takesPromiseQ (d : Nat) {E : xE} {σ : xS} {P : Nat} (h : MrOK σ) (hP : σ.1 83 0 = nI P) (hP7 : P ≤ 7) : Ct E (d + 5) yX6_takesPromise cX6_takesPromise 1 (some .boolean) [.ref (E.1 73)] σ (some (.int (tAddP σ P).1)) (tAddP σ P).2 := by
  by_cases q : P = 7
  · rw [tAddP, if_pos q]
    exact c_X6_takesPromise_full d (by rw [hP, q]; rfl)
  · rw [tAddP, if_neg q]
    exact c_X6_takesPromise d h hP (by omega)
theorem c_X6_takesHearerQ (d : Nat) {E : xE} {σ : xS} {H : Nat} (h : MrOK σ) (hP : σ.1 83 1 = nI H) (hP7 : H ≤ 4) : Ct E (d + 5) yX6_takesHearer cX6_takesHearer 1 (some .boolean) [.ref (E.1 73)] σ (some (.int (tAddH σ H).1)) (tAddH σ H).2 := by
  by_cases q : H = 4
  · rw [tAddH, if_pos q]
    exact c_X6_takesHearer_full d (by rw [hP, q]; rfl)
  · rw [tAddH, if_neg q]
    exact c_X6_takesHearer d h hP (by omega)
theorem c_X6_takesBuyerQ (d : Nat) {E : xE} {σ : xS} {B : Nat} (h : MrOK σ) (hP : σ.1 83 2 = nI B) (hP7 : B ≤ 3) : Ct E (d + 5) yX6_takesBuyer cX6_takesBuyer 1 (some .boolean) [.ref (E.1 73)] σ (some (.int (tAddB σ B).1)) (tAddB σ B).2 := by
  by_cases q : B = 3
  · rw [tAddB, if_pos q]
    exact c_X6_takesBuyer_full d (by rw [hP, q]; rfl)
  · rw [tAddB, if_neg q]
    exact c_X6_takesBuyer d h hP (by omega)
