/-! ===== the start: every cell of the world as it is made ===== -/
def hints3 (i : Nat) : Bool := i == 14 || i == 16 || i == 31 || i == 33 || i == 48 || i == 50
def hints2 (i : Nat) : Bool := i == 12 || i == 29 || i == 46
def σ0 : xS :=
  (fun i => if hints2 i then (fun k => if k = 0 then 5 else 0) else if hints3 i then (fun k => if k = 0 then 6 else 0) else if i = 52 then (fun k => if k = 3 then -1 else 0) else (fun _ => 0),
   fun i => if i = 0 then (fun k => if k = 9 then 1 else 0) else if i = 73 then (fun k => if k = 5 then 1 else 0) else (fun _ => 0))
theorem σ0_z (i : Nat) (h2 : hints2 i = false) (h3 : hints3 i = false) (h5 : i ≠ 52) : σ0.1 i = fun _ => 0 := by simp [σ0, h2, h3, h5]
theorem σ0_2 (i : Nat) (h : hints2 i = true) : σ0.1 i = fun k => if k = 0 then 5 else 0 := by simp [σ0, h]
theorem σ0_3 (i : Nat) (h : hints2 i = false) (h' : hints3 i = true) : σ0.1 i = fun k => if k = 0 then 6 else 0 := by simp [σ0, h, h']
theorem SR_0 : SR σ0 1 (fun _ => 0) := by
  refine ⟨0, 0, 0, 0, 0, 0, 0, ?_, ?_, ?_, ?_, ?_⟩
  · refine ⟨⟨⟨?_, rfl, by omega⟩, ⟨?_, rfl, by omega⟩, ⟨?_, rfl, by omega⟩, fun p hp => absurd hp (by omega), fun p hp => absurd hp (by omega)⟩, ?_⟩
    · rw [σ0_z 2 rfl rfl (by omega)]; rfl
    · rw [σ0_z 2 rfl rfl (by omega)]; rfl
    · rw [σ0_z 2 rfl rfl (by omega)]; rfl
    · refine ⟨0, by omega, rfl, ?_, ?_, fun p hp => absurd hp (by omega), fun p hp => absurd hp (by omega), fun p hp => absurd hp (by omega)⟩
      · show σ0.1 2 10 = (0 : Int32)
        rw [σ0_z 2 rfl rfl (by omega)]
      · show σ0.1 2 11 = (0 : Int32)
        rw [σ0_z 2 rfl rfl (by omega)]
  · refine ⟨?_, rfl, by omega, fun u hu => absurd hu (by omega)⟩
    rw [σ0_z 10 rfl rfl (by omega)]; rfl
  · refine ⟨?_, rfl, by omega, fun u hu => absurd hu (by omega)⟩
    rw [σ0_2 12 rfl]; rfl
  · refine ⟨?_, rfl, by omega, fun u hu => absurd hu (by omega)⟩
    rw [σ0_3 14 rfl rfl]; rfl
  · refine ⟨?_, rfl, by omega, fun u hu => absurd hu (by omega)⟩
    rw [σ0_3 16 rfl rfl]; rfl
theorem Inv_0 : Inv σ0 σ0 := by
  refine ⟨?_, ⟨?_, fun h => absurd ?_ h⟩, ⟨?_, fun h => absurd ?_ h⟩, ⟨?_, 0, by omega, ?_, ?_⟩, ⟨?_, ?_⟩, ⟨?_, ?_, ?_⟩, ?_, ?_, ?_⟩
  · rw [σ0_z 74 rfl rfl (by omega)]; exact SR_0
  · rw [σ0_z 76 rfl rfl (by omega), σ0_z 18 rfl rfl (by omega)]
  · rw [σ0_z 18 rfl rfl (by omega)]
  · rw [σ0_z 76 rfl rfl (by omega), σ0_z 35 rfl rfl (by omega)]
  · rw [σ0_z 35 rfl rfl (by omega)]
  · rw [σ0_z 53 rfl rfl (by omega), σ0_z 82 rfl rfl (by omega)]
  · rfl
  · rw [σ0_z 73 rfl rfl (by omega)]; rfl
  · rfl
  · rfl
  · rw [σ0_z 0 rfl rfl (by omega), σ0_z 77 rfl rfl (by omega)]
  · rw [σ0_z 0 rfl rfl (by omega), σ0_z 77 rfl rfl (by omega)]
  · rw [σ0_z 0 rfl rfl (by omega), σ0_z 77 rfl rfl (by omega)]
  · rw [σ0_2 12 rfl]; rfl
  · rw [σ0_3 14 rfl rfl]; rfl
  · rw [σ0_3 16 rfl rfl]; rfl
def sE (a b : Nat → Nat) (str : Nat → Nat) : Nat → Nat := fun i => if i < 85 then ([a 0, a 1, a 2, a 3, a 4, a 5, a 6, a 7, a 8, a 9, a 10, a 11, a 12, a 13, a 14, a 15, a 16, a 17, a 18, a 19, a 20, a 21, a 22, a 23, a 24, a 25, a 26, a 27, a 28, a 29, a 30, a 31, a 32, a 33, a 34, a 35, a 36, a 37, a 38, a 39, a 40, a 41, a 42, a 43, a 44, a 45, a 46, a 47, a 48, a 49, a 50, a 51, a 52, a 53, a 54, a 55, a 56, a 57, a 58, a 59, a 60, a 61, a 62, a 63, a 64, a 65, a 66, a 67, a 68, a 69, a 70, a 71, a 72, b 0, b 1, b 2, b 3, b 4, b 5, b 6, b 7, b 8, b 9, b 10, b 11] : List Nat).getD i 0 else str i
set_option maxHeartbeats 4000000 in
set_option maxRecDepth 100000 in
theorem start_xw (a b str : Nat → Nat) (D : va_G × (ClassId × ClassId)) : wB (sE a b str, D) a ++ mB (sE a b str, D) b = xw (sE a b str, D) σ0 := rfl
