theorem sw_X2_readItem_19 {E : xE} {R : Room} {F : Option Value → xS → Prop} {l : xL} {st : List Value} {σ : xS} {x : Int32} (k1 : x = 1 → Ev E R RX2 cX2_readItem 2 F 56 l st σ) (k2 : x = 2 → Ev E R RX2 cX2_readItem 2 F 63 l st σ) (k3 : x = 3 → Ev E R RX2 cX2_readItem 2 F 70 l st σ) (k4 : x = 4 → Ev E R RX2 cX2_readItem 2 F 77 l st σ) (k5 : x = 5 → Ev E R RX2 cX2_readItem 2 F 84 l st σ) (k6 : x = 6 → Ev E R RX2 cX2_readItem 2 F 91 l st σ) (kd : ¬ x = 1 → ¬ x = 2 → ¬ x = 3 → ¬ x = 4 → ¬ x = 5 → ¬ x = 6 → Ev E R RX2 cX2_readItem 2 F 98 l st σ) : Ev E R RX2 cX2_readItem 2 F 19 l (.int x :: st) σ := by
  by_cases h1 : x = 1
  · subst h1
    intro p l0 e s m args below meth c A cells slots Q H locs ls C hc hA hX hf hP hS hL
    exact lv_tableIn (tgt := 56) C.1 C.2.1 dX2_readItem_19 (by decide) (by decide) (off := 37) (by decide) rfl (k1 rfl p l0 e s m args below meth c A cells slots Q H locs ls C hc hA hX hf hP hS hL)
  by_cases h2 : x = 2
  · subst h2
    intro p l0 e s m args below meth c A cells slots Q H locs ls C hc hA hX hf hP hS hL
    exact lv_tableIn (tgt := 63) C.1 C.2.1 dX2_readItem_19 (by decide) (by decide) (off := 44) (by decide) rfl (k2 rfl p l0 e s m args below meth c A cells slots Q H locs ls C hc hA hX hf hP hS hL)
  by_cases h3 : x = 3
  · subst h3
    intro p l0 e s m args below meth c A cells slots Q H locs ls C hc hA hX hf hP hS hL
    exact lv_tableIn (tgt := 70) C.1 C.2.1 dX2_readItem_19 (by decide) (by decide) (off := 51) (by decide) rfl (k3 rfl p l0 e s m args below meth c A cells slots Q H locs ls C hc hA hX hf hP hS hL)
  by_cases h4 : x = 4
  · subst h4
    intro p l0 e s m args below meth c A cells slots Q H locs ls C hc hA hX hf hP hS hL
    exact lv_tableIn (tgt := 77) C.1 C.2.1 dX2_readItem_19 (by decide) (by decide) (off := 58) (by decide) rfl (k4 rfl p l0 e s m args below meth c A cells slots Q H locs ls C hc hA hX hf hP hS hL)
  by_cases h5 : x = 5
  · subst h5
    intro p l0 e s m args below meth c A cells slots Q H locs ls C hc hA hX hf hP hS hL
    exact lv_tableIn (tgt := 84) C.1 C.2.1 dX2_readItem_19 (by decide) (by decide) (off := 65) (by decide) rfl (k5 rfl p l0 e s m args below meth c A cells slots Q H locs ls C hc hA hX hf hP hS hL)
  by_cases h6 : x = 6
  · subst h6
    intro p l0 e s m args below meth c A cells slots Q H locs ls C hc hA hX hf hP hS hL
    exact lv_tableIn (tgt := 91) C.1 C.2.1 dX2_readItem_19 (by decide) (by decide) (off := 72) (by decide) rfl (k6 rfl p l0 e s m args below meth c A cells slots Q H locs ls C hc hA hX hf hP hS hL)
  intro p l0 e s m args below meth c A cells slots Q H locs ls C hc hA hX hf hP hS hL
  have hout : x.toInt < 1 ∨ 6 < x.toInt := by
    have g1 : x.toInt ≠ 1 := fun h => h1 (Int32.toInt_inj.mp (by rw [h]; decide))
    have g2 : x.toInt ≠ 2 := fun h => h2 (Int32.toInt_inj.mp (by rw [h]; decide))
    have g3 : x.toInt ≠ 3 := fun h => h3 (Int32.toInt_inj.mp (by rw [h]; decide))
    have g4 : x.toInt ≠ 4 := fun h => h4 (Int32.toInt_inj.mp (by rw [h]; decide))
    have g5 : x.toInt ≠ 5 := fun h => h5 (Int32.toInt_inj.mp (by rw [h]; decide))
    have g6 : x.toInt ≠ 6 := fun h => h6 (Int32.toInt_inj.mp (by rw [h]; decide))
    omega
  exact lv_tableOut (tgt := 98) C.1 C.2.1 dX2_readItem_19 hout rfl (kd h1 h2 h3 h4 h5 h6 p l0 e s m args below meth c A cells slots Q H locs ls C hc hA hX hf hP hS hL)
theorem sw_X2_mayStand_18 {E : xE} {R : Room} {F : Option Value → xS → Prop} {l : xL} {st : List Value} {σ : xS} {x : Int32} (k1 : x = 1 → Ev E R RX2 cX2_mayStand 2 F 44 l st σ) (k2 : x = 2 → Ev E R RX2 cX2_mayStand 2 F 62 l st σ) (k3 : x = 3 → Ev E R RX2 cX2_mayStand 2 F 79 l st σ) (kd : ¬ x = 1 → ¬ x = 2 → ¬ x = 3 → Ev E R RX2 cX2_mayStand 2 F 96 l st σ) : Ev E R RX2 cX2_mayStand 2 F 18 l (.int x :: st) σ := by
  by_cases h1 : x = 1
  · subst h1
    intro p l0 e s m args below meth c A cells slots Q H locs ls C hc hA hX hf hP hS hL
    exact lv_tableIn (tgt := 44) C.1 C.2.1 dX2_mayStand_18 (by decide) (by decide) (off := 26) (by decide) rfl (k1 rfl p l0 e s m args below meth c A cells slots Q H locs ls C hc hA hX hf hP hS hL)
  by_cases h2 : x = 2
  · subst h2
    intro p l0 e s m args below meth c A cells slots Q H locs ls C hc hA hX hf hP hS hL
    exact lv_tableIn (tgt := 62) C.1 C.2.1 dX2_mayStand_18 (by decide) (by decide) (off := 44) (by decide) rfl (k2 rfl p l0 e s m args below meth c A cells slots Q H locs ls C hc hA hX hf hP hS hL)
  by_cases h3 : x = 3
  · subst h3
    intro p l0 e s m args below meth c A cells slots Q H locs ls C hc hA hX hf hP hS hL
    exact lv_tableIn (tgt := 79) C.1 C.2.1 dX2_mayStand_18 (by decide) (by decide) (off := 61) (by decide) rfl (k3 rfl p l0 e s m args below meth c A cells slots Q H locs ls C hc hA hX hf hP hS hL)
  intro p l0 e s m args below meth c A cells slots Q H locs ls C hc hA hX hf hP hS hL
  have hout : x.toInt < 1 ∨ 3 < x.toInt := by
    have g1 : x.toInt ≠ 1 := fun h => h1 (Int32.toInt_inj.mp (by rw [h]; decide))
    have g2 : x.toInt ≠ 2 := fun h => h2 (Int32.toInt_inj.mp (by rw [h]; decide))
    have g3 : x.toInt ≠ 3 := fun h => h3 (Int32.toInt_inj.mp (by rw [h]; decide))
    omega
  exact lv_tableOut (tgt := 96) C.1 C.2.1 dX2_mayStand_18 hout rfl (kd h1 h2 h3 p l0 e s m args below meth c A cells slots Q H locs ls C hc hA hX hf hP hS hL)
theorem sw_X2_spelling_1 {E : xE} {R : Room} {F : Option Value → xS → Prop} {l : xL} {st : List Value} {σ : xS} {x : Int32} (k0 : x = 0 → Ev E R RX2 cX2_spelling 1 F 40 l st σ) (k1 : x = 1 → Ev E R RX2 cX2_spelling 1 F 43 l st σ) (k2 : x = 2 → Ev E R RX2 cX2_spelling 1 F 46 l st σ) (k3 : x = 3 → Ev E R RX2 cX2_spelling 1 F 49 l st σ) (k4 : x = 4 → Ev E R RX2 cX2_spelling 1 F 52 l st σ) (k5 : x = 5 → Ev E R RX2 cX2_spelling 1 F 55 l st σ) (kd : ¬ x = 0 → ¬ x = 1 → ¬ x = 2 → ¬ x = 3 → ¬ x = 4 → ¬ x = 5 → Ev E R RX2 cX2_spelling 1 F 58 l st σ) : Ev E R RX2 cX2_spelling 1 F 1 l (.int x :: st) σ := by
  by_cases h0 : x = 0
  · subst h0
    intro p l0 e s m args below meth c A cells slots Q H locs ls C hc hA hX hf hP hS hL
    exact lv_tableIn (tgt := 40) C.1 C.2.1 dX2_spelling_1 (by decide) (by decide) (off := 39) (by decide) rfl (k0 rfl p l0 e s m args below meth c A cells slots Q H locs ls C hc hA hX hf hP hS hL)
  by_cases h1 : x = 1
  · subst h1
    intro p l0 e s m args below meth c A cells slots Q H locs ls C hc hA hX hf hP hS hL
    exact lv_tableIn (tgt := 43) C.1 C.2.1 dX2_spelling_1 (by decide) (by decide) (off := 42) (by decide) rfl (k1 rfl p l0 e s m args below meth c A cells slots Q H locs ls C hc hA hX hf hP hS hL)
  by_cases h2 : x = 2
  · subst h2
    intro p l0 e s m args below meth c A cells slots Q H locs ls C hc hA hX hf hP hS hL
    exact lv_tableIn (tgt := 46) C.1 C.2.1 dX2_spelling_1 (by decide) (by decide) (off := 45) (by decide) rfl (k2 rfl p l0 e s m args below meth c A cells slots Q H locs ls C hc hA hX hf hP hS hL)
  by_cases h3 : x = 3
  · subst h3
    intro p l0 e s m args below meth c A cells slots Q H locs ls C hc hA hX hf hP hS hL
    exact lv_tableIn (tgt := 49) C.1 C.2.1 dX2_spelling_1 (by decide) (by decide) (off := 48) (by decide) rfl (k3 rfl p l0 e s m args below meth c A cells slots Q H locs ls C hc hA hX hf hP hS hL)
  by_cases h4 : x = 4
  · subst h4
    intro p l0 e s m args below meth c A cells slots Q H locs ls C hc hA hX hf hP hS hL
    exact lv_tableIn (tgt := 52) C.1 C.2.1 dX2_spelling_1 (by decide) (by decide) (off := 51) (by decide) rfl (k4 rfl p l0 e s m args below meth c A cells slots Q H locs ls C hc hA hX hf hP hS hL)
  by_cases h5 : x = 5
  · subst h5
    intro p l0 e s m args below meth c A cells slots Q H locs ls C hc hA hX hf hP hS hL
    exact lv_tableIn (tgt := 55) C.1 C.2.1 dX2_spelling_1 (by decide) (by decide) (off := 54) (by decide) rfl (k5 rfl p l0 e s m args below meth c A cells slots Q H locs ls C hc hA hX hf hP hS hL)
  intro p l0 e s m args below meth c A cells slots Q H locs ls C hc hA hX hf hP hS hL
  have hout : x.toInt < 0 ∨ 5 < x.toInt := by
    have g0 : x.toInt ≠ 0 := fun h => h0 (Int32.toInt_inj.mp (by rw [h]; decide))
    have g1 : x.toInt ≠ 1 := fun h => h1 (Int32.toInt_inj.mp (by rw [h]; decide))
    have g2 : x.toInt ≠ 2 := fun h => h2 (Int32.toInt_inj.mp (by rw [h]; decide))
    have g3 : x.toInt ≠ 3 := fun h => h3 (Int32.toInt_inj.mp (by rw [h]; decide))
    have g4 : x.toInt ≠ 4 := fun h => h4 (Int32.toInt_inj.mp (by rw [h]; decide))
    have g5 : x.toInt ≠ 5 := fun h => h5 (Int32.toInt_inj.mp (by rw [h]; decide))
    omega
  exact lv_tableOut (tgt := 58) C.1 C.2.1 dX2_spelling_1 hout rfl (kd h0 h1 h2 h3 h4 h5 p l0 e s m args below meth c A cells slots Q H locs ls C hc hA hX hf hP hS hL)
theorem sw_X3_hintsOf_1 {E : xE} {R : Room} {F : Option Value → xS → Prop} {l : xL} {st : List Value} {σ : xS} {x : Int32} (k1 : x = 1 → Ev E R RX3 cX3_hintsOf 2 F 28 l st σ) (k2 : x = 2 → Ev E R RX3 cX3_hintsOf 2 F 33 l st σ) (kd : ¬ x = 1 → ¬ x = 2 → Ev E R RX3 cX3_hintsOf 2 F 38 l st σ) : Ev E R RX3 cX3_hintsOf 2 F 1 l (.int x :: st) σ := by
  by_cases h1 : x = 1
  · subst h1
    intro p l0 e s m args below meth c A cells slots Q H locs ls C hc hA hX hf hP hS hL
    exact lv_lookup (tgt := 28) C.1 C.2.1 dX3_hintsOf_1 (by decide) (off := 27) (by decide) rfl (k1 rfl p l0 e s m args below meth c A cells slots Q H locs ls C hc hA hX hf hP hS hL)
  by_cases h2 : x = 2
  · subst h2
    intro p l0 e s m args below meth c A cells slots Q H locs ls C hc hA hX hf hP hS hL
    exact lv_lookup (tgt := 33) C.1 C.2.1 dX3_hintsOf_1 (by decide) (off := 32) (by decide) rfl (k2 rfl p l0 e s m args below meth c A cells slots Q H locs ls C hc hA hX hf hP hS hL)
  intro p l0 e s m args below meth c A cells slots Q H locs ls C hc hA hX hf hP hS hL
  have hoff : Op.lookupswitch.offset ([(1, 27), (2, 32)] : List (Int × Int)) 37 x.toInt = 37 := by
    have g1 : x.toInt ≠ 1 := fun h => h1 (Int32.toInt_inj.mp (by rw [h]; decide))
    have g2 : x.toInt ≠ 2 := fun h => h2 (Int32.toInt_inj.mp (by rw [h]; decide))
    simp [Op.lookupswitch.offset, List.find?, g1, Ne.symm g1, g2, Ne.symm g2]
  exact lv_lookup (tgt := 38) C.1 C.2.1 dX3_hintsOf_1 (by decide) hoff rfl (kd h1 h2 p l0 e s m args below meth c A cells slots Q H locs ls C hc hA hX hf hP hS hL)
theorem sw_X5_goodOf_23 {E : xE} {R : Room} {F : Option Value → xS → Prop} {l : xL} {st : List Value} {σ : xS} {x : Int32} (k1 : x = 1 → Ev E R RX5 cX5_goodOf 5 F 56 l st σ) (k2 : x = 2 → Ev E R RX5 cX5_goodOf 5 F 58 l st σ) (k3 : x = 3 → Ev E R RX5 cX5_goodOf 5 F 61 l st σ) (k4 : x = 4 → Ev E R RX5 cX5_goodOf 5 F 68 l st σ) (k5 : x = 5 → Ev E R RX5 cX5_goodOf 5 F 82 l st σ) (kd : ¬ x = 1 → ¬ x = 2 → ¬ x = 3 → ¬ x = 4 → ¬ x = 5 → Ev E R RX5 cX5_goodOf 5 F 91 l st σ) : Ev E R RX5 cX5_goodOf 5 F 23 l (.int x :: st) σ := by
  by_cases h1 : x = 1
  · subst h1
    intro p l0 e s m args below meth c A cells slots Q H locs ls C hc hA hX hf hP hS hL
    exact lv_tableIn (tgt := 56) C.1 C.2.1 dX5_goodOf_23 (by decide) (by decide) (off := 33) (by decide) rfl (k1 rfl p l0 e s m args below meth c A cells slots Q H locs ls C hc hA hX hf hP hS hL)
  by_cases h2 : x = 2
  · subst h2
    intro p l0 e s m args below meth c A cells slots Q H locs ls C hc hA hX hf hP hS hL
    exact lv_tableIn (tgt := 58) C.1 C.2.1 dX5_goodOf_23 (by decide) (by decide) (off := 35) (by decide) rfl (k2 rfl p l0 e s m args below meth c A cells slots Q H locs ls C hc hA hX hf hP hS hL)
  by_cases h3 : x = 3
  · subst h3
    intro p l0 e s m args below meth c A cells slots Q H locs ls C hc hA hX hf hP hS hL
    exact lv_tableIn (tgt := 61) C.1 C.2.1 dX5_goodOf_23 (by decide) (by decide) (off := 38) (by decide) rfl (k3 rfl p l0 e s m args below meth c A cells slots Q H locs ls C hc hA hX hf hP hS hL)
  by_cases h4 : x = 4
  · subst h4
    intro p l0 e s m args below meth c A cells slots Q H locs ls C hc hA hX hf hP hS hL
    exact lv_tableIn (tgt := 68) C.1 C.2.1 dX5_goodOf_23 (by decide) (by decide) (off := 45) (by decide) rfl (k4 rfl p l0 e s m args below meth c A cells slots Q H locs ls C hc hA hX hf hP hS hL)
  by_cases h5 : x = 5
  · subst h5
    intro p l0 e s m args below meth c A cells slots Q H locs ls C hc hA hX hf hP hS hL
    exact lv_tableIn (tgt := 82) C.1 C.2.1 dX5_goodOf_23 (by decide) (by decide) (off := 59) (by decide) rfl (k5 rfl p l0 e s m args below meth c A cells slots Q H locs ls C hc hA hX hf hP hS hL)
  intro p l0 e s m args below meth c A cells slots Q H locs ls C hc hA hX hf hP hS hL
  have hout : x.toInt < 1 ∨ 5 < x.toInt := by
    have g1 : x.toInt ≠ 1 := fun h => h1 (Int32.toInt_inj.mp (by rw [h]; decide))
    have g2 : x.toInt ≠ 2 := fun h => h2 (Int32.toInt_inj.mp (by rw [h]; decide))
    have g3 : x.toInt ≠ 3 := fun h => h3 (Int32.toInt_inj.mp (by rw [h]; decide))
    have g4 : x.toInt ≠ 4 := fun h => h4 (Int32.toInt_inj.mp (by rw [h]; decide))
    have g5 : x.toInt ≠ 5 := fun h => h5 (Int32.toInt_inj.mp (by rw [h]; decide))
    omega
  exact lv_tableOut (tgt := 91) C.1 C.2.1 dX5_goodOf_23 hout rfl (kd h1 h2 h3 h4 h5 p l0 e s m args below meth c A cells slots Q H locs ls C hc hA hX hf hP hS hL)
theorem sw_X5_joyOf_36 {E : xE} {R : Room} {F : Option Value → xS → Prop} {l : xL} {st : List Value} {σ : xS} {x : Int32} (k1 : x = 1 → Ev E R RX5 cX5_joyOf 6 F 72 l st σ) (k2 : x = 2 → Ev E R RX5 cX5_joyOf 6 F 75 l st σ) (k3 : x = 3 → Ev E R RX5 cX5_joyOf 6 F 78 l st σ) (k4 : x = 4 → Ev E R RX5 cX5_joyOf 6 F 85 l st σ) (k5 : x = 5 → Ev E R RX5 cX5_joyOf 6 F 96 l st σ) (kd : ¬ x = 1 → ¬ x = 2 → ¬ x = 3 → ¬ x = 4 → ¬ x = 5 → Ev E R RX5 cX5_joyOf 6 F 101 l st σ) : Ev E R RX5 cX5_joyOf 6 F 36 l (.int x :: st) σ := by
  by_cases h1 : x = 1
  · subst h1
    intro p l0 e s m args below meth c A cells slots Q H locs ls C hc hA hX hf hP hS hL
    exact lv_tableIn (tgt := 72) C.1 C.2.1 dX5_joyOf_36 (by decide) (by decide) (off := 36) (by decide) rfl (k1 rfl p l0 e s m args below meth c A cells slots Q H locs ls C hc hA hX hf hP hS hL)
  by_cases h2 : x = 2
  · subst h2
    intro p l0 e s m args below meth c A cells slots Q H locs ls C hc hA hX hf hP hS hL
    exact lv_tableIn (tgt := 75) C.1 C.2.1 dX5_joyOf_36 (by decide) (by decide) (off := 39) (by decide) rfl (k2 rfl p l0 e s m args below meth c A cells slots Q H locs ls C hc hA hX hf hP hS hL)
  by_cases h3 : x = 3
  · subst h3
    intro p l0 e s m args below meth c A cells slots Q H locs ls C hc hA hX hf hP hS hL
    exact lv_tableIn (tgt := 78) C.1 C.2.1 dX5_joyOf_36 (by decide) (by decide) (off := 42) (by decide) rfl (k3 rfl p l0 e s m args below meth c A cells slots Q H locs ls C hc hA hX hf hP hS hL)
  by_cases h4 : x = 4
  · subst h4
    intro p l0 e s m args below meth c A cells slots Q H locs ls C hc hA hX hf hP hS hL
    exact lv_tableIn (tgt := 85) C.1 C.2.1 dX5_joyOf_36 (by decide) (by decide) (off := 49) (by decide) rfl (k4 rfl p l0 e s m args below meth c A cells slots Q H locs ls C hc hA hX hf hP hS hL)
  by_cases h5 : x = 5
  · subst h5
    intro p l0 e s m args below meth c A cells slots Q H locs ls C hc hA hX hf hP hS hL
    exact lv_tableIn (tgt := 96) C.1 C.2.1 dX5_joyOf_36 (by decide) (by decide) (off := 60) (by decide) rfl (k5 rfl p l0 e s m args below meth c A cells slots Q H locs ls C hc hA hX hf hP hS hL)
  intro p l0 e s m args below meth c A cells slots Q H locs ls C hc hA hX hf hP hS hL
  have hout : x.toInt < 1 ∨ 5 < x.toInt := by
    have g1 : x.toInt ≠ 1 := fun h => h1 (Int32.toInt_inj.mp (by rw [h]; decide))
    have g2 : x.toInt ≠ 2 := fun h => h2 (Int32.toInt_inj.mp (by rw [h]; decide))
    have g3 : x.toInt ≠ 3 := fun h => h3 (Int32.toInt_inj.mp (by rw [h]; decide))
    have g4 : x.toInt ≠ 4 := fun h => h4 (Int32.toInt_inj.mp (by rw [h]; decide))
    have g5 : x.toInt ≠ 5 := fun h => h5 (Int32.toInt_inj.mp (by rw [h]; decide))
    omega
  exact lv_tableOut (tgt := 101) C.1 C.2.1 dX5_joyOf_36 hout rfl (kd h1 h2 h3 h4 h5 p l0 e s m args below meth c A cells slots Q H locs ls C hc hA hX hf hP hS hL)
theorem sw_X5_of_22 {E : xE} {R : Room} {F : Option Value → xS → Prop} {l : xL} {st : List Value} {σ : xS} {x : Int32} (k0 : x = 0 → Ev E R RX5 cX5_of 4 F 60 l st σ) (k1 : x = 1 → Ev E R RX5 cX5_of 4 F 69 l st σ) (k2 : x = 2 → Ev E R RX5 cX5_of 4 F 78 l st σ) (k3 : x = 3 → Ev E R RX5 cX5_of 4 F 87 l st σ) (k4 : x = 4 → Ev E R RX5 cX5_of 4 F 96 l st σ) (k5 : x = 5 → Ev E R RX5 cX5_of 4 F 103 l st σ) (kd : ¬ x = 0 → ¬ x = 1 → ¬ x = 2 → ¬ x = 3 → ¬ x = 4 → ¬ x = 5 → Ev E R RX5 cX5_of 4 F 109 l st σ) : Ev E R RX5 cX5_of 4 F 22 l (.int x :: st) σ := by
  by_cases h0 : x = 0
  · subst h0
    intro p l0 e s m args below meth c A cells slots Q H locs ls C hc hA hX hf hP hS hL
    exact lv_tableIn (tgt := 60) C.1 C.2.1 dX5_of_22 (by decide) (by decide) (off := 38) (by decide) rfl (k0 rfl p l0 e s m args below meth c A cells slots Q H locs ls C hc hA hX hf hP hS hL)
  by_cases h1 : x = 1
  · subst h1
    intro p l0 e s m args below meth c A cells slots Q H locs ls C hc hA hX hf hP hS hL
    exact lv_tableIn (tgt := 69) C.1 C.2.1 dX5_of_22 (by decide) (by decide) (off := 47) (by decide) rfl (k1 rfl p l0 e s m args below meth c A cells slots Q H locs ls C hc hA hX hf hP hS hL)
  by_cases h2 : x = 2
  · subst h2
    intro p l0 e s m args below meth c A cells slots Q H locs ls C hc hA hX hf hP hS hL
    exact lv_tableIn (tgt := 78) C.1 C.2.1 dX5_of_22 (by decide) (by decide) (off := 56) (by decide) rfl (k2 rfl p l0 e s m args below meth c A cells slots Q H locs ls C hc hA hX hf hP hS hL)
  by_cases h3 : x = 3
  · subst h3
    intro p l0 e s m args below meth c A cells slots Q H locs ls C hc hA hX hf hP hS hL
    exact lv_tableIn (tgt := 87) C.1 C.2.1 dX5_of_22 (by decide) (by decide) (off := 65) (by decide) rfl (k3 rfl p l0 e s m args below meth c A cells slots Q H locs ls C hc hA hX hf hP hS hL)
  by_cases h4 : x = 4
  · subst h4
    intro p l0 e s m args below meth c A cells slots Q H locs ls C hc hA hX hf hP hS hL
    exact lv_tableIn (tgt := 96) C.1 C.2.1 dX5_of_22 (by decide) (by decide) (off := 74) (by decide) rfl (k4 rfl p l0 e s m args below meth c A cells slots Q H locs ls C hc hA hX hf hP hS hL)
  by_cases h5 : x = 5
  · subst h5
    intro p l0 e s m args below meth c A cells slots Q H locs ls C hc hA hX hf hP hS hL
    exact lv_tableIn (tgt := 103) C.1 C.2.1 dX5_of_22 (by decide) (by decide) (off := 81) (by decide) rfl (k5 rfl p l0 e s m args below meth c A cells slots Q H locs ls C hc hA hX hf hP hS hL)
  intro p l0 e s m args below meth c A cells slots Q H locs ls C hc hA hX hf hP hS hL
  have hout : x.toInt < 0 ∨ 5 < x.toInt := by
    have g0 : x.toInt ≠ 0 := fun h => h0 (Int32.toInt_inj.mp (by rw [h]; decide))
    have g1 : x.toInt ≠ 1 := fun h => h1 (Int32.toInt_inj.mp (by rw [h]; decide))
    have g2 : x.toInt ≠ 2 := fun h => h2 (Int32.toInt_inj.mp (by rw [h]; decide))
    have g3 : x.toInt ≠ 3 := fun h => h3 (Int32.toInt_inj.mp (by rw [h]; decide))
    have g4 : x.toInt ≠ 4 := fun h => h4 (Int32.toInt_inj.mp (by rw [h]; decide))
    have g5 : x.toInt ≠ 5 := fun h => h5 (Int32.toInt_inj.mp (by rw [h]; decide))
    omega
  exact lv_tableOut (tgt := 109) C.1 C.2.1 dX5_of_22 hout rfl (kd h0 h1 h2 h3 h4 h5 p l0 e s m args below meth c A cells slots Q H locs ls C hc hA hX hf hP hS hL)
theorem sw_X5_about_22 {E : xE} {R : Room} {F : Option Value → xS → Prop} {l : xL} {st : List Value} {σ : xS} {x : Int32} (k0 : x = 0 → Ev E R RX5 cX5_about 4 F 48 l st σ) (k1 : x = 1 → Ev E R RX5 cX5_about 4 F 57 l st σ) (k2 : x = 2 → Ev E R RX5 cX5_about 4 F 66 l st σ) (kd : ¬ x = 0 → ¬ x = 1 → ¬ x = 2 → Ev E R RX5 cX5_about 4 F 75 l st σ) : Ev E R RX5 cX5_about 4 F 22 l (.int x :: st) σ := by
  by_cases h0 : x = 0
  · subst h0
    intro p l0 e s m args below meth c A cells slots Q H locs ls C hc hA hX hf hP hS hL
    exact lv_tableIn (tgt := 48) C.1 C.2.1 dX5_about_22 (by decide) (by decide) (off := 26) (by decide) rfl (k0 rfl p l0 e s m args below meth c A cells slots Q H locs ls C hc hA hX hf hP hS hL)
  by_cases h1 : x = 1
  · subst h1
    intro p l0 e s m args below meth c A cells slots Q H locs ls C hc hA hX hf hP hS hL
    exact lv_tableIn (tgt := 57) C.1 C.2.1 dX5_about_22 (by decide) (by decide) (off := 35) (by decide) rfl (k1 rfl p l0 e s m args below meth c A cells slots Q H locs ls C hc hA hX hf hP hS hL)
  by_cases h2 : x = 2
  · subst h2
    intro p l0 e s m args below meth c A cells slots Q H locs ls C hc hA hX hf hP hS hL
    exact lv_tableIn (tgt := 66) C.1 C.2.1 dX5_about_22 (by decide) (by decide) (off := 44) (by decide) rfl (k2 rfl p l0 e s m args below meth c A cells slots Q H locs ls C hc hA hX hf hP hS hL)
  intro p l0 e s m args below meth c A cells slots Q H locs ls C hc hA hX hf hP hS hL
  have hout : x.toInt < 0 ∨ 2 < x.toInt := by
    have g0 : x.toInt ≠ 0 := fun h => h0 (Int32.toInt_inj.mp (by rw [h]; decide))
    have g1 : x.toInt ≠ 1 := fun h => h1 (Int32.toInt_inj.mp (by rw [h]; decide))
    have g2 : x.toInt ≠ 2 := fun h => h2 (Int32.toInt_inj.mp (by rw [h]; decide))
    omega
  exact lv_tableOut (tgt := 75) C.1 C.2.1 dX5_about_22 hout rfl (kd h0 h1 h2 p l0 e s m args below meth c A cells slots Q H locs ls C hc hA hX hf hP hS hL)
theorem sw_X5_purse_22 {E : xE} {R : Room} {F : Option Value → xS → Prop} {l : xL} {st : List Value} {σ : xS} {x : Int32} (k0 : x = 0 → Ev E R RX5 cX5_purse 4 F 48 l st σ) (k1 : x = 1 → Ev E R RX5 cX5_purse 4 F 57 l st σ) (kd : ¬ x = 0 → ¬ x = 1 → Ev E R RX5 cX5_purse 4 F 65 l st σ) : Ev E R RX5 cX5_purse 4 F 22 l (.int x :: st) σ := by
  by_cases h0 : x = 0
  · subst h0
    intro p l0 e s m args below meth c A cells slots Q H locs ls C hc hA hX hf hP hS hL
    exact lv_lookup (tgt := 48) C.1 C.2.1 dX5_purse_22 (by decide) (off := 26) (by decide) rfl (k0 rfl p l0 e s m args below meth c A cells slots Q H locs ls C hc hA hX hf hP hS hL)
  by_cases h1 : x = 1
  · subst h1
    intro p l0 e s m args below meth c A cells slots Q H locs ls C hc hA hX hf hP hS hL
    exact lv_lookup (tgt := 57) C.1 C.2.1 dX5_purse_22 (by decide) (off := 35) (by decide) rfl (k1 rfl p l0 e s m args below meth c A cells slots Q H locs ls C hc hA hX hf hP hS hL)
  intro p l0 e s m args below meth c A cells slots Q H locs ls C hc hA hX hf hP hS hL
  have hoff : Op.lookupswitch.offset ([(0, 26), (1, 35)] : List (Int × Int)) 43 x.toInt = 43 := by
    have g0 : x.toInt ≠ 0 := fun h => h0 (Int32.toInt_inj.mp (by rw [h]; decide))
    have g1 : x.toInt ≠ 1 := fun h => h1 (Int32.toInt_inj.mp (by rw [h]; decide))
    simp [Op.lookupswitch.offset, List.find?, g0, Ne.symm g0, g1, Ne.symm g1]
  exact lv_lookup (tgt := 65) C.1 C.2.1 dX5_purse_22 (by decide) hoff rfl (kd h0 h1 p l0 e s m args below meth c A cells slots Q H locs ls C hc hA hX hf hP hS hL)
theorem sw_X5_answerOf_1 {E : xE} {R : Room} {F : Option Value → xS → Prop} {l : xL} {st : List Value} {σ : xS} {x : Int32} (k1 : x = 1 → Ev E R RX5 cX5_answerOf 5 F 28 l st σ) (k2 : x = 2 → Ev E R RX5 cX5_answerOf 5 F 36 l st σ) (kd : ¬ x = 1 → ¬ x = 2 → Ev E R RX5 cX5_answerOf 5 F 44 l st σ) : Ev E R RX5 cX5_answerOf 5 F 1 l (.int x :: st) σ := by
  by_cases h1 : x = 1
  · subst h1
    intro p l0 e s m args below meth c A cells slots Q H locs ls C hc hA hX hf hP hS hL
    exact lv_lookup (tgt := 28) C.1 C.2.1 dX5_answerOf_1 (by decide) (off := 27) (by decide) rfl (k1 rfl p l0 e s m args below meth c A cells slots Q H locs ls C hc hA hX hf hP hS hL)
  by_cases h2 : x = 2
  · subst h2
    intro p l0 e s m args below meth c A cells slots Q H locs ls C hc hA hX hf hP hS hL
    exact lv_lookup (tgt := 36) C.1 C.2.1 dX5_answerOf_1 (by decide) (off := 35) (by decide) rfl (k2 rfl p l0 e s m args below meth c A cells slots Q H locs ls C hc hA hX hf hP hS hL)
  intro p l0 e s m args below meth c A cells slots Q H locs ls C hc hA hX hf hP hS hL
  have hoff : Op.lookupswitch.offset ([(1, 27), (2, 35)] : List (Int × Int)) 43 x.toInt = 43 := by
    have g1 : x.toInt ≠ 1 := fun h => h1 (Int32.toInt_inj.mp (by rw [h]; decide))
    have g2 : x.toInt ≠ 2 := fun h => h2 (Int32.toInt_inj.mp (by rw [h]; decide))
    simp [Op.lookupswitch.offset, List.find?, g1, Ne.symm g1, g2, Ne.symm g2]
  exact lv_lookup (tgt := 44) C.1 C.2.1 dX5_answerOf_1 (by decide) hoff rfl (kd h1 h2 p l0 e s m args below meth c A cells slots Q H locs ls C hc hA hX hf hP hS hL)
theorem sw_X5_part_1 {E : xE} {R : Room} {F : Option Value → xS → Prop} {l : xL} {st : List Value} {σ : xS} {x : Int32} (k0 : x = 0 → Ev E R RX5 cX5_part 2 F 28 l st σ) (k1 : x = 1 → Ev E R RX5 cX5_part 2 F 33 l st σ) (kd : ¬ x = 0 → ¬ x = 1 → Ev E R RX5 cX5_part 2 F 38 l st σ) : Ev E R RX5 cX5_part 2 F 1 l (.int x :: st) σ := by
  by_cases h0 : x = 0
  · subst h0
    intro p l0 e s m args below meth c A cells slots Q H locs ls C hc hA hX hf hP hS hL
    exact lv_lookup (tgt := 28) C.1 C.2.1 dX5_part_1 (by decide) (off := 27) (by decide) rfl (k0 rfl p l0 e s m args below meth c A cells slots Q H locs ls C hc hA hX hf hP hS hL)
  by_cases h1 : x = 1
  · subst h1
    intro p l0 e s m args below meth c A cells slots Q H locs ls C hc hA hX hf hP hS hL
    exact lv_lookup (tgt := 33) C.1 C.2.1 dX5_part_1 (by decide) (off := 32) (by decide) rfl (k1 rfl p l0 e s m args below meth c A cells slots Q H locs ls C hc hA hX hf hP hS hL)
  intro p l0 e s m args below meth c A cells slots Q H locs ls C hc hA hX hf hP hS hL
  have hoff : Op.lookupswitch.offset ([(0, 27), (1, 32)] : List (Int × Int)) 37 x.toInt = 37 := by
    have g0 : x.toInt ≠ 0 := fun h => h0 (Int32.toInt_inj.mp (by rw [h]; decide))
    have g1 : x.toInt ≠ 1 := fun h => h1 (Int32.toInt_inj.mp (by rw [h]; decide))
    simp [Op.lookupswitch.offset, List.find?, g0, Ne.symm g0, g1, Ne.symm g1]
  exact lv_lookup (tgt := 38) C.1 C.2.1 dX5_part_1 (by decide) hoff rfl (kd h0 h1 p l0 e s m args below meth c A cells slots Q H locs ls C hc hA hX hf hP hS hL)
theorem sw_X5_status_1 {E : xE} {R : Room} {F : Option Value → xS → Prop} {l : xL} {st : List Value} {σ : xS} {x : Int32} (k0 : x = 0 → Ev E R RX5 cX5_status 2 F 28 l st σ) (k1 : x = 1 → Ev E R RX5 cX5_status 2 F 33 l st σ) (k2 : x = 2 → Ev E R RX5 cX5_status 2 F 38 l st σ) (kd : ¬ x = 0 → ¬ x = 1 → ¬ x = 2 → Ev E R RX5 cX5_status 2 F 43 l st σ) : Ev E R RX5 cX5_status 2 F 1 l (.int x :: st) σ := by
  by_cases h0 : x = 0
  · subst h0
    intro p l0 e s m args below meth c A cells slots Q H locs ls C hc hA hX hf hP hS hL
    exact lv_tableIn (tgt := 28) C.1 C.2.1 dX5_status_1 (by decide) (by decide) (off := 27) (by decide) rfl (k0 rfl p l0 e s m args below meth c A cells slots Q H locs ls C hc hA hX hf hP hS hL)
  by_cases h1 : x = 1
  · subst h1
    intro p l0 e s m args below meth c A cells slots Q H locs ls C hc hA hX hf hP hS hL
    exact lv_tableIn (tgt := 33) C.1 C.2.1 dX5_status_1 (by decide) (by decide) (off := 32) (by decide) rfl (k1 rfl p l0 e s m args below meth c A cells slots Q H locs ls C hc hA hX hf hP hS hL)
  by_cases h2 : x = 2
  · subst h2
    intro p l0 e s m args below meth c A cells slots Q H locs ls C hc hA hX hf hP hS hL
    exact lv_tableIn (tgt := 38) C.1 C.2.1 dX5_status_1 (by decide) (by decide) (off := 37) (by decide) rfl (k2 rfl p l0 e s m args below meth c A cells slots Q H locs ls C hc hA hX hf hP hS hL)
  intro p l0 e s m args below meth c A cells slots Q H locs ls C hc hA hX hf hP hS hL
  have hout : x.toInt < 0 ∨ 2 < x.toInt := by
    have g0 : x.toInt ≠ 0 := fun h => h0 (Int32.toInt_inj.mp (by rw [h]; decide))
    have g1 : x.toInt ≠ 1 := fun h => h1 (Int32.toInt_inj.mp (by rw [h]; decide))
    have g2 : x.toInt ≠ 2 := fun h => h2 (Int32.toInt_inj.mp (by rw [h]; decide))
    omega
  exact lv_tableOut (tgt := 43) C.1 C.2.1 dX5_status_1 hout rfl (kd h0 h1 h2 p l0 e s m args below meth c A cells slots Q H locs ls C hc hA hX hf hP hS hL)
theorem sw_X5_countOf_1 {E : xE} {R : Room} {F : Option Value → xS → Prop} {l : xL} {st : List Value} {σ : xS} {x : Int32} (k0 : x = 0 → Ev E R RX5 cX5_countOf 2 F 60 l st σ) (k1 : x = 1 → Ev E R RX5 cX5_countOf 2 F 71 l st σ) (k2 : x = 2 → Ev E R RX5 cX5_countOf 2 F 82 l st σ) (k3 : x = 3 → Ev E R RX5 cX5_countOf 2 F 93 l st σ) (k4 : x = 4 → Ev E R RX5 cX5_countOf 2 F 104 l st σ) (k5 : x = 5 → Ev E R RX5 cX5_countOf 2 F 119 l st σ) (k6 : x = 6 → Ev E R RX5 cX5_countOf 2 F 130 l st σ) (k7 : x = 7 → Ev E R RX5 cX5_countOf 2 F 141 l st σ) (k8 : x = 8 → Ev E R RX5 cX5_countOf 2 F 152 l st σ) (k9 : x = 9 → Ev E R RX5 cX5_countOf 2 F 163 l st σ) (k10 : x = 10 → Ev E R RX5 cX5_countOf 2 F 174 l st σ) (kd : ¬ x = 0 → ¬ x = 1 → ¬ x = 2 → ¬ x = 3 → ¬ x = 4 → ¬ x = 5 → ¬ x = 6 → ¬ x = 7 → ¬ x = 8 → ¬ x = 9 → ¬ x = 10 → Ev E R RX5 cX5_countOf 2 F 185 l st σ) : Ev E R RX5 cX5_countOf 2 F 1 l (.int x :: st) σ := by
  by_cases h0 : x = 0
  · subst h0
    intro p l0 e s m args below meth c A cells slots Q H locs ls C hc hA hX hf hP hS hL
    exact lv_tableIn (tgt := 60) C.1 C.2.1 dX5_countOf_1 (by decide) (by decide) (off := 59) (by decide) rfl (k0 rfl p l0 e s m args below meth c A cells slots Q H locs ls C hc hA hX hf hP hS hL)
  by_cases h1 : x = 1
  · subst h1
    intro p l0 e s m args below meth c A cells slots Q H locs ls C hc hA hX hf hP hS hL
    exact lv_tableIn (tgt := 71) C.1 C.2.1 dX5_countOf_1 (by decide) (by decide) (off := 70) (by decide) rfl (k1 rfl p l0 e s m args below meth c A cells slots Q H locs ls C hc hA hX hf hP hS hL)
  by_cases h2 : x = 2
  · subst h2
    intro p l0 e s m args below meth c A cells slots Q H locs ls C hc hA hX hf hP hS hL
    exact lv_tableIn (tgt := 82) C.1 C.2.1 dX5_countOf_1 (by decide) (by decide) (off := 81) (by decide) rfl (k2 rfl p l0 e s m args below meth c A cells slots Q H locs ls C hc hA hX hf hP hS hL)
  by_cases h3 : x = 3
  · subst h3
    intro p l0 e s m args below meth c A cells slots Q H locs ls C hc hA hX hf hP hS hL
    exact lv_tableIn (tgt := 93) C.1 C.2.1 dX5_countOf_1 (by decide) (by decide) (off := 92) (by decide) rfl (k3 rfl p l0 e s m args below meth c A cells slots Q H locs ls C hc hA hX hf hP hS hL)
  by_cases h4 : x = 4
  · subst h4
    intro p l0 e s m args below meth c A cells slots Q H locs ls C hc hA hX hf hP hS hL
    exact lv_tableIn (tgt := 104) C.1 C.2.1 dX5_countOf_1 (by decide) (by decide) (off := 103) (by decide) rfl (k4 rfl p l0 e s m args below meth c A cells slots Q H locs ls C hc hA hX hf hP hS hL)
  by_cases h5 : x = 5
  · subst h5
    intro p l0 e s m args below meth c A cells slots Q H locs ls C hc hA hX hf hP hS hL
    exact lv_tableIn (tgt := 119) C.1 C.2.1 dX5_countOf_1 (by decide) (by decide) (off := 118) (by decide) rfl (k5 rfl p l0 e s m args below meth c A cells slots Q H locs ls C hc hA hX hf hP hS hL)
  by_cases h6 : x = 6
  · subst h6
    intro p l0 e s m args below meth c A cells slots Q H locs ls C hc hA hX hf hP hS hL
    exact lv_tableIn (tgt := 130) C.1 C.2.1 dX5_countOf_1 (by decide) (by decide) (off := 129) (by decide) rfl (k6 rfl p l0 e s m args below meth c A cells slots Q H locs ls C hc hA hX hf hP hS hL)
  by_cases h7 : x = 7
  · subst h7
    intro p l0 e s m args below meth c A cells slots Q H locs ls C hc hA hX hf hP hS hL
    exact lv_tableIn (tgt := 141) C.1 C.2.1 dX5_countOf_1 (by decide) (by decide) (off := 140) (by decide) rfl (k7 rfl p l0 e s m args below meth c A cells slots Q H locs ls C hc hA hX hf hP hS hL)
  by_cases h8 : x = 8
  · subst h8
    intro p l0 e s m args below meth c A cells slots Q H locs ls C hc hA hX hf hP hS hL
    exact lv_tableIn (tgt := 152) C.1 C.2.1 dX5_countOf_1 (by decide) (by decide) (off := 151) (by decide) rfl (k8 rfl p l0 e s m args below meth c A cells slots Q H locs ls C hc hA hX hf hP hS hL)
  by_cases h9 : x = 9
  · subst h9
    intro p l0 e s m args below meth c A cells slots Q H locs ls C hc hA hX hf hP hS hL
    exact lv_tableIn (tgt := 163) C.1 C.2.1 dX5_countOf_1 (by decide) (by decide) (off := 162) (by decide) rfl (k9 rfl p l0 e s m args below meth c A cells slots Q H locs ls C hc hA hX hf hP hS hL)
  by_cases h10 : x = 10
  · subst h10
    intro p l0 e s m args below meth c A cells slots Q H locs ls C hc hA hX hf hP hS hL
    exact lv_tableIn (tgt := 174) C.1 C.2.1 dX5_countOf_1 (by decide) (by decide) (off := 173) (by decide) rfl (k10 rfl p l0 e s m args below meth c A cells slots Q H locs ls C hc hA hX hf hP hS hL)
  intro p l0 e s m args below meth c A cells slots Q H locs ls C hc hA hX hf hP hS hL
  have hout : x.toInt < 0 ∨ 10 < x.toInt := by
    have g0 : x.toInt ≠ 0 := fun h => h0 (Int32.toInt_inj.mp (by rw [h]; decide))
    have g1 : x.toInt ≠ 1 := fun h => h1 (Int32.toInt_inj.mp (by rw [h]; decide))
    have g2 : x.toInt ≠ 2 := fun h => h2 (Int32.toInt_inj.mp (by rw [h]; decide))
    have g3 : x.toInt ≠ 3 := fun h => h3 (Int32.toInt_inj.mp (by rw [h]; decide))
    have g4 : x.toInt ≠ 4 := fun h => h4 (Int32.toInt_inj.mp (by rw [h]; decide))
    have g5 : x.toInt ≠ 5 := fun h => h5 (Int32.toInt_inj.mp (by rw [h]; decide))
    have g6 : x.toInt ≠ 6 := fun h => h6 (Int32.toInt_inj.mp (by rw [h]; decide))
    have g7 : x.toInt ≠ 7 := fun h => h7 (Int32.toInt_inj.mp (by rw [h]; decide))
    have g8 : x.toInt ≠ 8 := fun h => h8 (Int32.toInt_inj.mp (by rw [h]; decide))
    have g9 : x.toInt ≠ 9 := fun h => h9 (Int32.toInt_inj.mp (by rw [h]; decide))
    have g10 : x.toInt ≠ 10 := fun h => h10 (Int32.toInt_inj.mp (by rw [h]; decide))
    omega
  exact lv_tableOut (tgt := 185) C.1 C.2.1 dX5_countOf_1 hout rfl (kd h0 h1 h2 h3 h4 h5 h6 h7 h8 h9 h10 p l0 e s m args below meth c A cells slots Q H locs ls C hc hA hX hf hP hS hL)
theorem sw_X6_goodAs_38 {E : xE} {R : Room} {F : Option Value → xS → Prop} {l : xL} {st : List Value} {σ : xS} {x : Int32} (k1 : x = 1 → Ev E R RX6 cX6_goodAs 5 F 72 l st σ) (k2 : x = 2 → Ev E R RX6 cX6_goodAs 5 F 74 l st σ) (k3 : x = 3 → Ev E R RX6 cX6_goodAs 5 F 77 l st σ) (k4 : x = 4 → Ev E R RX6 cX6_goodAs 5 F 90 l st σ) (k5 : x = 5 → Ev E R RX6 cX6_goodAs 5 F 104 l st σ) (kd : ¬ x = 1 → ¬ x = 2 → ¬ x = 3 → ¬ x = 4 → ¬ x = 5 → Ev E R RX6 cX6_goodAs 5 F 121 l st σ) : Ev E R RX6 cX6_goodAs 5 F 38 l (.int x :: st) σ := by
  by_cases h1 : x = 1
  · subst h1
    intro p l0 e s m args below meth c A cells slots Q H locs ls C hc hA hX hf hP hS hL
    exact lv_tableIn (tgt := 72) C.1 C.2.1 dX6_goodAs_38 (by decide) (by decide) (off := 34) (by decide) rfl (k1 rfl p l0 e s m args below meth c A cells slots Q H locs ls C hc hA hX hf hP hS hL)
  by_cases h2 : x = 2
  · subst h2
    intro p l0 e s m args below meth c A cells slots Q H locs ls C hc hA hX hf hP hS hL
    exact lv_tableIn (tgt := 74) C.1 C.2.1 dX6_goodAs_38 (by decide) (by decide) (off := 36) (by decide) rfl (k2 rfl p l0 e s m args below meth c A cells slots Q H locs ls C hc hA hX hf hP hS hL)
  by_cases h3 : x = 3
  · subst h3
    intro p l0 e s m args below meth c A cells slots Q H locs ls C hc hA hX hf hP hS hL
    exact lv_tableIn (tgt := 77) C.1 C.2.1 dX6_goodAs_38 (by decide) (by decide) (off := 39) (by decide) rfl (k3 rfl p l0 e s m args below meth c A cells slots Q H locs ls C hc hA hX hf hP hS hL)
  by_cases h4 : x = 4
  · subst h4
    intro p l0 e s m args below meth c A cells slots Q H locs ls C hc hA hX hf hP hS hL
    exact lv_tableIn (tgt := 90) C.1 C.2.1 dX6_goodAs_38 (by decide) (by decide) (off := 52) (by decide) rfl (k4 rfl p l0 e s m args below meth c A cells slots Q H locs ls C hc hA hX hf hP hS hL)
  by_cases h5 : x = 5
  · subst h5
    intro p l0 e s m args below meth c A cells slots Q H locs ls C hc hA hX hf hP hS hL
    exact lv_tableIn (tgt := 104) C.1 C.2.1 dX6_goodAs_38 (by decide) (by decide) (off := 66) (by decide) rfl (k5 rfl p l0 e s m args below meth c A cells slots Q H locs ls C hc hA hX hf hP hS hL)
  intro p l0 e s m args below meth c A cells slots Q H locs ls C hc hA hX hf hP hS hL
  have hout : x.toInt < 1 ∨ 5 < x.toInt := by
    have g1 : x.toInt ≠ 1 := fun h => h1 (Int32.toInt_inj.mp (by rw [h]; decide))
    have g2 : x.toInt ≠ 2 := fun h => h2 (Int32.toInt_inj.mp (by rw [h]; decide))
    have g3 : x.toInt ≠ 3 := fun h => h3 (Int32.toInt_inj.mp (by rw [h]; decide))
    have g4 : x.toInt ≠ 4 := fun h => h4 (Int32.toInt_inj.mp (by rw [h]; decide))
    have g5 : x.toInt ≠ 5 := fun h => h5 (Int32.toInt_inj.mp (by rw [h]; decide))
    omega
  exact lv_tableOut (tgt := 121) C.1 C.2.1 dX6_goodAs_38 hout rfl (kd h1 h2 h3 h4 h5 p l0 e s m args below meth c A cells slots Q H locs ls C hc hA hX hf hP hS hL)
theorem sw_X6_joyAs_62 {E : xE} {R : Room} {F : Option Value → xS → Prop} {l : xL} {st : List Value} {σ : xS} {x : Int32} (k1 : x = 1 → Ev E R RX6 cX6_joyAs 7 F 96 l st σ) (k2 : x = 2 → Ev E R RX6 cX6_joyAs 7 F 99 l st σ) (k3 : x = 3 → Ev E R RX6 cX6_joyAs 7 F 102 l st σ) (k4 : x = 4 → Ev E R RX6 cX6_joyAs 7 F 109 l st σ) (k5 : x = 5 → Ev E R RX6 cX6_joyAs 7 F 121 l st σ) (kd : ¬ x = 1 → ¬ x = 2 → ¬ x = 3 → ¬ x = 4 → ¬ x = 5 → Ev E R RX6 cX6_joyAs 7 F 126 l st σ) : Ev E R RX6 cX6_joyAs 7 F 62 l (.int x :: st) σ := by
  by_cases h1 : x = 1
  · subst h1
    intro p l0 e s m args below meth c A cells slots Q H locs ls C hc hA hX hf hP hS hL
    exact lv_tableIn (tgt := 96) C.1 C.2.1 dX6_joyAs_62 (by decide) (by decide) (off := 34) (by decide) rfl (k1 rfl p l0 e s m args below meth c A cells slots Q H locs ls C hc hA hX hf hP hS hL)
  by_cases h2 : x = 2
  · subst h2
    intro p l0 e s m args below meth c A cells slots Q H locs ls C hc hA hX hf hP hS hL
    exact lv_tableIn (tgt := 99) C.1 C.2.1 dX6_joyAs_62 (by decide) (by decide) (off := 37) (by decide) rfl (k2 rfl p l0 e s m args below meth c A cells slots Q H locs ls C hc hA hX hf hP hS hL)
  by_cases h3 : x = 3
  · subst h3
    intro p l0 e s m args below meth c A cells slots Q H locs ls C hc hA hX hf hP hS hL
    exact lv_tableIn (tgt := 102) C.1 C.2.1 dX6_joyAs_62 (by decide) (by decide) (off := 40) (by decide) rfl (k3 rfl p l0 e s m args below meth c A cells slots Q H locs ls C hc hA hX hf hP hS hL)
  by_cases h4 : x = 4
  · subst h4
    intro p l0 e s m args below meth c A cells slots Q H locs ls C hc hA hX hf hP hS hL
    exact lv_tableIn (tgt := 109) C.1 C.2.1 dX6_joyAs_62 (by decide) (by decide) (off := 47) (by decide) rfl (k4 rfl p l0 e s m args below meth c A cells slots Q H locs ls C hc hA hX hf hP hS hL)
  by_cases h5 : x = 5
  · subst h5
    intro p l0 e s m args below meth c A cells slots Q H locs ls C hc hA hX hf hP hS hL
    exact lv_tableIn (tgt := 121) C.1 C.2.1 dX6_joyAs_62 (by decide) (by decide) (off := 59) (by decide) rfl (k5 rfl p l0 e s m args below meth c A cells slots Q H locs ls C hc hA hX hf hP hS hL)
  intro p l0 e s m args below meth c A cells slots Q H locs ls C hc hA hX hf hP hS hL
  have hout : x.toInt < 1 ∨ 5 < x.toInt := by
    have g1 : x.toInt ≠ 1 := fun h => h1 (Int32.toInt_inj.mp (by rw [h]; decide))
    have g2 : x.toInt ≠ 2 := fun h => h2 (Int32.toInt_inj.mp (by rw [h]; decide))
    have g3 : x.toInt ≠ 3 := fun h => h3 (Int32.toInt_inj.mp (by rw [h]; decide))
    have g4 : x.toInt ≠ 4 := fun h => h4 (Int32.toInt_inj.mp (by rw [h]; decide))
    have g5 : x.toInt ≠ 5 := fun h => h5 (Int32.toInt_inj.mp (by rw [h]; decide))
    omega
  exact lv_tableOut (tgt := 126) C.1 C.2.1 dX6_joyAs_62 hout rfl (kd h1 h2 h3 h4 h5 p l0 e s m args below meth c A cells slots Q H locs ls C hc hA hX hf hP hS hL)
theorem sw_X6_toldOf_1 {E : xE} {R : Room} {F : Option Value → xS → Prop} {l : xL} {st : List Value} {σ : xS} {x : Int32} (k0 : x = 0 → Ev E R RX6 cX6_toldOf 3 F 36 l st σ) (k1 : x = 1 → Ev E R RX6 cX6_toldOf 3 F 46 l st σ) (k2 : x = 2 → Ev E R RX6 cX6_toldOf 3 F 56 l st σ) (k3 : x = 3 → Ev E R RX6 cX6_toldOf 3 F 66 l st σ) (k4 : x = 4 → Ev E R RX6 cX6_toldOf 3 F 76 l st σ) (kd : ¬ x = 0 → ¬ x = 1 → ¬ x = 2 → ¬ x = 3 → ¬ x = 4 → Ev E R RX6 cX6_toldOf 3 F 85 l st σ) : Ev E R RX6 cX6_toldOf 3 F 1 l (.int x :: st) σ := by
  by_cases h0 : x = 0
  · subst h0
    intro p l0 e s m args below meth c A cells slots Q H locs ls C hc hA hX hf hP hS hL
    exact lv_tableIn (tgt := 36) C.1 C.2.1 dX6_toldOf_1 (by decide) (by decide) (off := 35) (by decide) rfl (k0 rfl p l0 e s m args below meth c A cells slots Q H locs ls C hc hA hX hf hP hS hL)
  by_cases h1 : x = 1
  · subst h1
    intro p l0 e s m args below meth c A cells slots Q H locs ls C hc hA hX hf hP hS hL
    exact lv_tableIn (tgt := 46) C.1 C.2.1 dX6_toldOf_1 (by decide) (by decide) (off := 45) (by decide) rfl (k1 rfl p l0 e s m args below meth c A cells slots Q H locs ls C hc hA hX hf hP hS hL)
  by_cases h2 : x = 2
  · subst h2
    intro p l0 e s m args below meth c A cells slots Q H locs ls C hc hA hX hf hP hS hL
    exact lv_tableIn (tgt := 56) C.1 C.2.1 dX6_toldOf_1 (by decide) (by decide) (off := 55) (by decide) rfl (k2 rfl p l0 e s m args below meth c A cells slots Q H locs ls C hc hA hX hf hP hS hL)
  by_cases h3 : x = 3
  · subst h3
    intro p l0 e s m args below meth c A cells slots Q H locs ls C hc hA hX hf hP hS hL
    exact lv_tableIn (tgt := 66) C.1 C.2.1 dX6_toldOf_1 (by decide) (by decide) (off := 65) (by decide) rfl (k3 rfl p l0 e s m args below meth c A cells slots Q H locs ls C hc hA hX hf hP hS hL)
  by_cases h4 : x = 4
  · subst h4
    intro p l0 e s m args below meth c A cells slots Q H locs ls C hc hA hX hf hP hS hL
    exact lv_tableIn (tgt := 76) C.1 C.2.1 dX6_toldOf_1 (by decide) (by decide) (off := 75) (by decide) rfl (k4 rfl p l0 e s m args below meth c A cells slots Q H locs ls C hc hA hX hf hP hS hL)
  intro p l0 e s m args below meth c A cells slots Q H locs ls C hc hA hX hf hP hS hL
  have hout : x.toInt < 0 ∨ 4 < x.toInt := by
    have g0 : x.toInt ≠ 0 := fun h => h0 (Int32.toInt_inj.mp (by rw [h]; decide))
    have g1 : x.toInt ≠ 1 := fun h => h1 (Int32.toInt_inj.mp (by rw [h]; decide))
    have g2 : x.toInt ≠ 2 := fun h => h2 (Int32.toInt_inj.mp (by rw [h]; decide))
    have g3 : x.toInt ≠ 3 := fun h => h3 (Int32.toInt_inj.mp (by rw [h]; decide))
    have g4 : x.toInt ≠ 4 := fun h => h4 (Int32.toInt_inj.mp (by rw [h]; decide))
    omega
  exact lv_tableOut (tgt := 85) C.1 C.2.1 dX6_toldOf_1 hout rfl (kd h0 h1 h2 h3 h4 p l0 e s m args below meth c A cells slots Q H locs ls C hc hA hX hf hP hS hL)
theorem sw_X6_counted_66 {E : xE} {R : Room} {F : Option Value → xS → Prop} {l : xL} {st : List Value} {σ : xS} {x : Int32} (k3 : x = 3 → Ev E R RX6 cX6_counted 5 F 116 l st σ) (k4 : x = 4 → Ev E R RX6 cX6_counted 5 F 124 l st σ) (k5 : x = 5 → Ev E R RX6 cX6_counted 5 F 126 l st σ) (k6 : x = 6 → Ev E R RX6 cX6_counted 5 F 128 l st σ) (k7 : x = 7 → Ev E R RX6 cX6_counted 5 F 141 l st σ) (k8 : x = 8 → Ev E R RX6 cX6_counted 5 F 141 l st σ) (k9 : x = 9 → Ev E R RX6 cX6_counted 5 F 141 l st σ) (k10 : x = 10 → Ev E R RX6 cX6_counted 5 F 141 l st σ) (k11 : x = 11 → Ev E R RX6 cX6_counted 5 F 136 l st σ) (kd : ¬ x = 3 → ¬ x = 4 → ¬ x = 5 → ¬ x = 6 → ¬ x = 7 → ¬ x = 8 → ¬ x = 9 → ¬ x = 10 → ¬ x = 11 → Ev E R RX6 cX6_counted 5 F 141 l st σ) : Ev E R RX6 cX6_counted 5 F 66 l (.int x :: st) σ := by
  by_cases h3 : x = 3
  · subst h3
    intro p l0 e s m args below meth c A cells slots Q H locs ls C hc hA hX hf hP hS hL
    exact lv_tableIn (tgt := 116) C.1 C.2.1 dX6_counted_66 (by decide) (by decide) (off := 50) (by decide) rfl (k3 rfl p l0 e s m args below meth c A cells slots Q H locs ls C hc hA hX hf hP hS hL)
  by_cases h4 : x = 4
  · subst h4
    intro p l0 e s m args below meth c A cells slots Q H locs ls C hc hA hX hf hP hS hL
    exact lv_tableIn (tgt := 124) C.1 C.2.1 dX6_counted_66 (by decide) (by decide) (off := 58) (by decide) rfl (k4 rfl p l0 e s m args below meth c A cells slots Q H locs ls C hc hA hX hf hP hS hL)
  by_cases h5 : x = 5
  · subst h5
    intro p l0 e s m args below meth c A cells slots Q H locs ls C hc hA hX hf hP hS hL
    exact lv_tableIn (tgt := 126) C.1 C.2.1 dX6_counted_66 (by decide) (by decide) (off := 60) (by decide) rfl (k5 rfl p l0 e s m args below meth c A cells slots Q H locs ls C hc hA hX hf hP hS hL)
  by_cases h6 : x = 6
  · subst h6
    intro p l0 e s m args below meth c A cells slots Q H locs ls C hc hA hX hf hP hS hL
    exact lv_tableIn (tgt := 128) C.1 C.2.1 dX6_counted_66 (by decide) (by decide) (off := 62) (by decide) rfl (k6 rfl p l0 e s m args below meth c A cells slots Q H locs ls C hc hA hX hf hP hS hL)
  by_cases h7 : x = 7
  · subst h7
    intro p l0 e s m args below meth c A cells slots Q H locs ls C hc hA hX hf hP hS hL
    exact lv_tableIn (tgt := 141) C.1 C.2.1 dX6_counted_66 (by decide) (by decide) (off := 75) (by decide) rfl (k7 rfl p l0 e s m args below meth c A cells slots Q H locs ls C hc hA hX hf hP hS hL)
  by_cases h8 : x = 8
  · subst h8
    intro p l0 e s m args below meth c A cells slots Q H locs ls C hc hA hX hf hP hS hL
    exact lv_tableIn (tgt := 141) C.1 C.2.1 dX6_counted_66 (by decide) (by decide) (off := 75) (by decide) rfl (k8 rfl p l0 e s m args below meth c A cells slots Q H locs ls C hc hA hX hf hP hS hL)
  by_cases h9 : x = 9
  · subst h9
    intro p l0 e s m args below meth c A cells slots Q H locs ls C hc hA hX hf hP hS hL
    exact lv_tableIn (tgt := 141) C.1 C.2.1 dX6_counted_66 (by decide) (by decide) (off := 75) (by decide) rfl (k9 rfl p l0 e s m args below meth c A cells slots Q H locs ls C hc hA hX hf hP hS hL)
  by_cases h10 : x = 10
  · subst h10
    intro p l0 e s m args below meth c A cells slots Q H locs ls C hc hA hX hf hP hS hL
    exact lv_tableIn (tgt := 141) C.1 C.2.1 dX6_counted_66 (by decide) (by decide) (off := 75) (by decide) rfl (k10 rfl p l0 e s m args below meth c A cells slots Q H locs ls C hc hA hX hf hP hS hL)
  by_cases h11 : x = 11
  · subst h11
    intro p l0 e s m args below meth c A cells slots Q H locs ls C hc hA hX hf hP hS hL
    exact lv_tableIn (tgt := 136) C.1 C.2.1 dX6_counted_66 (by decide) (by decide) (off := 70) (by decide) rfl (k11 rfl p l0 e s m args below meth c A cells slots Q H locs ls C hc hA hX hf hP hS hL)
  intro p l0 e s m args below meth c A cells slots Q H locs ls C hc hA hX hf hP hS hL
  have hout : x.toInt < 3 ∨ 11 < x.toInt := by
    have g3 : x.toInt ≠ 3 := fun h => h3 (Int32.toInt_inj.mp (by rw [h]; decide))
    have g4 : x.toInt ≠ 4 := fun h => h4 (Int32.toInt_inj.mp (by rw [h]; decide))
    have g5 : x.toInt ≠ 5 := fun h => h5 (Int32.toInt_inj.mp (by rw [h]; decide))
    have g6 : x.toInt ≠ 6 := fun h => h6 (Int32.toInt_inj.mp (by rw [h]; decide))
    have g7 : x.toInt ≠ 7 := fun h => h7 (Int32.toInt_inj.mp (by rw [h]; decide))
    have g8 : x.toInt ≠ 8 := fun h => h8 (Int32.toInt_inj.mp (by rw [h]; decide))
    have g9 : x.toInt ≠ 9 := fun h => h9 (Int32.toInt_inj.mp (by rw [h]; decide))
    have g10 : x.toInt ≠ 10 := fun h => h10 (Int32.toInt_inj.mp (by rw [h]; decide))
    have g11 : x.toInt ≠ 11 := fun h => h11 (Int32.toInt_inj.mp (by rw [h]; decide))
    omega
  exact lv_tableOut (tgt := 141) C.1 C.2.1 dX6_counted_66 hout rfl (kd h3 h4 h5 h6 h7 h8 h9 h10 h11 p l0 e s m args below meth c A cells slots Q H locs ls C hc hA hX hf hP hS hL)
