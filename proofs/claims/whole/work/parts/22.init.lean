/-! the constructors bring the relation about -/
theorem x_wi_eq {x a b : Int32} (h : a.toInt ≤ b.toInt) : x_wi x a b = if a ≤ x then (if x ≤ b then x else b) else a := by
  unfold x_wi
  simp only [Int32.lt_iff_toInt_lt, Int32.le_iff_toInt_le]
  apply Int32.toInt_inj.mp
  by_cases h1 : b.toInt < x.toInt
  · rw [if_pos h1, if_pos (show a.toInt ≤ x.toInt by omega), if_neg (show ¬ x.toInt ≤ b.toInt by omega)]
    by_cases h2 : a.toInt < b.toInt
    · rw [if_pos h2]
    · rw [if_neg h2]; omega
  · rw [if_neg h1]
    by_cases h2 : a.toInt < x.toInt
    · rw [if_pos h2, if_pos (show a.toInt ≤ x.toInt by omega), if_pos (show x.toInt ≤ b.toInt by omega)]
    · rw [if_neg h2]
      by_cases h3 : a.toInt ≤ x.toInt
      · rw [if_pos h3, if_pos (show x.toInt ≤ b.toInt by omega)]; omega
      · rw [if_neg h3]
theorem x_cl_bd {x a b : Int32} (h : a.toInt ≤ b.toInt) : x_bd (if a ≤ x then (if x ≤ b then x else b) else a) a.toInt b.toInt := by
  simp only [Int32.le_iff_toInt_le]
  unfold x_bd
  by_cases h1 : a.toInt ≤ x.toInt
  · rw [if_pos h1]
    by_cases h2 : x.toInt ≤ b.toInt
    · rw [if_pos h2]; omega
    · rw [if_neg h2]; omega
  · rw [if_neg h1]; omega
theorem R_init (E : x_E) : R 0 (x_h0 E) (x_h0 E) := by
  have z4 : ((4 : Int32)).toInt = 4 := by decide
  have z40 : ((40 : Int32)).toInt = 40 := by decide
  have z2 : ((2 : Int32)).toInt = 2 := by decide
  have z0 : ((0 : Int32)).toInt = 0 := by decide
  have z4000 : ((4000 : Int32)).toInt = 4000 := by decide
  have b1 := x_cl_bd (x := x_cell0 E 0) (a := 4) (b := 40) (by decide)
  have w1 := x_wi_eq (x := x_cell0 E 0) (a := 4) (b := 40) (by decide)
  have w3 := x_wi_eq (x := x_cell0 E 2) (a := 0) (b := 4000) (by decide)
  have b3 := x_cl_bd (x := x_cell0 E 2) (a := 0) (b := 4000) (by decide)
  have k0 : x_h0 E 46 0 = (if (4 : Int32) ≤ x_cell0 E 0 then (if x_cell0 E 0 ≤ (40 : Int32) then x_cell0 E 0 else (40 : Int32)) else (4 : Int32)) := rfl
  rw [← k0] at b1 w1
  have hle : ((2 : Int32)).toInt ≤ (x_h0 E 46 0).toInt := by
    have := b1.1
    omega
  have w2 := x_wi_eq (x := x_cell0 E 1) (a := 2) (b := x_h0 E 46 0) hle
  have b2 := x_cl_bd (x := x_cell0 E 1) (a := 2) (b := x_h0 E 46 0) hle
  have k1 : x_h0 E 46 1 = (if (2 : Int32) ≤ x_cell0 E 1 then (if x_cell0 E 1 ≤ x_h0 E 46 0 then x_cell0 E 1 else x_h0 E 46 0) else (2 : Int32)) := rfl
  have k2 : x_h0 E 46 2 = (if 0 ≤ x_cell0 E 2 then (if x_cell0 E 2 ≤ (4000 : Int32) then x_cell0 E 2 else (4000 : Int32)) else (0 : Int32)) := rfl
  rw [← k1] at b2 w2
  rw [← k2] at b3 w3
  have c0 : x_h0 E 42 0 = x_wi (x_cell0 E 0) 4 40 := rfl
  have c1 : x_h0 E 42 1 = x_wi (x_cell0 E 1) 2 (x_wi (x_cell0 E 0) 4 40) := rfl
  have c2 : x_h0 E 0 0 = x_wi (x_cell0 E 2) 0 4000 := rfl
  have zz : x_bd (0 : Int32) 0 0 := ⟨by decide, by decide⟩
  refine ⟨⟨c2.trans w3, c0.trans w1, by rw [c1, w1, w2], rfl, rfl, rfl, rfl, rfl, rfl, rfl, rfl, rfl, rfl, rfl, rfl, rfl, rfl, rfl, rfl, rfl, rfl, rfl, rfl⟩, fun h => absurd rfl h, ⟨b3, b1, ?_, ?_, ?_, ?_, ?_, ?_, Or.inl rfl, Or.inl rfl, Or.inl rfl⟩, ⟨?_, ?_, ?_, ?_, ?_⟩, ?_⟩
  · have := b1.2
    exact ⟨by have := b2.1; omega, by have := b2.2; omega⟩
  · exact ⟨by show _ ≤ ((0 : Int32)).toInt; omega, by show ((0 : Int32)).toInt ≤ _; omega⟩
  · exact ⟨by show _ ≤ ((0 : Int32)).toInt; omega, by show ((0 : Int32)).toInt ≤ _; omega⟩
  · exact ⟨by show _ ≤ ((0 : Int32)).toInt; omega, by show ((0 : Int32)).toInt ≤ _; omega⟩
  · exact ⟨by show _ ≤ ((0 : Int32)).toInt; omega, by show ((0 : Int32)).toInt ≤ _; omega⟩
  · exact ⟨by show _ ≤ ((0 : Int32)).toInt; omega, by show ((0 : Int32)).toInt ≤ _; omega⟩
  · exact ⟨0, by omega, rfl, fun i h => absurd h (by omega)⟩
  · exact ⟨0, by omega, rfl, fun i h => absurd h (by omega)⟩
  · exact ⟨0, by omega, rfl, fun i h => absurd h (by omega)⟩
  · exact ⟨0, by omega, rfl, ⟨id, id, fun i h => absurd h (by omega), fun i h => absurd h (by omega)⟩, fun i h => absurd h (by omega), fun i j h => absurd h (by omega)⟩
  · exact ⟨0, by omega, rfl, fun i h => absurd h (by omega)⟩
  · exact ⟨0, 0, by omega, by omega, rfl, rfl, rfl, fun i h => absurd h (by omega)⟩
