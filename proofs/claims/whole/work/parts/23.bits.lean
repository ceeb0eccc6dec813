/-! bits -/
theorem x_bit1 (y : Int32) : ((y &&& 1).toInt8.toInt32).toInt8.toInt32 = y &&& 1 ∧ (y &&& 1 = 0 ∨ y &&& 1 = 1) := by
  obtain ⟨j, hj, e⟩ := pk_andE y (m := 1) 1 (by decide)
  rw [e]
  match j, hj with
  | 0, _ => exact ⟨by decide, Or.inl rfl⟩
  | 1, _ => exact ⟨by decide, Or.inr rfl⟩
theorem x_m1 (x : Int32) : x + (-1) = x - 1 := by rw [Int32.sub_eq_add_neg]
theorem bits_loop (x : Int32) : ∀ (t n z : Nat) (c m : x_S), t < n → z + t ≤ 600 → c 22 1 = nI z → m 46 35 = nI z → (∀ i, i < z → c 23 i = m 59 i ∧ (m 59 i = 0 ∨ m 59 i = 1)) →
    ∃ c' m', F_Bit_put_29 n x (nI t - 1) c = some (1, c') ∧ F_Mod_bits_29 n x (nI t - 1) m = some (1, m') ∧ c' 22 1 = nI (z + t) ∧ m' 46 35 = nI (z + t) ∧ (∀ i, i < z + t → c' 23 i = m' 59 i ∧ (m' 59 i = 0 ∨ m' 59 i = 1)) ∧ (∀ p, p ≠ 22 → p ≠ 23 → c' p = c p) ∧ (∀ p, p ≠ 46 → p ≠ 59 → m' p = m p) ∧ ∀ j, j ≠ 35 → m' 46 j = m 46 j := by
  intro t
  induction t with
  | zero =>
    intro n z c m hn hz h1 h2 h3
    obtain ⟨n, rfl⟩ : ∃ k, n = k + 1 := ⟨n - 1, by omega⟩
    refine ⟨c, m, ?_, ?_, h1, h2, h3, fun _ _ _ => rfl, fun _ _ _ => rfl, fun _ _ => rfl⟩
    · rw [F_Bit_put_29, if_pos (by decide)]
    · rw [F_Mod_bits_29, if_pos (by decide)]
  | succ t ih =>
    intro n z c m hn hz h1 h2 h3
    obtain ⟨n, rfl⟩ : ∃ k, n = k + 1 := ⟨n - 1, by omega⟩
    have es : nI (t + 1) - 1 = nI t := nI_pred t
    have ht : ¬ nI t < 0 := nI_pos (by omega)
    obtain ⟨b1, b2⟩ := x_bit1 (x >>> (nI t &&& 31))
    obtain ⟨c', m', g1, g2, g3, g4, g5, g6, g7, g8⟩ := ih n (z + 1) (x_up (x_up c 23 z ((x >>> (nI t &&& 31)) &&& 1)) 22 1 (nI (z + 1))) (x_up (x_up m 59 z ((x >>> (nI t &&& 31)) &&& 1)) 46 35 (nI (z + 1))) (by omega) (by omega) (by rw [x_up_at, if_pos rfl]) (by rw [x_up_at, if_pos rfl]) (by
      intro i hi
      simp only [x_up_ne (show (23 : Nat) ≠ 22 by decide), x_up_ne (show (59 : Nat) ≠ 46 by decide), x_up_at]
      by_cases e : i = z
      · rw [if_pos e, if_pos e]; exact ⟨rfl, b2⟩
      · rw [if_neg e, if_neg e]; exact h3 i (by omega))
    refine ⟨c', m', ?_, ?_, ?_, ?_, ?_, fun p hp hp' => ?_, fun p hp hp' => ?_, fun j hj => ?_⟩
    · rw [es, F_Bit_put_29, if_neg ht, h1, x_ix_nI (by omega) (by omega), b1]
      unfold F_Bit_put_48 F_Bit_put_58
      rw [x_up_ne (by decide), h1, nI_1, x_m1]
      exact g1
    · rw [es, F_Mod_bits_29, if_neg ht, h2, x_ix_nI (by omega) (by omega)]
      unfold F_Mod_bits_47 F_Mod_bits_57
      rw [x_up_ne (by decide), h2, nI_1, x_m1]
      exact g2
    · rw [g3]; congr 1; omega
    · rw [g4]; congr 1; omega
    · intro i hi; exact g5 i (by omega)
    · rw [g6 p hp hp', x_up_ne hp, x_up_ne hp']
    · rw [g7 p hp hp', x_up_ne hp, x_up_ne hp']
    · rw [g8 j hj, x_up_at, if_neg hj, x_up_ne (by decide)]
theorem sim_bits {n : Nat} {c m : x_S} (h : R n c m) (x y : Int32) : x_eqv R n (F_G_bits x y c) (F_Mod_bits x y m) := by
  obtain ⟨hE, hA, hV, ⟨d1, d2, d3, d4, z, hz, z1, z2⟩, hN⟩ := h
  have h : R n c m := ⟨hE, hA, hV, ⟨d1, d2, d3, d4, z, hz, z1, z2⟩, hN⟩
  obtain ⟨e1, e2, e3, e4, e5, e6, e7, e8, e9, e10, e11, e12, e13, e14, e15, e16, e17, e18, e19, e20, e21, e22, e23⟩ := hE
  have z3 : m 46 35 = nI z := e19.symm.trans z1
  unfold F_G_bits F_Bit_put F_Mod_bits F_Bit_put_23 F_Mod_bits_23
  rw [z1, z3]
  have no : x_eqv R n (x_bind (some ((0 : Int32), c)) (fun r1 c1 => F_G_bits_9 r1 c1)) (some ((0 : Int32), m)) := h.ask (by show F_G_bits_9 0 c = _; unfold F_G_bits_9; rw [x_b01_0]) rfl
  by_cases h1 : y < 1
  · rw [if_pos h1, if_pos h1]; exact no
  rw [if_neg h1, if_neg h1]
  by_cases h2 : 30 < y
  · rw [if_pos h2, if_pos h2]; exact no
  rw [if_neg h2, if_neg h2]
  have hy0 : ¬ y < 0 := by
    rw [Int32.lt_iff_toInt_lt] at h1 ⊢
    have a1 : ((1 : Int32)).toInt = 1 := by decide
    have a0 : ((0 : Int32)).toInt = 0 := by decide
    omega
  obtain ⟨t, ht, rfl⟩ := nI_of hy0
  have ht30 : t ≤ 30 := by
    rw [Int32.lt_iff_toInt_lt, nI_toInt ht] at h2
    have a1 : ((30 : Int32)).toInt = 30 := by decide
    omega
  by_cases h3 : nI z + nI t ≤ 600
  · rw [if_pos h3, if_pos h3]
    rw [nI_add] at h3
    have hzt : z + t ≤ 600 := (nI_leI (a := z + t) (b := 600) (by omega) (by omega)).mp h3
    obtain ⟨c', m', g1, g2, g3, g4, g5, hc, g7, g8⟩ := bits_loop x t x_fuel z c m (by unfold x_fuel; omega) hzt z1 z3 z2
    rw [g2]
    refine ⟨1, c', m', ?_, rfl, ⟨?_, ?_, ?_, ⟨?_, ?_, ?_, ?_, z + t, hzt, g3, g5⟩, ?_⟩⟩
    · rw [x_bind_eq g1]
      unfold F_G_bits_9
      rw [x_b01_1]
    · refine ⟨?_, ?_, ?_, ?_, ?_, ?_, ?_, ?_, ?_, ?_, ?_, ?_, ?_, ?_, ?_, ?_, ?_, ?_, ?_, ?_, ?_, ?_, ?_⟩ <;> simp [hc, g8, g3, g4, e1, e2, e3, e4, e5, e6, e7, e8, e9, e10, e11, e12, e13, e14, e15, e16, e17, e18, e20, e21, e22, e23]
    · unfold RA at *
      simp only [hc 2 (by decide) (by decide), g8 8 (by decide), g8 11 (by decide)]
      exact hA
    · have hV' := hV.more
      unfold RV at *
      simp only [g8 2 (by decide), g8 0 (by decide), g8 1 (by decide), g8 3 (by decide), g8 4 (by decide), g8 5 (by decide), g8 9 (by decide), g8 10 (by decide), g8 29 (by decide), g8 31 (by decide), g8 32 (by decide)]
      exact hV'
    · simp [hc, g7]; exact d1
    · simp [hc, g7]; exact d2
    · simp [hc, g7]; exact d3
    · simp [hc, g7]; exact d4
    · unfold RNn at *
      simp [hc, g7, g8]
      exact hN
  · rw [if_neg h3, if_neg h3]; exact no
