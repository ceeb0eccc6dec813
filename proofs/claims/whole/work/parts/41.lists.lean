/-! what a message changes: restrictions -/
def rC (q j : Nat) : Prop := q = 12 ∨ (q = 13 ∧ j = 3) ∨ (14 ≤ q ∧ q ≤ 16)
def rM (q j : Nat) : Prop := (55 ≤ q ∧ q ≤ 58) ∨ (q = 46 ∧ j = 24)
def RRs (k : Nat) (c m : x_S) : Prop := k ≤ 6 ∧ c 13 3 = nI k ∧ m 46 24 = nI k ∧ RR (nI k) (c 12) (c 14) (c 15) (c 16) (m 55) (m 56) (m 57) (m 58)
theorem cls_removeAt {c : x_S} {k t0 : Nat} (hk : k ≤ 6) (ht : t0 < k) (hc : c 13 3 = nI k) : F_Res_remove_5 (nI t0) c = some (0, x_up (x_up (x_up (x_up (x_up c 13 3 (nI (k - 1))) 14 t0 (c 14 (k - 1))) 15 t0 (c 15 (k - 1))) 16 t0 (c 16 (k - 1))) 12 t0 (c 12 (k - 1))) := by
  have e1 : nI k - 1 = nI (k - 1) := pk_sub (b := 1) (by omega)
  have fl : F_Spn_fillFromLast 13 (nI t0) c = some (0, x_up (x_up (x_up (x_up c 13 3 (nI (k - 1))) 14 t0 (c 14 (k - 1))) 15 t0 (c 15 (k - 1))) 16 t0 (c 16 (k - 1))) := by
    unfold F_Spn_fillFromLast
    rw [if_neg (nI_pos (by omega)), hc, if_neg (nI_ge ht (by omega)), e1]
    unfold F_Spn_fillFromLast_22
    rw [show x_up c 13 3 (nI (k - 1)) 13 3 = nI (k - 1) by simp [x_upc], x_ix_nI (by omega) (by omega), x_ix_nI (by omega) (by omega)]
    unfold F_Spn_fillFromLast_37
    rw [show x_up (x_up c 13 3 (nI (k - 1))) (13 + 1) t0 (x_up c 13 3 (nI (k - 1)) (13 + 1) (k - 1)) 13 3 = nI (k - 1) by simp [x_upc], x_ix_nI (by omega) (by omega), x_ix_nI (by omega) (by omega)]
    unfold F_Spn_fillFromLast_52
    rw [show x_up (x_up (x_up c 13 3 (nI (k - 1))) (13 + 1) t0 (x_up c 13 3 (nI (k - 1)) (13 + 1) (k - 1))) (13 + 2) t0 (x_up (x_up c 13 3 (nI (k - 1))) (13 + 1) t0 (x_up c 13 3 (nI (k - 1)) (13 + 1) (k - 1)) (13 + 2) (k - 1)) 13 3 = nI (k - 1) by simp [x_upc], x_ix_nI (by omega) (by omega), x_ix_nI (by omega) (by omega)]
    unfold F_Spn_fillFromLast_67
    simp only [show (13 : Nat) + 1 = 14 from rfl, show (13 : Nat) + 2 = 15 from rfl, show (13 : Nat) + 3 = 16 from rfl, x_up_ne (show (14 : Nat) ≠ 13 by decide), x_up_ne (show (15 : Nat) ≠ 13 by decide), x_up_ne (show (15 : Nat) ≠ 14 by decide), x_up_ne (show (16 : Nat) ≠ 13 by decide), x_up_ne (show (16 : Nat) ≠ 14 by decide), x_up_ne (show (16 : Nat) ≠ 15 by decide)]
  unfold F_Res_remove_5
  rw [if_neg (nI_pos (by omega)), x_bind_eq fl]
  unfold F_Res_remove_18
  rw [show x_up (x_up (x_up (x_up c 13 3 (nI (k - 1))) 14 t0 (c 14 (k - 1))) 15 t0 (c 15 (k - 1))) 16 t0 (c 16 (k - 1)) 13 3 = nI (k - 1) by simp [x_upc], x_ix_nI (by omega) (by omega), x_ix_nI (by omega) (by omega)]
  unfold F_Res_remove_36
  simp only [x_up_ne (show (12 : Nat) ≠ 13 by decide), x_up_ne (show (12 : Nat) ≠ 14 by decide), x_up_ne (show (12 : Nat) ≠ 15 by decide), x_up_ne (show (12 : Nat) ≠ 16 by decide)]
theorem sim_drop {k : Nat} {c m : x_S} (h : RRs k c m) (x : Int32) : ∃ k' c' m', F_Res_remove x c = some (0, c') ∧ F_Mod_drop x m = some (0, m') ∧ RRs k' c' m' ∧ k' ≤ k ∧ ((∃ i, i < k ∧ m 55 i = x) → k' + 1 ≤ k) ∧ (∀ i, i < k' → m' 55 i ≠ x) ∧ (∀ y, y ≠ x → (∃ i, i < k ∧ m 55 i = y) → ∃ i, i < k' ∧ m' 55 i = y) ∧ Fr rC c c' ∧ Fr rM m m' := by
  obtain ⟨hk, hc, hm, hRR⟩ := h
  have hd : ∀ i j, i < k → j < k → m 55 i = m 55 j → i = j := by
    obtain ⟨k', k1, k2, k3, k4, k5⟩ := hRR
    have e : k' = k := (nI_eq (by omega) (by omega)).mp k2.symm
    subst e
    exact fun i j hi hj => (k5 i j hi hj).2
  obtain ⟨r, r1, r2⟩ := cls_index hk hc x
  have hmem := hRR.mem rfl hk x
  unfold F_Res_remove
  rw [x_bind_eq r1]
  rcases drop_A (x := x) hk hm (fun i j hi hj w1 w2 => hd i j hi hj (w1.trans w2.symm)) k 0 x_fuel (by omega) (by unfold x_fuel; omega) (fun t ht => absurd ht (by omega)) with ⟨m'', g1, g2, g3⟩ | ⟨i0, m'', i1, i2, g1, g2, g3, g4⟩
  · subst g2
    have neg : r < 0 := (r2.neg hk).mpr (fun y => by
      obtain ⟨i, i1, i2⟩ := hmem.mp y
      exact g3 i i1 i2)
    refine ⟨k, c, m'', ?_, g1, ⟨hk, hc, hm, hRR⟩, Nat.le_refl _, fun ⟨i, i1, i2⟩ => absurd i2 (g3 i i1), g3, fun y _ w => w, Fr.rfl, Fr.rfl⟩
    unfold F_Res_remove_5
    rw [if_pos neg]
    rfl
  · obtain ⟨t0, t1, t2, t3⟩ : ∃ t0, t0 < k ∧ r = nI t0 ∧ c 12 t0 = x := by
      rcases r2 with ⟨w1, w2⟩ | ⟨t0, w1, w2, w3, -⟩
      · obtain ⟨t, y1, y2⟩ := hmem.mpr ⟨i0, i1, i2⟩
        exact absurd y2 (w2 t y1)
      · exact ⟨t0, w1, w2, w3⟩
    subst t2
    obtain ⟨j0, j1, j2, j3⟩ := hRR.drop hk t1
    have e0 : j0 = i0 := hd j0 i0 j1 i1 (by rw [j2, t3, i2])
    subst e0
    have mrow : ∀ q t, 55 ≤ q → q ≤ 58 → t < k - 1 → m'' q t = if t < j0 then m q t else m q (t + 1) := by
      intro q t q1 q2 ht
      rw [g2 q t q1 q2]
      by_cases w : t < j0
      · rw [if_pos w, if_neg (by omega)]
      · rw [if_neg w, if_pos (by omega)]
    refine ⟨k - 1, _, m'', cls_removeAt hk t1 hc, g1, ⟨by omega, by simp [x_upc], g3, j3 _ _ _ _ _ _ _ _ (fun t ht => ⟨?_, ?_, ?_, ?_⟩) (fun t ht => ⟨mrow 55 t (by omega) (by omega) ht, mrow 56 t (by omega) (by omega) ht, mrow 57 t (by omega) (by omega) ht, mrow 58 t (by omega) (by omega) ht⟩)⟩, by omega, fun _ => by omega, fun i hi => ?_, fun y hy ⟨i, w1, w2⟩ => ?_, ?_, g4⟩
    · simp [x_upc]
    · simp [x_upc]
    · simp [x_upc]
    · simp [x_upc]
    · rw [mrow 55 i (by omega) (by omega) hi]
      by_cases w : i < j0
      · rw [if_pos w]
        intro y
        have := hd i j0 (by omega) i1 (y.trans i2.symm)
        omega
      · rw [if_neg w]
        intro y
        have := hd (i + 1) j0 (by omega) i1 (y.trans i2.symm)
        omega
    · have ne : i ≠ j0 := fun e => hy (by rw [← w2, e, i2])
      by_cases w : i < j0
      · exact ⟨i, by omega, by rw [mrow 55 i (by omega) (by omega) (by omega), if_pos w]; exact w2⟩
      · exact ⟨i - 1, by omega, by rw [mrow 55 (i - 1) (by omega) (by omega) (by omega), if_neg (by omega), show i - 1 + 1 = i by omega]; exact w2⟩
    · refine Fr.trans (Fr.trans (Fr.trans (Fr.trans (Fr.up ?_) (Fr.up ?_)) (Fr.up ?_)) (Fr.up ?_)) (Fr.up ?_) <;> unfold rC <;> omega
theorem sim_put {k : Nat} {c m : x_S} (h : RRs k c m) (d : D4 c m) (hr : k < 6 ∨ ∃ i, i < k ∧ m 55 i = m 62 84) (x1 : Int32) : ∃ k' c' m', F_Res_put (c 24 9) (c 24 10) (c 24 11) (c 24 12) c = some (0, c') ∧ F_Mod_take_60 x1 (m 62 84) m = F_Mod_take_137 x1 m' ∧ RRs k' c' m' ∧ Fr rC c c' ∧ Fr rM m m' := by
  obtain ⟨d1, d2, d3, d4, d5, d6, d7, d8⟩ := d
  obtain ⟨k1, c1, m1, a1, a2, a3, a4, a5, a6, a7, a8, a9⟩ := sim_drop h (m 62 84)
  have k6 := h.1
  have lt : k1 < 6 := by
    rcases hr with w | w
    · omega
    · have := a5 w; omega
  obtain ⟨b1, b2, b3, b4⟩ := a3
  have m62 : ∀ j, m1 62 j = m 62 j := fun j => a9 62 j (by unfold rM; omega)
  have sp := cls_spnAdd (P := 13) (c := x_up c1 12 k1 (m 62 84)) (m 62 85) (m 62 85 + m 62 86 - 1) (m 62 87) (show k1 < 7 by omega) (by rw [x_up_ne (by decide)]; exact b2)
  refine ⟨k1 + 1, x_up (x_up (x_up (x_up (x_up c1 12 k1 (m 62 84)) (13 + 1) k1 (m 62 85)) (13 + 2) k1 (m 62 85 + m 62 86 - 1)) (13 + 3) k1 (m 62 87)) 13 3 (nI (k1 + 1)), x_up (x_up (x_up (x_up (x_up m1 55 k1 (m 62 84)) 56 k1 (m 62 85)) 57 k1 (m 62 86)) 58 k1 (m 62 87)) 46 24 (nI (k1 + 1)), ?_, ?_, ⟨by omega, ?_, ?_, RR.add b4 lt a6 d8 d5 d6 d7 (fun t ht => ⟨?_, ?_, ?_, ?_⟩) (fun t ht => ⟨?_, ?_, ?_, ?_⟩)⟩, ?_, ?_⟩
  · unfold F_Res_put
    rw [d1, d2, d3, d4, x_bind_eq a1]
    unfold F_Res_put_5
    rw [b2, if_neg (show ¬ (6 : Int32) ≤ nI k1 from nI_ge (b := 6) lt (by omega)), x_ix_nI lt (by omega)]
    unfold F_Res_put_30
    rw [x_bind_eq sp]
    rfl
  · have tl : ∀ (m' : x_S) (s i t : Nat), s < 6 → i < 7 → t < 3 → F_Mod_told (nI s) (nI i) (nI t) m' = some (m' 62 (21 * s + 3 * i + t), m') := fun m' s i t h1 h2 h3 => mod_told s i t h1 h2 h3
    unfold F_Mod_take_60
    rw [x_bind_eq a2]
    unfold F_Mod_take_63
    rw [x_bind_eq (show F_Mod_told 4 0 0 m1 = some (m1 62 84, m1) from tl m1 4 0 0 (by omega) (by omega) (by omega)), b3, m62]
    unfold F_Mod_take_78
    rw [x_ix_nI lt (by omega)]
    unfold F_Mod_take_79
    rw [x_bind_eq (show F_Mod_told 4 0 1 (x_up m1 55 k1 (m 62 84)) = some (m1 62 85, _) from tl _ 4 0 1 (by omega) (by omega) (by omega)), x_up_ne (show (46 : Nat) ≠ 55 by decide), b3, m62]
    unfold F_Mod_take_94
    rw [x_ix_nI lt (by omega)]
    unfold F_Mod_take_95
    rw [x_bind_eq (show F_Mod_told 4 0 2 (x_up (x_up m1 55 k1 (m 62 84)) 56 k1 (m 62 85)) = some (m1 62 86, _) from tl _ 4 0 2 (by omega) (by omega) (by omega)), x_up_ne (show (46 : Nat) ≠ 56 by decide), x_up_ne (show (46 : Nat) ≠ 55 by decide), b3, m62]
    unfold F_Mod_take_110
    rw [x_ix_nI lt (by omega)]
    unfold F_Mod_take_111
    rw [x_bind_eq (show F_Mod_told 4 1 0 (x_up (x_up (x_up m1 55 k1 (m 62 84)) 56 k1 (m 62 85)) 57 k1 (m 62 86)) = some (m1 62 87, _) from tl _ 4 1 0 (by omega) (by omega) (by omega)), x_up_ne (show (46 : Nat) ≠ 57 by decide), x_up_ne (show (46 : Nat) ≠ 56 by decide), x_up_ne (show (46 : Nat) ≠ 55 by decide), b3, m62]
    unfold F_Mod_take_126
    rw [x_ix_nI lt (by omega)]
    unfold F_Mod_take_127
    rw [x_up_ne (show (46 : Nat) ≠ 58 by decide), x_up_ne (show (46 : Nat) ≠ 57 by decide), x_up_ne (show (46 : Nat) ≠ 56 by decide), x_up_ne (show (46 : Nat) ≠ 55 by decide), b3, nI_1]
  · simp [x_upc]
  · simp [x_upc]
  · simp [x_upc]
  · simp [x_upc]
  · simp [x_upc]
  · simp [x_upc]
  · simp [x_upc]
  · simp [x_upc]
  · simp [x_upc]
  · simp [x_upc]
  · refine a8.trans (Fr.trans (Fr.trans (Fr.trans (Fr.trans (Fr.up ?_) (Fr.up ?_)) (Fr.up ?_)) (Fr.up ?_)) (Fr.up ?_)) <;> unfold rC <;> omega
  · refine a9.trans (Fr.trans (Fr.trans (Fr.trans (Fr.trans (Fr.up ?_) (Fr.up ?_)) (Fr.up ?_)) (Fr.up ?_)) (Fr.up ?_)) <;> unfold rM <;> omega
