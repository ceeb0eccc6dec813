/-! modes, and the driver -/
theorem R.upd {n n' : Nat} {c m c' m' : x_S} (h : R n c m) (hc : ∀ p, p ≠ 0 → p ≠ 1 → p ≠ 2 → p ≠ 39 → p ≠ 40 → p ≠ 41 → c' p = c p) (hm : ∀ p, p ≠ 46 → p ≠ 63 → m' p = m p) (hE : RE c' m') (hA : RA c' m') (hV : RV n' m') (hN : RNn c' m') : R n' c' m' := by
  refine ⟨hE, hA, hV, ?_, hN⟩
  have hD := h.2.2.2.1
  unfold RD at *
  simp [hc, hm]
  exact hD
theorem sim_become {c m : x_S} (x : Int32) (hN : RNn c m) (hcy : c 0 10 = m 46 7) (hmo : c 0 8 = m 46 6) : ∃ c' m', F_G_become x c = some (0, c') ∧ F_Mod_become x m = some (0, m') ∧ (∀ p, p ≠ 0 → p ≠ 40 → p ≠ 41 → c' p = c p) ∧ (∀ j, j ≠ 8 → c' 0 j = c 0 j) ∧ c' 0 8 = x ∧ (∀ p, p ≠ 46 → p ≠ 63 → m' p = m p) ∧ (∀ j, j ≠ 6 → j ≠ 42 → m' 46 j = m 46 j) ∧ m' 46 6 = x ∧ RNn c' m' := by
  unfold F_G_become F_Mod_become F_G_become_19 F_Mod_become_19
  rw [hmo]
  by_cases h : m 46 6 = x
  · rw [if_pos h, if_pos h.symm]
    exact ⟨c, m, rfl, rfl, fun _ _ _ _ => rfl, fun _ _ => rfl, hmo.trans h, fun _ _ _ => rfl, fun _ _ _ => rfl, h, hN⟩
  · rw [if_neg h, if_neg (Ne.symm h)]
    obtain ⟨c', m', e1, e2, f1, f2, hN'⟩ := sim_write (c := x_up c 0 8 x) (m := x_up m 46 6 x) 1 x (by
      simp [x_up_ne, x_up_at]
      exact hN) (by simp [x_up_at]; exact hcy)
    refine ⟨c', m', ?_, ?_, fun p h0 h1 h2 => by rw [f1 p h1 h2, x_up_ne h0], fun j hj => by rw [f1 0 (by decide) (by decide), x_up_at, if_neg hj], by rw [f1 0 (by decide) (by decide), x_up_at, if_pos rfl], fun p h0 h1 => by rw [f2.1 p h0 h1, x_up_ne h0], fun j hj hj' => by rw [f2.2 j hj', x_up_at, if_neg hj], by rw [f2.2 6 (by decide), x_up_at, if_pos rfl], hN'⟩
    · unfold F_G_become_13 F_G_become_19
      rw [x_bind_eq e1]
    · unfold F_Mod_become_13 F_Mod_become_19
      rw [x_bind_eq e2]
theorem sim_trip {n : Nat} {c m : x_S} (hE : RE c m) (hV : RV n m) (d4 : RR (c 13 3) (c 12) (c 14) (c 15) (c 16) (m 55) (m 56) (m 57) (m 58)) (d5 : RB (c 22 1) (c 23) (m 59)) (hN : RNn c m) : ∃ c' m', F_G_trip c = some (0, c') ∧ F_Mod_trips m = some (0, m') ∧ R n c' m' := by
  obtain ⟨e1, e2, e3, e4, e5, e6, e7, e8, e9, e10, e11, e12, e13, e14, e15, e16, e17, e18, e19, e20, e21, e22, e23⟩ := hE
  let m0 : x_S := x_up (x_up (x_up (x_up (x_up m 46 8 0) 46 13 0) 46 16 0) 46 19 0) 46 29 0
  have k0 : ∀ p, p ≠ 46 → m0 p = m p := fun p hp => by simp [m0, x_up_ne hp]
  have k1 : ∀ j, j ≠ 8 → j ≠ 13 → j ≠ 16 → j ≠ 19 → j ≠ 29 → m0 46 j = m 46 j := fun j a1 a2 a3 a4 a5 => by simp [m0, x_up_at, a1, a2, a3, a4, a5]
  obtain ⟨c1, m1, b1, b2, b3, b4, b5, b6, b7, b8, b9⟩ := sim_become (c := c) (m := m0) 4 (by
    unfold RNn at *
    rw [k1 42 (by decide) (by decide) (by decide) (by decide) (by decide), k0 63 (by decide)]
    exact hN) (by rw [k1 7 (by decide) (by decide) (by decide) (by decide) (by decide)]; exact e8) (by rw [k1 6 (by decide) (by decide) (by decide) (by decide) (by decide)]; exact e7)
  have q8 : m0 46 8 = 0 := by simp [m0, x_up_at]
  have q13 : m0 46 13 = 0 := by simp [m0, x_up_at]
  have q16 : m0 46 16 = 0 := by simp [m0, x_up_at]
  have q19 : m0 46 19 = 0 := by simp [m0, x_up_at]
  have q29 : m0 46 29 = 0 := by simp [m0, x_up_at]
  refine ⟨x_up (x_up (x_up (x_up (x_up c1 2 4 0) 3 3 0) 7 3 0) 17 4 0) 0 12 0, m1, ?_, ?_, ⟨?_, ?_, ?_, ⟨?_, ?_, ?_, ?_, ?_⟩, ?_⟩⟩
  · unfold F_G_trip
    rw [x_bind_eq b1]
    rfl
  · show F_Mod_trips_25 m0 = _
    unfold F_Mod_trips_25
    rw [x_bind_eq b2]
    rfl
  · refine ⟨?_, ?_, ?_, ?_, ?_, ?_, ?_, ?_, ?_, ?_, ?_, ?_, ?_, ?_, ?_, ?_, ?_, ?_, ?_, ?_, ?_, ?_, ?_⟩ <;> simp [x_up_ne, x_up_at, b3, b4, b5, b7, b8, k1, q8, q13, q16, q19, q29, e1, e2, e3, e4, e5, e6, e8, e10, e11, e12, e14, e15, e16, e17, e18, e19, e23]
  · intro h
    rw [b7 8 (by decide) (by decide)] at h
    exact absurd q8 h
  · unfold RV at *
    simp [b7, k1, q29]
    obtain ⟨v1, v2, v3, v4, v5, v6, v7, v8, v9, v10, v11⟩ := hV
    exact ⟨v1, v2, v3, v4, v5, v6, v7, v8, v10, v11⟩
  · exact ⟨0, by omega, by simp [x_up_ne, x_up_at]; rfl, fun i hi => absurd hi (by omega)⟩
  · exact ⟨0, by omega, by simp [x_up_ne, x_up_at]; rfl, fun i hi => absurd hi (by omega)⟩
  · exact ⟨0, by omega, by simp [x_up_ne, x_up_at]; rfl, fun i hi => absurd hi (by omega)⟩
  · simp [x_up_ne, b3, b6, k0]; exact d4
  · simp [x_up_ne, b3, b6, k0]; exact d5
  · unfold RNn at *
    simp [x_up_ne]
    exact b9
theorem sim_enter {n : Nat} {c m : x_S} (h : R n c m) (ha : m 46 8 ≠ 0) : ∃ c' m', F_G_enterModeOfAuthority c = some (0, c') ∧ F_Mod_enters m = some (0, m') ∧ R n c' m' := by
  obtain ⟨hE, hA, hV, hD, hN⟩ := h
  have h : R n c m := ⟨hE, hA, hV, hD, hN⟩
  obtain ⟨e1, e2, e3, e4, e5, e6, e7, e8, e9, e10, e11, e12, e13, e14, e15, e16, e17, e18, e19, e20, e21, e22, e23⟩ := hE
  obtain ⟨a1, a2⟩ := hA ha
  obtain ⟨v1, v2, v3, v4, v5, v6, v7, v8, v9, v10, v11⟩ := hV
  unfold F_G_enterModeOfAuthority F_Mod_enters
  rw [a1, e7]
  have z23 : ¬ (3 : Int32) = 2 := by decide
  rcases a2 with a2 | a2
  · -- full
    rw [a2, if_neg (show ¬ (2 : Int32) = 3 by decide)]
    unfold F_Mod_enters_26
    rw [a2, if_pos rfl]
    obtain ⟨c1, m1, b1, b2, b3, b4, b5, b6, b7, b8, b9⟩ := sim_become (c := c) (m := x_up m 46 29 0) 2 (by unfold RNn at *; simp [x_up_ne, x_up_at]; exact hN) (by simp [x_up_at]; exact e8) (by simp [x_up_at]; exact e7)
    refine ⟨x_up c1 0 12 0, m1, ?_, ?_, ?_⟩
    · have key : ∀ s, F_G_enterModeOfAuthority_19 s c = some (0, x_up c1 0 12 0) := by
        intro s
        unfold F_G_enterModeOfAuthority_19
        rw [a1, a2, x_bind_eq b1]
        unfold F_G_enterModeOfAuthority_31
        rw [b3 2 (by decide) (by decide) (by decide), a1, a2, if_pos rfl]
        rfl
      split
      · exact key _
      · exact key _
    · have q11 : x_up m 46 29 0 46 11 = 2 := by simp [x_up_at]; exact a2
      unfold F_Mod_enters_39
      rw [q11, x_bind_eq b2]
      rfl
    · refine h.upd (fun p p0 p1 p2 p3 p4 p5 => by rw [x_up_ne p0, b3 p p0 p4 p5]) (fun p p0 p1 => by rw [b6 p p0 p1, x_up_ne p0]) ?_ ?_ ?_ ?_
      · refine ⟨?_, ?_, ?_, ?_, ?_, ?_, ?_, ?_, ?_, ?_, ?_, ?_, ?_, ?_, ?_, ?_, ?_, ?_, ?_, ?_, ?_, ?_, ?_⟩ <;> simp [x_up_ne, x_up_at, b3, b4, b5, b7, b8, e1, e2, e3, e4, e5, e6, e8, e9, e10, e11, e12, e14, e15, e16, e17, e18, e19, e20, e21, e22, e23]
      · intro _
        simp [x_up_ne, x_up_at, b3, b7]
        exact ⟨a1, Or.inl a2⟩
      · unfold RV
        simp [b7, x_up_at]
        exact ⟨v1, v2, v3, v4, v5, v6, v7, v8, v10, v11⟩
      · unfold RNn at *
        simp [x_up_ne]
        exact b9
  · -- on sight
    rw [a2, if_pos rfl]
    by_cases hm : m 46 6 = 3
    · rw [if_pos hm, if_pos hm]
      unfold F_Mod_enters_26
      rw [a2, if_neg (by decide)]
      obtain ⟨c1, m1, b1, b2, b3, b4, b5, b6, b7, b8, b9⟩ := sim_become (c := c) (m := m) 3 hN e8 e7
      refine ⟨c1, m1, ?_, ?_, ?_⟩
      · unfold F_G_enterModeOfAuthority_19
        rw [a1, a2, x_bind_eq b1]
        unfold F_G_enterModeOfAuthority_31
        rw [b3 2 (by decide) (by decide) (by decide), a1, a2, if_neg (by decide), if_pos rfl]
        rfl
      · unfold F_Mod_enters_39
        rw [a2, x_bind_eq b2]
        rfl
      · refine h.upd (fun p p0 p1 p2 p3 p4 p5 => b3 p p0 p4 p5) b6 ?_ ?_ ?_ b9
        · refine ⟨?_, ?_, ?_, ?_, ?_, ?_, ?_, ?_, ?_, ?_, ?_, ?_, ?_, ?_, ?_, ?_, ?_, ?_, ?_, ?_, ?_, ?_, ?_⟩ <;> simp [b3, b4, b5, b7, b8, e1, e2, e3, e4, e5, e6, e8, e9, e10, e11, e12, e13, e14, e15, e16, e17, e18, e19, e20, e21, e22, e23]
        · intro _
          simp [b3, b7]
          exact ⟨a1, Or.inr a2⟩
        · unfold RV
          simp [b7]
          exact ⟨v1, v2, v3, v4, v5, v6, v7, v8, v9, v10, v11⟩
    · rw [if_neg hm, if_neg hm]
      unfold F_Mod_enters_21 F_Mod_enters_26
      obtain ⟨c1, m1, b1, b2, b3, b4, b5, b6, b7, b8, b9⟩ := sim_become (c := c) (m := x_up (x_up m 46 29 1) 46 30 0) 3 (by unfold RNn at *; simp [x_up_ne, x_up_at]; exact hN) (by simp [x_up_at]; exact e8) (by simp [x_up_at]; exact e7)
      refine ⟨x_up (x_up c1 0 12 1) 0 13 0, m1, ?_, ?_, ?_⟩
      · unfold F_G_enterModeOfAuthority_19
        rw [a1, a2, x_bind_eq b1]
        unfold F_G_enterModeOfAuthority_31
        rw [b3 2 (by decide) (by decide) (by decide), a1, a2, if_neg (by decide), if_neg (by decide)]
        rfl
      · have q11 : x_up (x_up m 46 29 1) 46 30 0 46 11 = 3 := by simp [x_up_at]; exact a2
        rw [q11, if_neg (by decide)]
        unfold F_Mod_enters_39
        rw [q11, x_bind_eq b2]
        rfl
      · refine h.upd (fun p p0 p1 p2 p3 p4 p5 => by rw [x_up_ne p0, x_up_ne p0, b3 p p0 p4 p5]) (fun p p0 p1 => by rw [b6 p p0 p1, x_up_ne p0, x_up_ne p0]) ?_ ?_ ?_ ?_
        · refine ⟨?_, ?_, ?_, ?_, ?_, ?_, ?_, ?_, ?_, ?_, ?_, ?_, ?_, ?_, ?_, ?_, ?_, ?_, ?_, ?_, ?_, ?_, ?_⟩ <;> simp [x_up_ne, x_up_at, b3, b4, b5, b7, b8, e1, e2, e3, e4, e5, e6, e8, e9, e10, e11, e12, e15, e16, e17, e18, e19, e20, e21, e22, e23]
        · intro _
          simp [x_up_ne, x_up_at, b3, b7]
          exact ⟨a1, Or.inr a2⟩
        · unfold RV
          simp [b7, x_up_at]
          exact ⟨v1, v2, v3, v4, v5, v6, v7, v8, v10, v11⟩
        · unfold RNn at *
          simp [x_up_ne]
          exact b9
/-- a note, and nothing else -/
theorem sim_noted {n : Nat} {c m : x_S} (h : R n c m) (x1 x2 : Int32) : ∃ c' m', F_G_write x1 x2 c = some (0, c') ∧ F_Mod_write x1 x2 m = some (0, m') ∧ R n c' m' ∧ frC c c' ∧ frM m m' := by
  obtain ⟨hE, hA, hV, hD, hN⟩ := h
  have h : R n c m := ⟨hE, hA, hV, hD, hN⟩
  obtain ⟨e1, e2, e3, e4, e5, e6, e7, e8, e9, e10, e11, e12, e13, e14, e15, e16, e17, e18, e19, e20, e21, e22, e23⟩ := hE
  obtain ⟨c', m', w1, w2, f1, f2, hN'⟩ := sim_write x1 x2 hN e8
  refine ⟨c', m', w1, w2, ?_, f1, f2⟩
  have g1 : ∀ p, p ≠ 40 → p ≠ 41 → c' p = c p := f1
  have g2 := f2.2
  refine h.upd (fun p p0 p1 p2 p3 p4 p5 => f1 p p4 p5) f2.1 ?_ ?_ ?_ hN'
  · refine ⟨?_, ?_, ?_, ?_, ?_, ?_, ?_, ?_, ?_, ?_, ?_, ?_, ?_, ?_, ?_, ?_, ?_, ?_, ?_, ?_, ?_, ?_, ?_⟩ <;> simp [g1, g2, e1, e2, e3, e4, e5, e6, e7, e8, e9, e10, e11, e12, e13, e14, e15, e16, e17, e18, e19, e20, e21, e22, e23]
  · unfold RA at *; simp [g1, g2]; exact hA
  · unfold RV at *; simp [g2]; exact hV
theorem cls_empty {k : Nat} {c : x_S} (hk : k ≤ 7) (h : c 3 3 = nI k) : F_Spn_isEmpty 3 c = some (bl (k = 0), c) := by
  unfold F_Spn_isEmpty F_Spn_isEmpty_12
  rw [x_b01_0, x_b01_1, h]
  by_cases q : k = 0
  · rw [if_pos (by rw [q]; rfl), bl_pos q]
  · rw [if_neg (nI_ne0 (by omega) (by omega)), bl_neg q]
theorem sim_become' {n : Nat} {c m : x_S} (h : R n c m) (x : Int32) : ∃ c' m', F_G_become x c = some (0, c') ∧ F_Mod_become x m = some (0, m') ∧ R n c' m' := by
  obtain ⟨hE, hA, hV, hD, hN⟩ := h
  have h : R n c m := ⟨hE, hA, hV, hD, hN⟩
  obtain ⟨e1, e2, e3, e4, e5, e6, e7, e8, e9, e10, e11, e12, e13, e14, e15, e16, e17, e18, e19, e20, e21, e22, e23⟩ := hE
  obtain ⟨c1, m1, b1, b2, b3, b4, b5, b6, b7, b8, b9⟩ := sim_become (c := c) (m := m) x hN e8 e7
  refine ⟨c1, m1, b1, b2, ?_⟩
  refine h.upd (fun p p0 p1 p2 p3 p4 p5 => b3 p p0 p4 p5) b6 ?_ ?_ ?_ b9
  · refine ⟨?_, ?_, ?_, ?_, ?_, ?_, ?_, ?_, ?_, ?_, ?_, ?_, ?_, ?_, ?_, ?_, ?_, ?_, ?_, ?_, ?_, ?_, ?_⟩ <;> simp [b3, b4, b5, b7, b8, e1, e2, e3, e4, e5, e6, e8, e9, e10, e11, e12, e13, e14, e15, e16, e17, e18, e19, e20, e21, e22, e23]
  · unfold RA at *; simp [b3, b7]; exact hA
  · unfold RV at *; simp [b7]; exact hV
theorem sim_start {n : Nat} {c m : x_S} (h : R n c m) : ∃ c' m', F_G_start c = some (0, c') ∧ (if m 46 8 = 0 then F_Mod_driver_145 m else if m 46 13 ≤ 0 then F_Mod_driver_145 m else x_bind (F_Mod_enters m) (fun _ c5 => F_Mod_driver_142 c5)) = some (1, m') ∧ R n c' m' := by
  obtain ⟨hE, hA, hV, hD, hN⟩ := h
  have h : R n c m := ⟨hE, hA, hV, hD, hN⟩
  obtain ⟨e1, e2, e3, e4, e5, e6, e7, e8, e9, e10, e11, e12, e13, e14, e15, e16, e17, e18, e19, e20, e21, e22, e23⟩ := hE
  obtain ⟨kP, p1, p2, p3⟩ := hD.1
  have staff : ∃ c' m', F_G_start_30 c = some (0, c') ∧ F_Mod_driver_145 m = some (1, m') ∧ R n c' m' := by
    obtain ⟨c1, m1, b1, b2, b3, b4, b5, b6, b7, b8, b9⟩ := sim_become (c := c) (m := x_up m 46 12 (m 46 4 + 3000)) 1 (by unfold RNn at *; simp [x_up_ne, x_up_at]; exact hN) (by simp [x_up_at]; exact e8) (by simp [x_up_at]; exact e7)
    refine ⟨x_up c1 0 9 (m 46 4 + 3000), m1, ?_, ?_, ?_⟩
    · unfold F_G_start_30
      rw [x_bind_eq b1]
      unfold F_G_start_35 F_G_start_50
      rw [b3 1 (by decide) (by decide) (by decide), e5]
    · unfold F_Mod_driver_145 F_Mod_driver_157
      rw [x_bind_eq b2]
      rfl
    · refine h.upd (fun p q0 q1 q2 q3 q4 q5 => by rw [x_up_ne q0, b3 p q0 q4 q5]) (fun p q0 q1 => by rw [b6 p q0 q1, x_up_ne q0]) ?_ ?_ ?_ ?_
      · refine ⟨?_, ?_, ?_, ?_, ?_, ?_, ?_, ?_, ?_, ?_, ?_, ?_, ?_, ?_, ?_, ?_, ?_, ?_, ?_, ?_, ?_, ?_, ?_⟩ <;> simp [x_up_ne, x_up_at, b3, b4, b5, b7, b8, e1, e2, e3, e4, e5, e6, e8, e9, e10, e11, e13, e14, e15, e16, e17, e18, e19, e20, e21, e22, e23]
      · unfold RA at *; simp [x_up_ne, x_up_at, b3, b7]; exact hA
      · unfold RV at *; simp [b7, x_up_at]; exact hV
      · unfold RNn at *; simp [x_up_ne]; exact b9
  unfold F_G_start
  rw [e9]
  by_cases ha : m 46 8 = 0
  · rw [if_pos ha, if_pos ha]; exact staff
  · rw [if_neg ha, if_neg ha, x_bind_eq (cls_empty p1 p2)]
    unfold F_G_start_20
    have hm13 : m 46 13 = nI kP := e20.symm.trans p2
    rw [hm13]
    by_cases hk : kP = 0
    · rw [bl_pos hk, if_neg (by decide), if_pos (by rw [hk]; decide)]; exact staff
    · rw [bl_neg hk, if_pos rfl, if_neg (nI_nle (by omega) (by omega))]
      obtain ⟨c', m', g1, g2, g3⟩ := sim_enter h ha
      exact ⟨c', m', by rw [x_bind_eq g1]; rfl, by rw [x_bind_eq g2]; rfl, g3⟩
theorem sim_driver {n : Nat} {c m : x_S} (h : R n c m) (x : Int32) : x_eqv R n (F_G_driver x c) (F_Mod_driver x m) := by
  obtain ⟨hE, hA, hV, hD, hN⟩ := h
  have h : R n c m := ⟨hE, hA, hV, hD, hN⟩
  obtain ⟨e1, e2, e3, e4, e5, e6, e7, e8, e9, e10, e11, e12, e13, e14, e15, e16, e17, e18, e19, e20, e21, e22, e23⟩ := hE
  have v9 := hV.2.2.2.2.2.2.2.2.1
  have no : ∀ {f}, f = some ((0 : Int32), m) → x_eqv R n (F_G_driver_5 x 0 c) f := fun hf => h.ask (by unfold F_G_driver_5; rw [if_pos rfl]) hf
  obtain ⟨c1, m1, w1, w2, hR1, f1, f2⟩ := sim_noted h 7 x
  have w5 : F_G_driver_5 x 1 c = F_G_driver_17 x c1 := by
    unfold F_G_driver_5
    rw [if_neg (by decide), x_bind_eq w1]
  have w92 : ∀ x3 x4, F_Mod_driver_92 x x3 x4 m = F_Mod_driver_99 x3 x4 m1 := by
    intro x3 x4
    unfold F_Mod_driver_92
    rw [x_bind_eq w2]
  unfold F_G_driver F_G_driverMay F_Mod_driver
  rw [e7, e6, e13]
  unfold F_G_driverMay_43 F_G_driverMay_57 F_G_driverMay_58 F_G_driverMay_86 F_G_driverMay_87
  rw [x_b01_0, x_b01_1, e6]
  by_cases x0 : x = 0
  · have n1 : ¬ x = 1 := by rw [x0]; decide
    have n2 : ¬ x = 2 := by rw [x0]; decide
    rw [if_pos x0, if_pos x0]
    have mno : F_Mod_driver_30 x m = some (0, m) := by
      unfold F_Mod_driver_30 F_Mod_driver_31
      rw [if_neg n1]
      unfold F_Mod_driver_48 F_Mod_driver_49
      rw [if_neg n2]
      unfold F_Mod_driver_74 F_Mod_driver_75
      rw [if_pos rfl, if_pos rfl, if_pos rfl]
    have go : x_eqv R n (x_bind (if m 46 5 = 0 then some ((1 : Int32), c) else some (0, c)) (fun r1 c1 => F_G_driver_5 x r1 c1)) (F_Mod_driver_19 x m) := by
      unfold F_Mod_driver_19
      by_cases t : m 46 5 = 0
      · rw [if_pos t, if_pos t]
        have mm : F_Mod_driver_31 x 1 m = (if m1 46 8 = 0 then F_Mod_driver_145 m1 else if m1 46 13 ≤ 0 then F_Mod_driver_145 m1 else x_bind (F_Mod_enters m1) (fun _ c5 => F_Mod_driver_142 c5)) := by
          unfold F_Mod_driver_31
          rw [if_neg n1]
          unfold F_Mod_driver_48 F_Mod_driver_49
          rw [if_neg n2]
          unfold F_Mod_driver_74 F_Mod_driver_75
          rw [if_neg (by decide), w92]
          unfold F_Mod_driver_99
          rw [if_pos rfl, if_pos rfl]
        rw [mm]
        obtain ⟨c2, m2, g1, g2, g3⟩ := sim_start hR1
        refine ⟨1, c2, m2, ?_, g2, g3.more⟩
        show F_G_driver_5 x 1 c = _
        rw [w5]
        unfold F_G_driver_17
        rw [if_pos x0, x_bind_eq g1]
        rfl
      · rw [if_neg t, if_neg t]
        exact no mno
    by_cases m0 : m 46 6 = 0
    · rw [if_pos m0, if_pos m0]; exact go
    rw [if_neg m0, if_neg m0]
    by_cases m5 : m 46 6 = 5
    · rw [if_pos m5, if_pos m5]; exact go
    · rw [if_neg m5, if_neg m5]; exact no mno
  rw [if_neg x0, if_neg x0]
  unfold F_Mod_driver_30 F_Mod_driver_31
  by_cases x1 : x = 1
  · have n2 : ¬ x = 2 := by rw [x1]; decide
    rw [if_pos x1, if_pos x1]
    by_cases ha : m 46 29 = 0
    · rw [ha, x_b01_0, if_pos rfl]
      refine no ?_
      unfold F_Mod_driver_48 F_Mod_driver_49
      rw [if_neg n2]
      unfold F_Mod_driver_74 F_Mod_driver_75
      rw [if_pos rfl, if_pos rfl, if_pos rfl]
    · have ha1 : m 46 29 = 1 := v9.resolve_left ha
      rw [if_neg ha, ha1, x_b01_1]
      have mm : F_Mod_driver_49 x 0 1 m = some (1, x_up m1 46 29 0) := by
        unfold F_Mod_driver_49
        rw [if_neg n2]
        unfold F_Mod_driver_74 F_Mod_driver_75
        rw [if_pos rfl, if_neg (by decide), w92]
        unfold F_Mod_driver_99
        rw [if_neg (by decide)]
        rfl
      rw [mm]
      refine ⟨1, x_up c1 0 12 0, x_up m1 46 29 0, ?_, rfl, R.more ?_⟩
      · show F_G_driver_5 x 1 c = _
        rw [w5]
        unfold F_G_driver_17
        rw [if_neg x0, if_pos x1]
        rfl
      · obtain ⟨hE1, hA1, hV1, hD1, hN1⟩ := hR1
        have hR1 : R n c1 m1 := ⟨hE1, hA1, hV1, hD1, hN1⟩
        obtain ⟨e1, e2, e3, e4, e5, e6, e7, e8, e9, e10, e11, e12, e13, e14, e15, e16, e17, e18, e19, e20, e21, e22, e23⟩ := hE1
        refine hR1.upd (fun p q0 q1 q2 q3 q4 q5 => x_up_ne q0) (fun p q0 q1 => x_up_ne q0) ?_ ?_ ?_ ?_
        · refine ⟨?_, ?_, ?_, ?_, ?_, ?_, ?_, ?_, ?_, ?_, ?_, ?_, ?_, ?_, ?_, ?_, ?_, ?_, ?_, ?_, ?_, ?_, ?_⟩ <;> simp [x_up_ne, x_up_at, e1, e2, e3, e4, e5, e6, e7, e8, e9, e10, e11, e12, e14, e15, e16, e17, e18, e19, e20, e21, e22, e23]
        · unfold RA at *; simp [x_up_ne, x_up_at]; exact hA1
        · unfold RV at *
          simp [x_up_at]
          obtain ⟨v1, v2, v3, v4, v5, v6, v7, v8, v9, v10, v11⟩ := hV1
          exact ⟨v1, v2, v3, v4, v5, v6, v7, v8, v10, v11⟩
        · unfold RNn at *; simp [x_up_ne, x_up_at]; exact hN1
  rw [if_neg x1, if_neg x1]
  unfold F_Mod_driver_48 F_Mod_driver_49
  by_cases x2 : x = 2
  · rw [if_pos x2, if_pos x2]
    have mno : F_Mod_driver_74 x 0 0 m = some (0, m) := by
      unfold F_Mod_driver_74 F_Mod_driver_75
      rw [if_pos rfl, if_pos rfl, if_pos rfl]
    by_cases m4 : m 46 6 = 4
    · rw [if_pos m4, if_pos m4]
      by_cases t : m 46 5 = 0
      · rw [if_pos t, if_pos t]
        obtain ⟨c2, m2, g1, g2, g3⟩ := sim_become' hR1 5
        refine ⟨1, c2, m2, ?_, ?_, g3.more⟩
        · show F_G_driver_5 x 1 c = _
          rw [w5]
          unfold F_G_driver_17
          rw [if_neg x0, if_neg x1, x_bind_eq g1]
          rfl
        · unfold F_Mod_driver_75
          rw [if_pos rfl, if_pos rfl, if_neg (by decide), w92]
          unfold F_Mod_driver_99
          rw [if_pos rfl, if_neg (by decide), x_bind_eq g2]
          rfl
      · rw [if_neg t, if_neg t]; exact no mno
    · rw [if_neg m4, if_neg m4]; exact no mno
  · rw [if_neg x2, if_neg x2]
    refine no ?_
    unfold F_Mod_driver_74 F_Mod_driver_75
    rw [if_pos rfl, if_pos rfl, if_pos rfl]
