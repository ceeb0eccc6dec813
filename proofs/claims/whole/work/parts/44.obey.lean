/-! obeying a message -/
def Q38 (c m : x_S) : Prop := RNn c m ∧ c 0 10 = m 46 7 ∧ c 0 8 = m 46 6
theorem Q38.up {c m : x_S} (h : Q38 c m) {j : Nat} (v : Int32) (h1 : j ≠ 42) (h2 : j ≠ 7) (h3 : j ≠ 6) : Q38 c (x_up m 46 j v) := by
  obtain ⟨a, b, d⟩ := h
  refine ⟨?_, ?_, ?_⟩
  · unfold RNn at *
    rw [x_up_at, if_neg (Ne.symm h1), x_up_ne (by decide)]
    exact a
  · rw [x_up_at, if_neg (Ne.symm h2)]; exact b
  · rw [x_up_at, if_neg (Ne.symm h3)]; exact d
theorem R.q {n : Nat} {c m : x_S} (h : R n c m) : Q38 c m := ⟨h.2.2.2.2, h.1.2.2.2.2.2.2.2.1, h.1.2.2.2.2.2.2.1⟩
theorem become_38 {c m m' : x_S} {x r : Int32} (hq : Q38 c m) (h : F_Mod_become x m = some (r, m')) : m' 46 38 = m 46 38 := by
  obtain ⟨c1, m1, b1, b2, b3, b4, b5, b6, b7, b8, b9⟩ := sim_become x hq.1 hq.2.1 hq.2.2
  rw [b2] at h
  cases h
  exact b7 38 (by decide) (by decide)
theorem trips_38 {c m m' : x_S} {r : Int32} (hq : Q38 c m) (h : F_Mod_trips m = some (r, m')) : m' 46 38 = m 46 38 := by
  have hq0 : Q38 c (x_up (x_up (x_up (x_up (x_up m 46 8 0) 46 13 0) 46 16 0) 46 19 0) 46 29 0) := ((((hq.up 0 (by decide) (by decide) (by decide)).up 0 (by decide) (by decide) (by decide)).up 0 (by decide) (by decide) (by decide)).up 0 (by decide) (by decide) (by decide)).up 0 (by decide) (by decide) (by decide)
  have h' : F_Mod_trips_25 (x_up (x_up (x_up (x_up (x_up m 46 8 0) 46 13 0) 46 16 0) 46 19 0) 46 29 0) = some (r, m') := h
  unfold F_Mod_trips_25 at h'
  obtain ⟨r1, c1, g1, g2⟩ := x_bind_some h'
  have e : m' = c1 := by
    unfold F_Mod_trips_30 at g2
    cases g2
    rfl
  rw [e, become_38 hq0 g1]
  simp [x_upc]
theorem enters_38 {c m m' : x_S} {r : Int32} (hq : Q38 c m) (h : F_Mod_enters m = some (r, m')) : m' 46 38 = m 46 38 := by
  have e39 : ∀ m0, Q38 c m0 → F_Mod_enters_39 m0 = some (r, m') → m' 46 38 = m0 46 38 := by
    intro m0 h0 h
    unfold F_Mod_enters_39 at h
    obtain ⟨r1, c1, g1, g2⟩ := x_bind_some h
    have e : m' = c1 := by
      unfold F_Mod_enters_47 at g2
      cases g2
      rfl
    rw [e, become_38 h0 g1]
  have e26 : ∀ m0, Q38 c m0 → F_Mod_enters_26 m0 = some (r, m') → m' 46 38 = m0 46 38 := by
    intro m0 h0 h
    unfold F_Mod_enters_26 at h
    by_cases w : m0 46 11 = 2
    · rw [if_pos w] at h
      rw [e39 _ (h0.up 0 (by decide) (by decide) (by decide)) h]
      simp [x_upc]
    · rw [if_neg w] at h
      exact e39 _ h0 h
  unfold F_Mod_enters at h
  by_cases w : m 46 11 = 3
  · rw [if_pos w] at h
    by_cases w2 : m 46 6 = 3
    · rw [if_pos w2] at h
      exact e26 _ hq h
    · rw [if_neg w2] at h
      unfold F_Mod_enters_21 at h
      rw [e26 _ ((hq.up 1 (by decide) (by decide) (by decide)).up 0 (by decide) (by decide) (by decide)) h]
      simp [x_upc]
  · rw [if_neg w] at h
    exact e26 _ hq h
theorem sim_obey {n : Nat} {c m : x_S} {kd pl : Int32} (hR : R n c m) (q0 : m 46 38 = 0) (hcame : ∀ s, s < 6 → c 25 s = m 60 s) (hDT : ∀ s, s < 6 → m 60 s ≠ 0 → DT s c m) (k4 : c 24 4 = kd) (k9 : kd = 9 → c 24 6 = pl ∧ x_bd pl 0 327670) (k3 : kd = 3 → m 60 1 ≠ 0) (room : m 60 4 ≠ 0 → ∀ k, k ≤ 6 → m 46 24 = nI k → Room k m) : ∃ c' m', F_G_obeyReceived c = some (0, c') ∧ F_Mod_take kd pl m = some (0, m') ∧ R n c' m' ∧ m' 46 38 = 0 := by
  have hR0 := hR
  obtain ⟨hE, hA, hV, hD, hN⟩ := hR
  obtain ⟨e1, e2, e3, e4, e5, e6, e7, e8, e9, e10, e11, e12, e13, e14, e15, e16, e17, e18, e19, e20, e21, e22, e23⟩ := hE
  obtain ⟨v1, v2, v3, v4, v5, v6, v7, v8, v9, v10, v11⟩ := hV
  obtain ⟨dP, dG, dM, dR, dB⟩ := hD
  unfold F_G_obeyReceived F_Mod_take
  rw [k4]
  by_cases k16 : kd = 16
  · rw [if_pos k16, if_pos k16]
    obtain ⟨c1, m1, t1, t2, t3⟩ := sim_trip hR0.1 hR0.2.2.1 dR dB hN
    exact ⟨c1, m1, by rw [x_bind_eq t1]; rfl, by rw [x_bind_eq t2]; rfl, t3, (trips_38 hR0.q t2).trans q0⟩
  rw [if_neg k16, if_neg k16]
  by_cases kd9 : kd = 9
  · rw [if_pos kd9, if_pos kd9]
    obtain ⟨p1, p2⟩ := k9 kd9
    refine ⟨x_up c 2 5 (c 24 6), x_up m 46 9 pl, rfl, rfl, ?_, by simp [x_upc]; exact q0⟩
    refine hR0.upd (fun p z0 z1 z2 z3 z4 z5 => x_up_ne z2) (fun p z0 z1 => x_up_ne z0) ?_ ?_ ?_ ?_
    · refine ⟨?_, ?_, ?_, ?_, ?_, ?_, ?_, ?_, ?_, ?_, ?_, ?_, ?_, ?_, ?_, ?_, ?_, ?_, ?_, ?_, ?_, ?_, ?_⟩ <;> simp [x_up_ne, x_up_at, p1, e1, e2, e3, e4, e5, e6, e7, e8, e9, e11, e12, e13, e14, e15, e16, e17, e18, e19, e20, e21, e22, e23]
    · unfold RA at *; simp [x_up_ne, x_up_at]; exact hA
    · unfold RV
      simp only [x_up_at]
      simp
      exact ⟨v1, v2, v3, v4, v5, v6, p2, v8, v9, v10, v11⟩
    · unfold RNn at *; simp [x_up_ne, x_up_at]; exact hN
  rw [if_neg kd9, if_neg kd9]
  obtain ⟨k, kk1, kk2, -⟩ := id dR
  have hm24 : m 46 24 = nI k := e23.symm.trans kk2
  have hRR : RRs k c m := ⟨kk1, kk2, hm24, by rw [← kk2]; exact dR⟩
  -- one that ended
  obtain ⟨k1, c1, m1, s1, s2, s3, s4, s5, s6⟩ : ∃ k1 c1 m1, F_Trk_put (c 1 0) c = F_Trk_put_20 (c 1 0) c1 ∧ (x_ix (5 : Int32) 6 (fun j3 => if m 60 j3 = 0 then F_Mod_take_43 kd m else x_bind (F_Mod_told 5 0 0 m) (fun r5 c5 => F_Mod_take_40 kd r5 c5))) = F_Mod_take_43 kd m1 ∧ RRs k1 c1 m1 ∧ Fr rC c c1 ∧ Fr rM m m1 ∧ (m 60 4 ≠ 0 → k1 < 6 ∨ ∃ i, i < k1 ∧ m1 55 i = m 62 84) := by
    unfold F_Trk_put
    rw [x_ix_lit (x := 5) 5 rfl (by omega) (by omega), x_ix_lit (x := 5) 5 rfl (by omega) (by omega), hcame 5 (by omega)]
    by_cases w : m 60 5 = 0
    · rw [if_pos w, if_pos w]
      refine ⟨k, c, m, rfl, rfl, hRR, Fr.rfl, Fr.rfl, fun y => ?_⟩
      rcases room y k kk1 hm24 with u | u | u
      · exact Or.inl u
      · exact Or.inr u
      · exact absurd w u.1
    · rw [if_neg w, if_neg w, x_bind_eq (show F_Mod_told 5 0 0 m = some (m 62 105, m) from mod_told 5 0 0 (by omega) (by omega) (by omega))]
      have e5' : c 24 13 = m 62 105 := hDT 5 (by omega) w
      obtain ⟨k1, c1, m1, a1, a2, a3, a4, a5, a6, a7, a8, a9⟩ := sim_drop hRR (m 62 105)
      rw [e5', x_bind_eq a1]
      unfold F_Mod_take_40
      rw [x_bind_eq a2]
      refine ⟨k1, c1, m1, rfl, rfl, a3, a8, a9, fun y => ?_⟩
      rcases room y k kk1 hm24 with u | u | u
      · exact Or.inl (by omega)
      · by_cases e : m 62 84 = m 62 105
        · rw [e] at u
          exact Or.inl (by have := a5 u; omega)
        · exact Or.inr (a7 _ e u)
      · exact Or.inl (by have := a5 u.2; omega)
  rw [s1, s2]
  -- one that comes
  obtain ⟨k2, c2, m2, t1, t2, t3, t4, t5⟩ : ∃ k2 c2 m2, F_Trk_put_20 (c 1 0) c1 = F_Trk_put_52 (c 1 0) c2 ∧ F_Mod_take_43 kd m1 = F_Mod_take_137 kd m2 ∧ RRs k2 c2 m2 ∧ Fr rC c c2 ∧ Fr rM m m2 := by
    unfold F_Trk_put_20 F_Mod_take_43
    rw [x_ix_lit (x := 4) 4 rfl (by omega) (by omega), x_ix_lit (x := 4) 4 rfl (by omega) (by omega), s4 25 4 (by unfold rC; omega), hcame 4 (by omega), s5 60 4 (by unfold rM; omega)]
    by_cases w : m 60 4 = 0
    · rw [if_pos w, if_pos w]
      exact ⟨k1, c1, m1, rfl, rfl, s3, s4, s5⟩
    · rw [if_neg w, if_neg w]
      have d4 : D4 c1 m1 := DT.keep (t := 4) (by omega) (hDT 4 (by omega) w) (fun q j y => s4 q j (by unfold oC at y; unfold rC; omega)) (fun q j y => s5 q j (by unfold oM at y; unfold rM; omega))
      have m84 : m1 62 84 = m 62 84 := s5 62 84 (by unfold rM; omega)
      obtain ⟨k2, c2, m2, a1, a2, a3, a4, a5⟩ := sim_put s3 d4 (by rw [m84]; exact s6 w) kd
      rw [x_bind_eq a1, x_bind_eq (show F_Mod_told 4 0 0 m1 = some (m1 62 84, m1) from mod_told 4 0 0 (by omega) (by omega) (by omega)), a2]
      exact ⟨k2, c2, m2, rfl, rfl, a3, s4.trans a4, s5.trans a5⟩
  rw [t1, t2]
  have cr : ∀ q j, (q < 12 ∨ 16 < q) → c2 q j = c q j := fun q j hq => t4 q j (by unfold rC; omega)
  have mr : ∀ q j, (q < 46 ∨ (46 < q ∧ q < 55) ∨ 58 < q ∨ (q = 46 ∧ j ≠ 24)) → m2 q j = m q j := fun q j hq => t5 q j (by unfold rM; omega)
  -- how many there are
  obtain ⟨kM, hM1, hM2, hM3⟩ : ∃ kM, kM ≤ 7 ∧ (if m 60 0 = 0 then m 46 19 else m 61 0) = nI kM ∧ (m 60 0 ≠ 0 → DM kM c m) := by
    by_cases w : m 60 0 = 0
    · rw [if_pos w]
      obtain ⟨kM, y1, y2, y3⟩ := dM
      exact ⟨kM, y1, e22.symm.trans y2, fun y => absurd w y⟩
    · rw [if_neg w]
      obtain ⟨kM, y1, y2, y3⟩ := hDT 0 (by omega) w
      exact ⟨kM, y1, y2, fun _ => y3⟩
  obtain ⟨kG, hG1, hG2, hG3⟩ : ∃ kG, kG ≤ 7 ∧ (if m 60 2 = 0 then m 46 16 else m 61 2) = nI kG ∧ (m 60 2 ≠ 0 → DS 2 31 kG 63 c m) := by
    by_cases w : m 60 2 = 0
    · rw [if_pos w]
      obtain ⟨kG, y1, y2, y3⟩ := dG
      exact ⟨kG, y1, e21.symm.trans y2, fun y => absurd w y⟩
    · rw [if_neg w]
      obtain ⟨kG, y1, y2, y3⟩ := hDT 2 (by omega) w
      exact ⟨kG, y1, y2, fun _ => y3⟩
  obtain ⟨kP, hP1, hP2, hP3⟩ : ∃ kP, kP ≤ 7 ∧ (if m 60 3 = 0 then m 46 13 else m 61 3) = nI kP ∧ (m 60 3 ≠ 0 → DS 3 35 kP 600 c m) := by
    by_cases w : m 60 3 = 0
    · rw [if_pos w]
      obtain ⟨kP, y1, y2, y3⟩ := dP
      exact ⟨kP, y1, e20.symm.trans y2, fun y => absurd w y⟩
    · rw [if_neg w]
      obtain ⟨kP, y1, y2, y3⟩ := hDT 3 (by omega) w
      exact ⟨kP, y1, y2, fun _ => y3⟩
  have c25 : ∀ s, s < 6 → c2 25 s = m 60 s := fun s hs => (cr 25 s (by omega)).trans (hcame s hs)
  obtain ⟨c3, x0, x1, x2, x3, x4, x5, x6, x7, x8, x9⟩ := cls_put (c := c2) (x2 := c 1 0) (kM := kM) (kG := kG) (kP := kP) (fun y => ⟨hM1, by rw [cr 26 4 (by omega)]; rw [c25 0 (by omega)] at y; exact (hM3 y).1⟩) (fun y => ⟨hG1, by rw [cr 31 3 (by omega)]; rw [c25 2 (by omega)] at y; exact (hG3 y).1⟩) (fun y => ⟨hP1, by rw [cr 35 3 (by omega)]; rw [c25 3 (by omega)] at y; exact (hP3 y).1⟩)
  rw [c25 1 (by omega)] at x2 x3
  rw [c25 3 (by omega)] at x4 x5
  rw [c25 2 (by omega)] at x6 x7
  rw [c25 0 (by omega)] at x8 x9
  obtain ⟨m3, y0, y1, y2, y3, y4, y5, y6, y7, y8, y9, y10⟩ := mod_lists (m := m2) hM1 hG1 hP1 (by rw [mr 60 0 (by omega), mr 46 19 (by omega), mr 61 0 (by omega)]; exact hM2) (by rw [mr 60 2 (by omega), mr 46 16 (by omega), mr 61 2 (by omega)]; exact hG2) (by rw [mr 60 3 (by omega), mr 46 13 (by omega), mr 61 3 (by omega)]; exact hP2)
  rw [mr 60 0 (by omega)] at y5 y6
  rw [mr 60 2 (by omega)] at y7 y8
  rw [mr 60 3 (by omega)] at y9 y10
  have m62 : ∀ j, m2 62 j = m 62 j := fun j => mr 62 j (by omega)
  unfold F_Mod_take_137
  rw [x_bind_eq x0, x_bind_eq y0]
  -- the authority
  obtain ⟨m4, z0, z1, z2, z3⟩ : ∃ m4, F_Mod_take_141 kd m3 = F_Mod_take_188 kd m4 ∧ Fr (fun q j => q = 46 ∧ 8 ≤ j ∧ j ≤ 11) m3 m4 ∧ (m 60 1 = 0 → m4 = m3) ∧ (m 60 1 ≠ 0 → m4 46 8 = 1 ∧ m4 46 9 = m 62 21 ∧ m4 46 10 = m 62 22 ∧ m4 46 11 = m 62 23) := by
    have m362 : ∀ j, m3 62 j = m 62 j := fun j => (y1 62 j (by omega)).trans (m62 j)
    unfold F_Mod_take_141
    rw [x_ix_lit (x := 1) 1 rfl (by omega) (by omega), y1 60 1 (by omega), mr 60 1 (by omega)]
    by_cases w : m 60 1 = 0
    · rw [if_pos w]
      exact ⟨m3, rfl, Fr.rfl, fun _ => rfl, fun y => absurd w y⟩
    · rw [if_neg w]
      have tl : ∀ (m' : x_S) (t : Nat), t < 3 → F_Mod_told (nI 1) (nI 0) (nI t) m' = some (m' 62 (21 + t), m') := fun m' t ht => by
        rw [mod_told 1 0 t (by omega) (by omega) ht]
      refine ⟨x_up (x_up (x_up (x_up m3 46 8 1) 46 9 (m 62 21)) 46 10 (m 62 22)) 46 11 (m 62 23), ?_, ?_, fun y => absurd y w, fun _ => by simp [x_upc]⟩
      · unfold F_Mod_take_155
        rw [x_bind_eq (show F_Mod_told 1 0 0 (x_up m3 46 8 1) = some (x_up m3 46 8 1 62 21, _) from tl _ 0 (by omega)), x_up_ne (show (62 : Nat) ≠ 46 by decide), m362]
        unfold F_Mod_take_163 F_Mod_take_166
        rw [x_bind_eq (show F_Mod_told 1 0 1 (x_up (x_up m3 46 8 1) 46 9 (m 62 21)) = some (x_up (x_up m3 46 8 1) 46 9 (m 62 21) 62 22, _) from tl _ 1 (by omega)), x_up_ne (show (62 : Nat) ≠ 46 by decide), x_up_ne (show (62 : Nat) ≠ 46 by decide), m362]
        unfold F_Mod_take_174 F_Mod_take_177
        rw [x_bind_eq (show F_Mod_told 1 0 2 (x_up (x_up (x_up m3 46 8 1) 46 9 (m 62 21)) 46 10 (m 62 22)) = some (x_up (x_up (x_up m3 46 8 1) 46 9 (m 62 21)) 46 10 (m 62 22) 62 23, _) from tl _ 2 (by omega)), x_up_ne (show (62 : Nat) ≠ 46 by decide), x_up_ne (show (62 : Nat) ≠ 46 by decide), x_up_ne (show (62 : Nat) ≠ 46 by decide), m362]
        rfl
      · refine Fr.trans (Fr.trans (Fr.trans (Fr.up ?_) (Fr.up ?_)) (Fr.up ?_)) (Fr.up ?_) <;> omega
  rw [z0]
  -- cells of both
  have C : ∀ q j, (q < 2 ∨ q = 11 ∨ 21 < q) → c3 q j = c q j := fun q j hq => (x1 q j (by omega)).trans (cr q j (by omega))
  have Cr : ∀ q j, (12 ≤ q ∧ q ≤ 16) → c3 q j = c2 q j := fun q j hq => x1 q j (by omega)
  have Mo : ∀ q j, (58 < q ∨ (q = 46 ∧ (j < 8 ∨ j = 12 ∨ j = 14 ∨ j = 15 ∨ j = 17 ∨ j = 18 ∨ (19 < j ∧ j < 24) ∨ 24 < j))) → m4 q j = m q j := fun q j hq => ((z1 q j (by omega)).trans (y1 q j (by omega))).trans (mr q j (by omega))
  have Mm : ∀ q j, (46 < q) → m4 q j = m3 q j := fun q j hq => z1 q j (by omega)
  have Mr : ∀ q j, (55 ≤ q ∧ q ≤ 58) → m4 q j = m2 q j := fun q j hq => (z1 q j (by omega)).trans (y1 q j (by omega))
  have m24 : m4 46 24 = m2 46 24 := (z1 46 24 (by omega)).trans (y1 46 24 (by omega))
  have m13 : m4 46 13 = nI kP := (z1 46 13 (by omega)).trans y4
  have m16 : m4 46 16 = nI kG := (z1 46 16 (by omega)).trans y3
  have m19 : m4 46 19 = nI kM := (z1 46 19 (by omega)).trans y2
  have c33 : c3 3 3 = nI kP := by
    by_cases w : m 60 3 = 0
    · rw [x4 w 3 3 (by omega) (by omega), cr 3 3 (by omega), e20]
      rw [if_pos w] at hP2
      exact hP2
    · exact (x5 w).1
  have c73 : c3 7 3 = nI kG := by
    by_cases w : m 60 2 = 0
    · rw [x6 w 7 3 (by omega) (by omega), cr 7 3 (by omega), e21]
      rw [if_pos w] at hG2
      exact hG2
    · exact (x7 w).1
  have c174 : c3 17 4 = nI kM := by
    by_cases w : m 60 0 = 0
    · rw [x8 w 17 4 (by omega) (by omega), cr 17 4 (by omega), e22]
      rw [if_pos w] at hM2
      exact hM2
    · exact (x9 w).1
  have c133 : c3 13 3 = m4 46 24 := by rw [Cr 13 3 (by omega), m24, t3.2.1, t3.2.2.1]
  -- the authority on both sides
  have au : c3 2 4 = m4 46 8 ∧ c3 2 5 = m4 46 9 ∧ c3 2 6 = m4 46 10 ∧ (m4 46 8 ≠ 0 → c3 2 7 = m4 46 11 ∧ (m4 46 11 = 2 ∨ m4 46 11 = 3)) ∧ x_bd (m4 46 9) 0 327670 ∧ x_bd (m4 46 10) 0 1023 := by
    by_cases w : m 60 1 = 0
    · have f : ∀ j, 8 ≤ j → j ≤ 11 → m4 46 j = m 46 j := fun j h1 h2 => by rw [z2 w, y1 46 j (by omega), mr 46 j (by omega)]
      rw [x2 w 4, x2 w 5, x2 w 6, x2 w 7, cr 2 4 (by omega), cr 2 5 (by omega), cr 2 6 (by omega), cr 2 7 (by omega), f 8 (by omega) (by omega), f 9 (by omega) (by omega), f 10 (by omega) (by omega), f 11 (by omega) (by omega)]
      exact ⟨e9, e10, e11, hA, v7, v8⟩
    · obtain ⟨d1, d2, d3, d4, d5, d6⟩ : D1 c m := hDT 1 (by omega) w
      obtain ⟨u1, u2, u3, u4⟩ := x3 w
      obtain ⟨w1, w2, w3, w4⟩ := z3 w
      rw [cr 24 6 (by omega)] at u2
      rw [cr 24 7 (by omega)] at u3
      rw [cr 24 8 (by omega)] at u4
      rw [u1, u2, u3, u4, w1, w2, w3, w4]
      exact ⟨rfl, d1, d2, fun _ => ⟨d3, d6⟩, d4, d5⟩
  obtain ⟨au1, au2, au3, au4, au5, au6⟩ := au
  have hR4 : R n c3 m4 := by
    refine ⟨?_, au4, ?_, ⟨?_, ?_, ?_, ?_, ?_⟩, ?_⟩
    · refine ⟨?_, ?_, ?_, ?_, ?_, ?_, ?_, ?_, au1, au2, au3, ?_, ?_, ?_, ?_, ?_, ?_, ?_, ?_, c33.trans m13.symm, c73.trans m16.symm, c174.trans m19.symm, c133⟩
      · rw [C 0 0 (by omega), Mo 46 2 (by omega)]; exact e1
      · rw [C 42 0 (by omega), Mo 46 0 (by omega)]; exact e2
      · rw [C 42 1 (by omega), Mo 46 1 (by omega)]; exact e3
      · rw [C 1 0 (by omega), Mo 46 3 (by omega)]; exact e4
      · rw [C 1 1 (by omega), Mo 46 4 (by omega)]; exact e5
      · rw [C 1 2 (by omega), Mo 46 5 (by omega)]; exact e6
      · rw [C 0 8 (by omega), Mo 46 6 (by omega)]; exact e7
      · rw [C 0 10 (by omega), Mo 46 7 (by omega)]; exact e8
      · rw [C 0 9 (by omega), Mo 46 12 (by omega)]; exact e12
      · rw [C 0 12 (by omega), Mo 46 29 (by omega)]; exact e13
      · rw [C 0 13 (by omega), Mo 46 30 (by omega)]; exact e14
      · rw [C 39 0 (by omega), Mo 46 31 (by omega)]; exact e15
      · rw [C 39 1 (by omega), Mo 46 32 (by omega)]; exact e16
      · rw [C 39 2 (by omega), Mo 46 33 (by omega)]; exact e17
      · rw [C 0 11 (by omega), Mo 46 34 (by omega)]; exact e18
      · rw [C 22 1 (by omega), Mo 46 35 (by omega)]; exact e19
    · refine ⟨?_, ?_, ?_, ?_, ?_, ?_, au5, au6, ?_, ?_, ?_⟩
      · rw [Mo 46 2 (by omega)]; exact v1
      · rw [Mo 46 0 (by omega)]; exact v2
      · rw [Mo 46 1 (by omega)]; exact v3
      · rw [Mo 46 3 (by omega)]; exact v4
      · rw [Mo 46 4 (by omega)]; exact v5
      · rw [Mo 46 5 (by omega)]; exact v6
      · rw [Mo 46 29 (by omega)]; exact v9
      · rw [Mo 46 31 (by omega)]; exact v10
      · rw [Mo 46 32 (by omega)]; exact v11
    · -- the profile
      refine ⟨kP, hP1, c33, fun i hi => ?_⟩
      by_cases w : m 60 3 = 0
      · rw [if_pos w] at hP2
        obtain ⟨k', g1, g2, g3⟩ := dP
        have ek : k' = kP := (nI_eq (by omega) (by omega)).mp (by rw [← g2, e20, hP2])
        subst ek
        have f : ∀ q j, 47 ≤ q → q ≤ 48 → m4 q j = m q j := fun q j h1 h2 => by rw [Mm q j (by omega), y9 w q j h1 h2, mr q j (by omega)]
        rw [x4 w 4 i (by omega) (by omega), x4 w 5 i (by omega) (by omega), x4 w 6 i (by omega) (by omega), cr 4 i (by omega), cr 5 i (by omega), cr 6 i (by omega), f 47 i (by omega) (by omega), f 47 (i + 1) (by omega) (by omega), f 48 i (by omega) (by omega)]
        exact g3 i hi
      · obtain ⟨g1, g2⟩ := hP3 w
        obtain ⟨a1, a2, a3, a4, a5, a6, a7⟩ := g2 i hi
        obtain ⟨b1, b2, b3⟩ := (x5 w).2 i hi
        obtain ⟨d1, d2⟩ := y10 w i hi
        rw [b1, b2, b3, cr 36 i (by omega), cr 37 i (by omega), cr 38 i (by omega), Mm 47 i (by omega), Mm 48 i (by omega), d1, d2, m62, m62]
        refine ⟨a1, a2, a3, a4, a5, a6, ?_⟩
        have a7 : c 37 i = if i + 1 < kP then m 62 (21 * 3 + 3 * (i + 1)) - 1 else 2147483647 := a7
        rw [a7]
        by_cases u : i + 1 < kP
        · rw [if_pos u, if_pos u, Mm 47 (i + 1) (by omega), (y10 w (i + 1) u).1, m62]
        · rw [if_neg u, if_neg u]
    · -- the grades
      refine ⟨kG, hG1, c73, fun i hi => ?_⟩
      by_cases w : m 60 2 = 0
      · rw [if_pos w] at hG2
        obtain ⟨k', g1, g2, g3⟩ := dG
        have ek : k' = kG := (nI_eq (by omega) (by omega)).mp (by rw [← g2, e21, hG2])
        subst ek
        have f : ∀ q j, 49 ≤ q → q ≤ 50 → m4 q j = m q j := fun q j h1 h2 => by rw [Mm q j (by omega), y7 w q j h1 h2, mr q j (by omega)]
        rw [x6 w 8 i (by omega) (by omega), x6 w 9 i (by omega) (by omega), x6 w 10 i (by omega) (by omega), cr 8 i (by omega), cr 9 i (by omega), cr 10 i (by omega), f 49 i (by omega) (by omega), f 49 (i + 1) (by omega) (by omega), f 50 i (by omega) (by omega)]
        exact g3 i hi
      · obtain ⟨g1, g2⟩ := hG3 w
        obtain ⟨a1, a2, a3, a4, a5, a6, a7⟩ := g2 i hi
        obtain ⟨b1, b2, b3⟩ := (x7 w).2 i hi
        obtain ⟨d1, d2⟩ := y8 w i hi
        rw [b1, b2, b3, cr 32 i (by omega), cr 33 i (by omega), cr 34 i (by omega), Mm 49 i (by omega), Mm 50 i (by omega), d1, d2, m62, m62]
        refine ⟨a1, a2, a3, a4, a5, a6, ?_⟩
        have a7 : c 33 i = if i + 1 < kG then m 62 (21 * 2 + 3 * (i + 1)) - 1 else 2147483647 := a7
        rw [a7]
        by_cases u : i + 1 < kG
        · rw [if_pos u, if_pos u, Mm 49 (i + 1) (by omega), (y8 w (i + 1) u).1, m62]
        · rw [if_neg u, if_neg u]
    · -- the marks
      refine ⟨kM, hM1, c174, fun i hi => ?_⟩
      by_cases w : m 60 0 = 0
      · rw [if_pos w] at hM2
        obtain ⟨k', g1, g2, g3⟩ := dM
        have ek : k' = kM := (nI_eq (by omega) (by omega)).mp (by rw [← g2, e22, hM2])
        subst ek
        have f : ∀ q j, 51 ≤ q → q ≤ 54 → m4 q j = m q j := fun q j h1 h2 => by rw [Mm q j (by omega), y5 w q j h1 h2, mr q j (by omega)]
        rw [x8 w 18 i (by omega) (by omega), x8 w 19 i (by omega) (by omega), x8 w 20 i (by omega) (by omega), x8 w 21 i (by omega) (by omega), cr 18 i (by omega), cr 19 i (by omega), cr 20 i (by omega), cr 21 i (by omega), f 51 i (by omega) (by omega), f 52 i (by omega) (by omega), f 53 i (by omega) (by omega), f 54 i (by omega) (by omega)]
        exact g3 i hi
      · obtain ⟨g1, g2⟩ := hM3 w
        obtain ⟨a1, a2, a3, a4, a5, a6, a7⟩ := g2 i hi
        obtain ⟨b1, b2, b3, b4⟩ := (x9 w).2 i hi
        obtain ⟨d1, d2, d3, d4⟩ := y6 w i hi
        rw [b1, b2, b3, b4, cr 27 i (by omega), cr 28 i (by omega), cr 29 i (by omega), Mm 51 i (by omega), Mm 52 i (by omega), Mm 53 i (by omega), Mm 54 i (by omega), d1, d2, d3, d4, m62, m62, m62, mr 46 3 (by omega), a1, a2, a3, e4]
        refine ⟨rfl, rfl, rfl, ?_, a4, a5, a6, a7⟩
        by_cases u : m 62 (3 * i) + m 62 (3 * i + 2) < m 46 3
        · rw [if_pos u, bl_pos (by rw [Int32.lt_iff_toInt_lt] at u; rw [Int32.le_iff_toInt_le]; omega)]
        · rw [if_neg u, bl_neg (by rw [Int32.lt_iff_toInt_lt] at u; rw [Int32.le_iff_toInt_le]; omega)]
    · -- the restrictions
      obtain ⟨w1, w2, w3, w4⟩ := t3
      have f : ∀ q, 12 ≤ q ∧ q ≤ 16 → c3 q = c2 q := fun q hq => funext fun j => Cr q j hq
      have g : ∀ q, 55 ≤ q ∧ q ≤ 58 → m4 q = m2 q := fun q hq => funext fun j => Mr q j hq
      rw [f 13 (by omega), f 12 (by omega), f 14 (by omega), f 15 (by omega), f 16 (by omega), g 55 (by omega), g 56 (by omega), g 57 (by omega), g 58 (by omega), w2]
      exact w4
    · -- the bits
      have f : ∀ q, 21 < q → c3 q = c q := fun q hq => funext fun j => C q j (by omega)
      have g : ∀ q, 58 < q → m4 q = m q := fun q hq => funext fun j => Mo q j (by omega)
      rw [f 22 (by omega), f 23 (by omega), g 59 (by omega)]
      exact dB
    · have f : ∀ q, 21 < q → c3 q = c q := fun q hq => funext fun j => C q j (by omega)
      have g : ∀ q, 58 < q → m4 q = m q := fun q hq => funext fun j => Mo q j (by omega)
      unfold RNn at *
      rw [f 40 (by omega), f 41 (by omega), g 63 (by omega), Mo 46 42 (by omega)]
      exact hN
  have q4 : m4 46 38 = 0 := by rw [Mo 46 38 (by omega)]; exact q0
  -- the mode
  have A4 : c3 24 4 = kd := by rw [C 24 4 (by omega)]; exact k4
  have A8 : c3 0 8 = m4 46 6 := hR4.1.2.2.2.2.2.2.1
  have c66 : F_G_obeyReceived_66 c3 = F_G_obeyReceived_86 (bl (m4 46 6 = 1 ∨ GD (m4 46 6))) c3 := by
    unfold F_G_obeyReceived_66 F_G_obeyReceived_81
    rw [A8]
    by_cases w : m4 46 6 = 1
    · rw [if_pos w, bl_pos (Or.inl w)]
    · rw [if_neg w, x_bind_eq (cls_guided c3), A8]
      unfold F_G_obeyReceived_78 F_G_obeyReceived_81
      by_cases u : GD (m4 46 6)
      · rw [bl_pos u, if_neg (by decide), bl_pos (Or.inr u)]
      · rw [bl_neg u, if_pos rfl, bl_neg (fun y => y.elim w u)]
  rw [c66]
  unfold F_G_obeyReceived_86 F_Mod_take_188
  rw [A4, m13]
  by_cases kd3 : kd = 3
  · rw [if_pos kd3, if_pos kd3]
    have ha : m4 46 8 ≠ 0 := by rw [(z3 (k3 kd3)).1]; decide
    by_cases u : m4 46 6 = 1 ∨ GD (m4 46 6)
    · rw [bl_pos u, if_neg (show ¬ (1 : Int32) = 0 by decide), x_bind_eq (cls_empty hP1 c33)]
      unfold F_G_obeyReceived_112
      by_cases kp : kP = 0
      · rw [bl_pos kp, if_neg (show ¬ (1 : Int32) = 0 by decide), if_pos (by rw [kp]; decide)]
        exact ⟨c3, m4, rfl, rfl, hR4, q4⟩
      · rw [bl_neg kp, if_pos rfl, if_neg (nI_nle (by omega) (by omega))]
        obtain ⟨c5, m5, g1, g2, g3⟩ := sim_enter hR4 ha
        have hm : (if m4 46 6 = 1 then F_Mod_take_215 m4 else x_bind (F_Mod_watched m4) (fun r4 c4 => F_Mod_take_212 r4 c4)) = F_Mod_take_215 m4 := by
          by_cases w : m4 46 6 = 1
          · rw [if_pos w]
          · rw [if_neg w, x_bind_eq (mod_guided m4), bl_pos (u.elim (fun y => absurd y w) id)]
            unfold F_Mod_take_212
            rw [if_neg (by decide)]
        rw [hm]
        unfold F_Mod_take_215
        rw [x_bind_eq g1, x_bind_eq g2]
        exact ⟨c5, m5, rfl, rfl, g3, (enters_38 hR4.q g2).trans q4⟩
    · rw [bl_neg u, if_pos rfl]
      refine ⟨c3, m4, rfl, ?_, hR4, q4⟩
      by_cases kp : nI kP ≤ 0
      · rw [if_pos kp]; rfl
      · rw [if_neg kp, if_neg (fun y => u (Or.inl y)), x_bind_eq (mod_guided m4), bl_neg (fun y => u (Or.inr y))]
        unfold F_Mod_take_212
        rw [if_pos rfl]
        rfl
  · rw [if_neg kd3, if_neg kd3]
    exact ⟨c3, m4, rfl, rfl, hR4, q4⟩
