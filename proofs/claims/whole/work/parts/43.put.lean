/-! what a message changes: the track -/
theorem cls_put {c : x_S} {x2 : Int32} {kM kG kP : Nat} (hM : c 25 0 ≠ 0 → kM ≤ 7 ∧ c 26 4 = nI kM) (hG : c 25 2 ≠ 0 → kG ≤ 7 ∧ c 31 3 = nI kG) (hP : c 25 3 ≠ 0 → kP ≤ 7 ∧ c 35 3 = nI kP) : ∃ c', F_Trk_put_52 x2 c = some (0, c') ∧ Fr (fun q _ => (2 ≤ q ∧ q ≤ 10) ∨ (17 ≤ q ∧ q ≤ 21)) c c' ∧
    (c 25 1 = 0 → ∀ j, c' 2 j = c 2 j) ∧ (c 25 1 ≠ 0 → c' 2 4 = 1 ∧ c' 2 5 = c 24 6 ∧ c' 2 6 = c 24 7 ∧ c' 2 7 = c 24 8) ∧
    (c 25 3 = 0 → ∀ q j, 3 ≤ q → q ≤ 6 → c' q j = c q j) ∧ (c 25 3 ≠ 0 → c' 3 3 = nI kP ∧ ∀ t, t < kP → c' 4 t = c 36 t ∧ c' 5 t = c 37 t ∧ c' 6 t = c 38 t) ∧
    (c 25 2 = 0 → ∀ q j, 7 ≤ q → q ≤ 10 → c' q j = c q j) ∧ (c 25 2 ≠ 0 → c' 7 3 = nI kG ∧ ∀ t, t < kG → c' 8 t = c 32 t ∧ c' 9 t = c 33 t ∧ c' 10 t = c 34 t) ∧
    (c 25 0 = 0 → ∀ q j, 17 ≤ q → q ≤ 21 → c' q j = c q j) ∧ (c 25 0 ≠ 0 → c' 17 4 = nI kM ∧ ∀ t, t < kM → c' 18 t = c 27 t ∧ c' 19 t = c 28 t ∧ c' 20 t = c 29 t ∧ c' 21 t = if c 27 t + c 29 t < x2 then 1 else 0) := by
  -- the authority
  obtain ⟨c1, a1, a2, a3, a4⟩ : ∃ c1, F_Trk_put_52 x2 c = F_Trk_put_90 x2 c1 ∧ Fr (fun q _ => q = 2) c c1 ∧ (c 25 1 = 0 → ∀ j, c1 2 j = c 2 j) ∧ (c 25 1 ≠ 0 → c1 2 4 = 1 ∧ c1 2 5 = c 24 6 ∧ c1 2 6 = c 24 7 ∧ c1 2 7 = c 24 8) := by
    unfold F_Trk_put_52
    rw [x_ix_lit (x := 1) 1 rfl (by omega) (by omega)]
    by_cases w : c 25 1 = 0
    · rw [if_pos w]
      exact ⟨c, rfl, Fr.rfl, fun _ _ => rfl, fun y => absurd w y⟩
    · rw [if_neg w]
      refine ⟨x_up (x_up (x_up (x_up c 2 4 1) 2 5 (c 24 6)) 2 6 (c 24 7)) 2 7 (c 24 8), ?_, ?_, fun y => absurd y w, fun _ => ?_⟩
      · unfold F_Trk_put_66 F_Trk_put_74 F_Trk_put_82
        simp only [x_up_ne (show (24 : Nat) ≠ 2 by decide)]
      · exact Fr.trans (Fr.trans (Fr.trans (Fr.up rfl) (Fr.up rfl)) (Fr.up rfl)) (Fr.up rfl)
      · simp [x_upc]
  have k1 : ∀ q j, q ≠ 2 → c1 q j = c q j := fun q j hq => a2 q j hq
  -- the profile
  obtain ⟨c2, b1, b2, b3, b4⟩ : ∃ c2, F_Trk_put_90 x2 c1 = F_Trk_put_110 x2 c2 ∧ Fr (fun q _ => 3 ≤ q ∧ q ≤ 6) c1 c2 ∧ (c 25 3 = 0 → c2 = c1) ∧ (c 25 3 ≠ 0 → c2 3 3 = nI kP ∧ ∀ t, t < kP → c2 4 t = c 36 t ∧ c2 5 t = c 37 t ∧ c2 6 t = c 38 t) := by
    unfold F_Trk_put_90
    rw [x_ix_lit (x := 3) 3 rfl (by omega) (by omega), k1 25 3 (by decide)]
    by_cases w : c 25 3 = 0
    · rw [if_pos w]
      exact ⟨c1, rfl, Fr.rfl, fun _ => rfl, fun y => absurd w y⟩
    · rw [if_neg w]
      obtain ⟨h1, h2⟩ := hP w
      obtain ⟨c2, g1, g2, g3, g4⟩ := spn_copy (p0 := 3) (p1 := 35) (c := c1) (by omega) h1 (by rw [k1 35 3 (by decide)]; exact h2)
      rw [x_bind_eq g1]
      refine ⟨c2, rfl, g2, fun y => absurd y w, fun _ => ⟨g3, fun t ht => ?_⟩⟩
      obtain ⟨y1, y2, y3⟩ := g4 t ht
      exact ⟨y1.trans (k1 36 t (by decide)), y2.trans (k1 37 t (by decide)), y3.trans (k1 38 t (by decide))⟩
  have k2 : ∀ q j, (q < 2 ∨ 6 < q) → c2 q j = c q j := fun q j hq => (b2 q j (by omega)).trans (k1 q j (by omega))
  -- the grades
  obtain ⟨c3, d1, d2, d3, d4⟩ : ∃ c3, F_Trk_put_110 x2 c2 = F_Trk_put_130 x2 c3 ∧ Fr (fun q _ => 7 ≤ q ∧ q ≤ 10) c2 c3 ∧ (c 25 2 = 0 → c3 = c2) ∧ (c 25 2 ≠ 0 → c3 7 3 = nI kG ∧ ∀ t, t < kG → c3 8 t = c 32 t ∧ c3 9 t = c 33 t ∧ c3 10 t = c 34 t) := by
    unfold F_Trk_put_110
    rw [x_ix_lit (x := 2) 2 rfl (by omega) (by omega), k2 25 2 (by omega)]
    by_cases w : c 25 2 = 0
    · rw [if_pos w]
      exact ⟨c2, rfl, Fr.rfl, fun _ => rfl, fun y => absurd w y⟩
    · rw [if_neg w]
      obtain ⟨h1, h2⟩ := hG w
      obtain ⟨c3, g1, g2, g3, g4⟩ := spn_copy (p0 := 7) (p1 := 31) (c := c2) (by omega) h1 (by rw [k2 31 3 (by omega)]; exact h2)
      rw [x_bind_eq g1]
      refine ⟨c3, rfl, g2, fun y => absurd y w, fun _ => ⟨g3, fun t ht => ?_⟩⟩
      obtain ⟨y1, y2, y3⟩ := g4 t ht
      exact ⟨y1.trans (k2 32 t (by omega)), y2.trans (k2 33 t (by omega)), y3.trans (k2 34 t (by omega))⟩
  have k3 : ∀ q j, (q < 2 ∨ 10 < q) → c3 q j = c q j := fun q j hq => (d2 q j (by omega)).trans (k2 q j (by omega))
  -- the marks
  obtain ⟨c4, e1, e2, e3, e4⟩ : ∃ c4, F_Trk_put_130 x2 c3 = some (0, c4) ∧ Fr (fun q _ => 17 ≤ q ∧ q ≤ 21) c3 c4 ∧ (c 25 0 = 0 → c4 = c3) ∧ (c 25 0 ≠ 0 → c4 17 4 = nI kM ∧ ∀ t, t < kM → c4 18 t = c 27 t ∧ c4 19 t = c 28 t ∧ c4 20 t = c 29 t ∧ c4 21 t = if c 27 t + c 29 t < x2 then 1 else 0) := by
    unfold F_Trk_put_130
    rw [x_ix_lit (x := 0) 0 rfl (by omega) (by omega), k3 25 0 (by omega)]
    by_cases w : c 25 0 = 0
    · rw [if_pos w]
      exact ⟨c3, rfl, Fr.rfl, fun _ => rfl, fun y => absurd w y⟩
    · rw [if_neg w]
      obtain ⟨h1, h2⟩ := hM w
      obtain ⟨c4, g1, g2, g3, g4⟩ := mrk_copy (p0 := 17) (p1 := 26) (c := c3) (by omega) h1 (by rw [k3 26 4 (by omega)]; exact h2)
      rw [x_bind_eq g1]
      obtain ⟨c5, l1, l2, l3⟩ := cls_passBehind h1 x2 kM 0 x_fuel False c4 (by omega) (by unfold x_fuel; omega) g3
      rw [bl_neg id] at l1
      unfold F_Trk_put_150 F_Mrk_passBehind
      rw [x_bind_eq (show F_Mrk_passBehind_4 17 x_fuel x2 0 0 c4 = _ from l1)]
      refine ⟨c5, rfl, g2.trans (fun q j hq => by rw [l2 q (by omega)]), fun y => absurd y w, fun _ => ⟨by rw [l2 17 (by decide)]; exact g3, fun t ht => ?_⟩⟩
      obtain ⟨y1, y2, y3, y4⟩ := g4 t ht
      have z1 : c4 18 t = c 27 t := y1.trans (k3 27 t (by omega))
      have z2 : c4 19 t = c 28 t := y2.trans (k3 28 t (by omega))
      have z3 : c4 20 t = c 29 t := y3.trans (k3 29 t (by omega))
      have z4 : c4 21 t = 0 := y4
      rw [l2 18 (by decide), l2 19 (by decide), l2 20 (by decide), l3 t, z1, z2, z3, z4]
      refine ⟨rfl, rfl, rfl, ?_⟩
      by_cases y : c 27 t + c 29 t < x2
      · rw [if_pos ⟨by omega, ht, rfl, y⟩, if_pos y]
      · rw [if_neg (fun u => y u.2.2.2), if_neg y]
  refine ⟨c4, by rw [a1, b1, d1, e1], fun q j hq => ?_, fun y j => ?_, fun y => ?_, fun y q j h1 h2 => ?_, fun y => ?_, fun y q j h1 h2 => ?_, fun y => ?_, fun y q j h1 h2 => ?_, fun y => e4 y⟩
  · rw [e2 q j (by omega), k3 q j (by omega)]
  · rw [e2 2 j (by omega), d2 2 j (by omega), b2 2 j (by omega), a3 y j]
  · rw [e2 2 4 (by omega), d2 2 4 (by omega), b2 2 4 (by omega), e2 2 5 (by omega), d2 2 5 (by omega), b2 2 5 (by omega), e2 2 6 (by omega), d2 2 6 (by omega), b2 2 6 (by omega), e2 2 7 (by omega), d2 2 7 (by omega), b2 2 7 (by omega)]
    exact a4 y
  · rw [e2 q j (by omega), d2 q j (by omega), b3 y, k1 q j (by omega)]
  · obtain ⟨z1, z2⟩ := b4 y
    refine ⟨by rw [e2 3 3 (by omega), d2 3 3 (by omega)]; exact z1, fun t ht => ?_⟩
    rw [e2 4 t (by omega), d2 4 t (by omega), e2 5 t (by omega), d2 5 t (by omega), e2 6 t (by omega), d2 6 t (by omega)]
    exact z2 t ht
  · rw [e2 q j (by omega), d3 y, k2 q j (by omega)]
  · obtain ⟨z1, z2⟩ := d4 y
    refine ⟨by rw [e2 7 3 (by omega)]; exact z1, fun t ht => ?_⟩
    rw [e2 8 t (by omega), e2 9 t (by omega), e2 10 t (by omega)]
    exact z2 t ht
  · rw [e3 y, k3 q j (by omega)]
theorem mod_lists {m : x_S} {kM kG kP : Nat} (h0 : kM ≤ 7) (h2 : kG ≤ 7) (h3 : kP ≤ 7) (hM : (if m 60 0 = 0 then m 46 19 else m 61 0) = nI kM) (hG : (if m 60 2 = 0 then m 46 16 else m 61 2) = nI kG) (hP : (if m 60 3 = 0 then m 46 13 else m 61 3) = nI kP) : ∃ m', F_Mod_lists m = some (0, m') ∧ Fr (fun q j => (47 ≤ q ∧ q ≤ 54) ∨ (q = 46 ∧ (j = 13 ∨ j = 16 ∨ j = 19))) m m' ∧ m' 46 19 = nI kM ∧ m' 46 16 = nI kG ∧ m' 46 13 = nI kP ∧
    (m 60 0 = 0 → ∀ q j, 51 ≤ q → q ≤ 54 → m' q j = m q j) ∧ (m 60 0 ≠ 0 → ∀ t, t < kM → m' 51 t = m 62 (3 * t) ∧ m' 52 t = m 62 (3 * t + 1) ∧ m' 53 t = m 62 (3 * t + 2) ∧ m' 54 t = bl (¬ m 46 3 ≤ m 62 (3 * t) + m 62 (3 * t + 2))) ∧
    (m 60 2 = 0 → ∀ q j, 49 ≤ q → q ≤ 50 → m' q j = m q j) ∧ (m 60 2 ≠ 0 → ∀ t, t < kG → m' 49 t = m 62 (42 + 3 * t) ∧ m' 50 t = m 62 (42 + 3 * t + 1)) ∧
    (m 60 3 = 0 → ∀ q j, 47 ≤ q → q ≤ 48 → m' q j = m q j) ∧ (m 60 3 ≠ 0 → ∀ t, t < kP → m' 47 t = m 62 (63 + 3 * t) ∧ m' 48 t = m 62 (63 + 3 * t + 1)) := by
  let M : x_S := x_up (x_up (x_up m 46 19 (nI kM)) 46 16 (nI kG)) 46 13 (nI kP)
  have Mo : ∀ q, q ≠ 46 → M q = m q := fun q hq => by show x_up _ _ _ _ q = _; rw [x_up_ne hq, x_up_ne hq, x_up_ne hq]
  have M3 : M 46 3 = m 46 3 := by simp [M, x_upc]
  have start : F_Mod_lists m = F_Mod_lists_78 M := by
    unfold F_Mod_lists
    rw [x_ix_lit (x := 0) 0 rfl (by omega) (by omega), x_ix_lit (x := 0) 0 rfl (by omega) (by omega)]
    have q1 : (if m 60 0 = 0 then F_Mod_lists_23 (m 46 19) m else F_Mod_lists_23 (m 61 0) m) = F_Mod_lists_23 (nI kM) m := by
      rw [← hM]
      by_cases w : m 60 0 = 0
      · rw [if_pos w, if_pos w]
      · rw [if_neg w, if_neg w]
    rw [q1]
    unfold F_Mod_lists_23 F_Mod_lists_26
    rw [x_ix_lit (x := 2) 2 rfl (by omega) (by omega), x_ix_lit (x := 2) 2 rfl (by omega) (by omega), x_up_ne (show (60 : Nat) ≠ 46 by decide), x_up_ne (show (61 : Nat) ≠ 46 by decide), show x_up m 46 19 (nI kM) 46 16 = m 46 16 by simp [x_upc]]
    have q2 : (if m 60 2 = 0 then F_Mod_lists_49 (m 46 16) (x_up m 46 19 (nI kM)) else F_Mod_lists_49 (m 61 2) (x_up m 46 19 (nI kM))) = F_Mod_lists_49 (nI kG) (x_up m 46 19 (nI kM)) := by
      rw [← hG]
      by_cases w : m 60 2 = 0
      · rw [if_pos w, if_pos w]
      · rw [if_neg w, if_neg w]
    rw [q2]
    unfold F_Mod_lists_49 F_Mod_lists_52
    rw [x_ix_lit (x := 3) 3 rfl (by omega) (by omega), x_ix_lit (x := 3) 3 rfl (by omega) (by omega), x_up_ne (show (60 : Nat) ≠ 46 by decide), x_up_ne (show (60 : Nat) ≠ 46 by decide), x_up_ne (show (61 : Nat) ≠ 46 by decide), x_up_ne (show (61 : Nat) ≠ 46 by decide), show x_up (x_up m 46 19 (nI kM)) 46 16 (nI kG) 46 13 = m 46 13 by simp [x_upc]]
    have q3 : (if m 60 3 = 0 then F_Mod_lists_75 (m 46 13) (x_up (x_up m 46 19 (nI kM)) 46 16 (nI kG)) else F_Mod_lists_75 (m 61 3) (x_up (x_up m 46 19 (nI kM)) 46 16 (nI kG))) = F_Mod_lists_75 (nI kP) (x_up (x_up m 46 19 (nI kM)) 46 16 (nI kG)) := by
      rw [← hP]
      by_cases w : m 60 3 = 0
      · rw [if_pos w, if_pos w]
      · rw [if_neg w, if_neg w]
    rw [q3]
    rfl
  have run := ls_loop (M := M) h0 h2 h3 (by simp [M, x_upc]) (by simp [M, x_upc]) (by simp [M, x_upc]) 7 0 x_fuel (by omega) (by unfold x_fuel; omega)
  rw [xLS_0] at run
  refine ⟨xLS M kM kG kP 7 7 7, start.trans run, fun q j hq => ?_, ?_, ?_, ?_, fun y q j h1 h2 => ?_, fun y t ht => ?_, fun y q j h1 h2 => ?_, fun y t ht => ?_, fun y q j h1 h2 => ?_, fun y t ht => ?_⟩
  · rw [xLS_o (by omega)]
    show x_up _ _ _ _ q j = _
    rw [x_upc, x_upc, x_upc, if_neg (by omega), if_neg (by omega), if_neg (by omega)]
  · rw [xLS_o (by omega)]; simp [M, x_upc]
  · rw [xLS_o (by omega)]; simp [M, x_upc]
  · rw [xLS_o (by omega)]; simp [M, x_upc]
  · unfold xLS
    rw [if_neg (fun u => u.2.2.1 (by rw [Mo 60 (by decide)]; exact y)), if_neg (by omega), if_neg (by omega), Mo q (by omega)]
  · have c0 : M 60 0 ≠ 0 := by rw [Mo 60 (by decide)]; exact y
    unfold xLS
    rw [if_pos ⟨by omega, by omega, c0, by omega, ht⟩, if_pos ⟨by omega, by omega, c0, by omega, ht⟩, if_pos ⟨by omega, by omega, c0, by omega, ht⟩, if_pos ⟨by omega, by omega, c0, by omega, ht⟩]
    unfold xvM
    rw [if_neg (by decide), if_neg (by decide), if_neg (by decide), if_pos rfl, M3, Mo 62 (by decide)]
    exact ⟨rfl, rfl, rfl, rfl⟩
  · unfold xLS
    rw [if_neg (by omega), if_neg (fun u => u.2.2.1 (by rw [Mo 60 (by decide)]; exact y)), if_neg (by omega), Mo q (by omega)]
  · have c0 : M 60 2 ≠ 0 := by rw [Mo 60 (by decide)]; exact y
    unfold xLS
    rw [if_neg (by omega), if_pos ⟨by omega, by omega, c0, by omega, ht⟩, if_neg (by omega), if_pos ⟨by omega, by omega, c0, by omega, ht⟩, Mo 62 (by decide)]
    exact ⟨rfl, rfl⟩
  · unfold xLS
    rw [if_neg (by omega), if_neg (by omega), if_neg (fun u => u.2.2.1 (by rw [Mo 60 (by decide)]; exact y)), Mo q (by omega)]
  · have c0 : M 60 3 ≠ 0 := by rw [Mo 60 (by decide)]; exact y
    unfold xLS
    rw [if_neg (by omega), if_neg (by omega), if_pos ⟨by omega, by omega, c0, by omega, ht⟩, if_neg (by omega), if_neg (by omega), if_pos ⟨by omega, by omega, c0, by omega, ht⟩, Mo 62 (by decide)]
    exact ⟨rfl, rfl⟩
