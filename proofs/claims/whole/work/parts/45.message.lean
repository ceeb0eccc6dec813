/-! a message, both sides -/
theorem R.clear {n : Nat} {c m : x_S} (h : R n c m) : R n (x_up c 22 1 0) (x_up m 46 35 0) := by
  obtain ⟨hE, hA, hV, ⟨d1, d2, d3, d4, d5⟩, hN⟩ := h
  obtain ⟨e1, e2, e3, e4, e5, e6, e7, e8, e9, e10, e11, e12, e13, e14, e15, e16, e17, e18, e19, e20, e21, e22, e23⟩ := hE
  refine ⟨?_, ?_, ?_, ⟨?_, ?_, ?_, ?_, ?_⟩, ?_⟩
  · refine ⟨?_, ?_, ?_, ?_, ?_, ?_, ?_, ?_, ?_, ?_, ?_, ?_, ?_, ?_, ?_, ?_, ?_, ?_, ?_, ?_, ?_, ?_, ?_⟩ <;> simp [x_up_ne, x_up_at, e1, e2, e3, e4, e5, e6, e7, e8, e9, e10, e11, e12, e13, e14, e15, e16, e17, e18, e20, e21, e22, e23]
  · unfold RA at *; simp [x_up_ne, x_up_at]; exact hA
  · unfold RV at *; simp [x_up_at]; exact hV
  · simp [x_up_ne]; exact d1
  · simp [x_up_ne]; exact d2
  · simp [x_up_ne]; exact d3
  · simp [x_up_ne]; exact d4
  · exact ⟨0, by omega, by simp [x_upc]; rfl, fun i hi => absurd hi (by omega)⟩
  · unfold RNn at *; simp [x_up_ne, x_up_at]; exact hN
theorem sim_message {n : Nat} {c m : x_S} (hn : n ≤ 512) (h : R n c m) : x_eqv R n (F_G_message c) (F_Mod_message m) := by
  obtain ⟨z, hz, z1, z2⟩ := h.2.2.2.1.2.2.2.2
  have e19 : c 22 1 = m 46 35 := h.1.2.2.2.2.2.2.2.2.2.2.2.2.2.2.2.2.2.2.1
  have e18 : c 0 11 = m 46 34 := h.1.2.2.2.2.2.2.2.2.2.2.2.2.2.2.2.2.2.1
  obtain ⟨kd, tm, pl, p, c1, m1, a1, a2, a3, a4, a5, a6, a7, a8⟩ := sim_head hz z1 (e19.symm.trans z1) z2 e18
  have hR1 : R n c1 m1 := h.frG a7 a8
  rw [a2]
  unfold F_G_message
  rw [x_bind_eq a1]
  unfold F_G_message_15
  rw [x_bind_eq (show F_Bit_clear c1 = some (0, x_up c1 22 1 0) from rfl)]
  unfold F_G_message_23
  have no : ∀ (r : Int32) (C M : x_S), r ≠ 0 → M 46 38 = r → R n C (x_up M 46 35 0) → x_eqv R n (F_G_message_32 r C) (F_Mod_message_387 kd tm pl M) := by
    intro r C M hr hM hRC
    obtain ⟨c', m', w1, w2, hR', f1, f2⟩ := sim_noted hRC 4 r
    have h38 : x_up M 46 35 0 46 38 = r := by rw [x_up_at, if_neg (by decide)]; exact hM
    unfold F_G_message_32 F_Mod_message_387 F_Mod_message_392
    rw [h38, if_neg hr, if_neg hr, x_bind_eq w1, x_bind_eq w2]
    refine ⟨r, c', m', rfl, ?_, hR'.more⟩
    unfold F_Mod_message_408 F_Mod_message_429
    rw [f2.2 38 (by decide), h38]
  by_cases q0 : m1 46 38 = 0
  · rw [if_pos q0]
    obtain ⟨r, C, f1, f2, f3, f4⟩ := sim_faults (tm := tm) hn hR1 a6 q0 a3 (fun y => (a5 y).1)
    rw [x_bind_eq f1, f2]
    unfold F_G_message_31
    have hRC : R n C (x_up (x_up m1 46 38 r) 46 35 0) := ((hR1.up38 r).clear).fr42 f3
    by_cases r0 : r = 0
    · subst r0
      have M0 : x_up m1 46 38 0 = m1 := x_up_same q0
      rw [M0] at hRC ⊢
      obtain ⟨f5, f6⟩ := f4 rfl
      have Cn : ∀ q, q ≠ 22 → q ≠ 42 → q ≠ 43 → q ≠ 44 → q ≠ 45 → C q = c1 q := fun q y1 y2 y3 y4 y5 => by rw [f3.1 q y2 y3 y4 y5, x_up_ne y1]
      have C4 : C 24 4 = kd := by rw [Cn 24 (by decide) (by decide) (by decide) (by decide) (by decide)]; exact a3
      unfold F_G_message_32 F_Mod_message_387 F_Mod_message_392
      have h38 : x_up m1 46 35 0 46 38 = 0 := by rw [x_up_at, if_neg (by decide)]; exact q0
      rw [if_pos rfl, if_pos h38, C4]
      obtain ⟨c2, m2, w1, w2, hR2, g1, g2⟩ := sim_noted hRC 3 kd
      rw [x_bind_eq w1, x_bind_eq w2]
      unfold F_G_message_56 F_Mod_message_417
      have g1 : ∀ p, p ≠ 40 → p ≠ 41 → c2 p = C p := g1
      have D : ∀ q, 24 ≤ q → q ≤ 38 → c2 q = c1 q := fun q y1 y2 => by rw [g1 q (by omega) (by omega), Cn q (by omega) (by omega) (by omega) (by omega) (by omega)]
      have hM : ∀ q, q ≠ 46 → q ≠ 63 → m2 q = m1 q := fun q y1 y2 => by rw [g2.1 q y1 y2, x_up_ne y1]
      have c5 : c2 24 5 = tm := by rw [D 24 (by omega) (by omega)]; exact a4
      rw [c5]
      have hR3 : R n (x_up c2 0 11 tm) (x_up m2 46 34 tm) := by
        obtain ⟨hE, hA, hV, hD, hN⟩ := hR2
        have hR2 : R n c2 m2 := ⟨hE, hA, hV, hD, hN⟩
        obtain ⟨e1, e2, e3, e4, e5, e6, e7, e8, e9, e10, e11, e12, e13, e14, e15, e16, e17, e18, e19, e20, e21, e22, e23⟩ := hE
        refine hR2.upd (fun p z0 z1 z2 z3 z4 z5 => x_up_ne z0) (fun p z0 z1 => x_up_ne z0) ?_ ?_ ?_ ?_
        · refine ⟨?_, ?_, ?_, ?_, ?_, ?_, ?_, ?_, ?_, ?_, ?_, ?_, ?_, ?_, ?_, ?_, ?_, ?_, ?_, ?_, ?_, ?_, ?_⟩ <;> simp [x_up_ne, x_up_at, e1, e2, e3, e4, e5, e6, e7, e8, e9, e10, e11, e12, e13, e14, e15, e16, e17, e19, e20, e21, e22, e23]
        · unfold RA at *; simp [x_up_ne, x_up_at]; exact hA
        · unfold RV at *; simp [x_up_at]; exact hV
        · unfold RNn at *; simp [x_up_ne, x_up_at]; exact hN
      have cc : ∀ q j, 24 ≤ q → q ≤ 38 → x_up c2 0 11 tm q j = c1 q j := fun q j y1 y2 => by rw [x_up_ne (by omega), D q y1 y2]
      have mm : ∀ q j, 47 ≤ q → q ≤ 62 → x_up m2 46 34 tm q j = m1 q j := fun q j y1 y2 => by rw [x_up_ne (by omega), hM q (by omega) (by omega)]
      have m24 : x_up m2 46 34 tm 46 24 = m1 46 24 := by
        rw [x_up_at, if_neg (by decide), g2.2 24 (by decide), x_up_at, if_neg (by decide)]
      obtain ⟨c4, m4, o1, o2, o3, o4⟩ := sim_obey (kd := kd) (pl := pl) hR3 (by rw [x_up_at, if_neg (by decide), g2.2 38 (by decide)]; exact h38) (fun s hs => by rw [cc 25 s (by omega) (by omega), mm 60 s (by omega) (by omega)]; exact a6.2.1 s hs) (fun s hs y => by
        rw [mm 60 s (by omega) (by omega)] at y
        exact DT.keep hs (a6.2.2 q0 s hs y) (fun q j u => cc q j (by unfold oC at u; omega) (by unfold oC at u; omega)) (fun q j u => mm q j (by unfold oM at u; omega) (by unfold oM at u; omega))) (by rw [cc 24 4 (by omega) (by omega)]; exact a3) (fun y => by rw [cc 24 6 (by omega) (by omega)]; exact a5 y) (fun y => by rw [mm 60 1 (by omega) (by omega)]; exact f5 y) (fun y k k1 k2 => by
        rw [mm 60 4 (by omega) (by omega)] at y
        rw [m24] at k2
        have := f6 y k k1 k2
        unfold Room at *
        have u55 : ∀ i, x_up m2 46 34 tm 55 i = m1 55 i := fun i => mm 55 i (by omega) (by omega)
        simp only [u55, mm 62 84 (by omega) (by omega), mm 62 105 (by omega) (by omega), mm 60 5 (by omega) (by omega)]
        exact this)
      unfold F_G_message_67 F_Mod_message_422
      rw [x_bind_eq o1, x_bind_eq o2]
      refine ⟨0, c4, m4, rfl, ?_, o3.more⟩
      unfold F_Mod_message_429
      rw [o4]
    · exact no r C _ r0 (by rw [x_up_at, if_pos rfl]) hRC
  · rw [if_neg q0, f187 kd tm pl q0]
    exact no _ _ _ q0 rfl hR1.clear
/-! the simulation -/
theorem hsim : x_sim R := by
  refine ⟨fun n c m h => h.more, fun n c m hn h => ⟨?_, ?_, ?_, ?_, ?_, ?_, ?_, ?_, ?_, ?_, ?_, ?_⟩⟩
  · exact fun x1 x2 => sim_bits h x1 x2
  · exact sim_message (by omega) h
  · exact fun x1 => sim_mark h x1
  · exact fun x1 => sim_cycle hn h x1
  · exact fun x1 => sim_driver h x1
  · exact sim_mode h
  · exact fun x1 => sim_state h x1
  · exact fun x1 => sim_display (by omega) h x1
  · exact fun x1 => sim_limit h x1
  · exact fun x1 x2 x3 => sim_way h x1 x2 x3
  · exact fun x1 => sim_marks h x1
  · exact fun x1 => sim_note h x1
