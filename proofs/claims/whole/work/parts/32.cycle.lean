/-! cycle -/
theorem cls_passBehind {k : Nat} (hk : k ≤ 7) (lw : Int32) : ∀ (j i n : Nat) (A : Prop) (c : x_S), i + j = k → j < n → c 17 4 = nI k → ∃ c', F_Mrk_passBehind_4 17 n lw (bl A) (nI i) c = some (bl (A ∨ ∃ t, i ≤ t ∧ t < k ∧ c 21 t = 0 ∧ c 18 t + c 20 t < lw), c') ∧ (∀ p, p ≠ 21 → c' p = c p) ∧ ∀ t, c' 21 t = if i ≤ t ∧ t < k ∧ c 21 t = 0 ∧ c 18 t + c 20 t < lw then 1 else c 21 t := by
  intro j
  induction j with
  | zero =>
    intro i n A c h hn hc
    obtain ⟨n, rfl⟩ : ∃ q, n = q + 1 := ⟨n - 1, by omega⟩
    refine ⟨c, ?_, fun _ _ => rfl, fun t => by rw [if_neg (by omega)]⟩
    rw [F_Mrk_passBehind_4, hc, if_pos (nI_le (by omega) (by omega))]
    unfold x_b01
    rw [if_pos (bl_01 A)]
    congr 2
    exact bl_congr ⟨Or.inl, fun q => q.elim id (fun ⟨t, h1, h2, _⟩ => absurd h2 (by omega))⟩
  | succ j ih =>
    intro i n A c h hn hc
    obtain ⟨n, rfl⟩ : ∃ q, n = q + 1 := ⟨n - 1, by omega⟩
    rw [F_Mrk_passBehind_4, hc, if_neg (nI_ge (by omega) (by omega)), x_ix_nI (by omega) (by omega)]
    unfold F_Mrk_passBehind_39
    rw [nI_1]
    have i7 : i < 7 := by omega
    have keep : ¬ (c 21 i = 0 ∧ c 18 i + c 20 i < lw) → ∃ c', F_Mrk_passBehind_4 17 n lw (bl A) (nI (i + 1)) c = some (bl (A ∨ ∃ t, i ≤ t ∧ t < k ∧ c 21 t = 0 ∧ c 18 t + c 20 t < lw), c') ∧ (∀ p, p ≠ 21 → c' p = c p) ∧ ∀ t, c' 21 t = if i ≤ t ∧ t < k ∧ c 21 t = 0 ∧ c 18 t + c 20 t < lw then 1 else c 21 t := by
      intro hne
      obtain ⟨c', g1, g2, g3⟩ := ih (i + 1) n A c (by omega) (by omega) hc
      have hiff : ∀ t, (i + 1 ≤ t ∧ t < k ∧ c 21 t = 0 ∧ c 18 t + c 20 t < lw) ↔ (i ≤ t ∧ t < k ∧ c 21 t = 0 ∧ c 18 t + c 20 t < lw) := by
        intro t
        constructor
        · intro ⟨a1, a2⟩; exact ⟨by omega, a2⟩
        · intro ⟨a1, a2, a3⟩
          by_cases e : t = i
          · rw [e] at a3; exact absurd a3 hne
          · exact ⟨by omega, a2, a3⟩
      refine ⟨c', ?_, g2, fun t => ?_⟩
      · rw [g1]
        congr 2
        exact bl_congr ⟨fun q => q.elim Or.inl (fun ⟨t, z⟩ => Or.inr ⟨t, (hiff t).mp z⟩), fun q => q.elim Or.inl (fun ⟨t, z⟩ => Or.inr ⟨t, (hiff t).mpr z⟩)⟩
      · rw [g3 t]
        by_cases q : i + 1 ≤ t ∧ t < k ∧ c 21 t = 0 ∧ c 18 t + c 20 t < lw
        · rw [if_pos q, if_pos ((hiff t).mp q)]
        · rw [if_neg q, if_neg (fun z => q ((hiff t).mpr z))]
    by_cases g1 : c 21 i = 0
    · rw [if_pos g1]
      have lat : F_Mrk_latest 17 (nI i) c = some (c 18 i + c 20 i, c) := by
        unfold F_Mrk_latest
        simp only [x_ix_nI i7 (show 7 < 2 ^ 31 by omega)]
      rw [x_bind_eq lat]
      unfold F_Mrk_passBehind_26 F_Mrk_passBehind_39 F_Mrk_passBehind_37 F_Mrk_passBehind_39
      rw [nI_1]
      by_cases g2 : lw ≤ c 18 i + c 20 i
      · rw [if_pos g2]
        exact keep (fun q => by have := q.2; rw [Int32.lt_iff_toInt_lt] at this; rw [Int32.le_iff_toInt_le] at g2; omega)
      · have g3 : c 18 i + c 20 i < lw := by rw [Int32.lt_iff_toInt_lt]; rw [Int32.le_iff_toInt_le] at g2; omega
        rw [if_neg g2, x_ix_nI i7 (by omega)]
        obtain ⟨c', w1, w2, w3⟩ := ih (i + 1) n True (x_up c 21 i 1) (by omega) (by omega) (by rw [x_up_ne (by decide)]; exact hc)
        rw [bl_pos trivial] at w1
        refine ⟨c', ?_, fun p hp => by rw [w2 p hp, x_up_ne hp], fun t => ?_⟩
        · rw [w1, bl_pos (Or.inl trivial), bl_pos (Or.inr ⟨i, Nat.le_refl _, by omega, g1, g3⟩)]
        · rw [w3 t, x_up_ne (show (18 : Nat) ≠ 21 by decide), x_up_ne (show (20 : Nat) ≠ 21 by decide), x_up_at]
          by_cases e : t = i
          · subst e
            rw [if_neg (by omega), if_pos rfl, if_pos ⟨Nat.le_refl _, by omega, g1, g3⟩]
          · rw [if_neg e]
            by_cases q : i + 1 ≤ t ∧ t < k ∧ c 21 t = 0 ∧ c 18 t + c 20 t < lw
            · rw [if_pos q, if_pos ⟨by omega, q.2⟩]
            · rw [if_neg q, if_neg (fun z => q ⟨by omega, z.2⟩)]
    · rw [if_neg g1]
      exact keep (fun q => g1 q.1)
theorem sim_lookForTrip {n : Nat} {c m : x_S} (h : R n c m) : ∃ c' m', F_G_lookForTrip c = some (0, c') ∧ F_Mod_moves_46 m = some (0, m') ∧ R n c' m' := by
  obtain ⟨hE, hA, hV, hD, hN⟩ := h
  have h : R n c m := ⟨hE, hA, hV, hD, hN⟩
  have hE0 := hE
  obtain ⟨e1, e2, e3, e4, e5, e6, e7, e8, e9, e10, e11, e12, e13, e14, e15, e16, e17, e18, e19, e20, e21, e22, e23⟩ := hE
  obtain ⟨d1, d2, ⟨k, k1, k2, k3⟩, d4, d5⟩ := hD
  have hm19 : m 46 19 = nI k := e22.symm.trans k2
  unfold F_G_lookForTrip F_Mod_moves_46
  rw [x_bind_eq (cls_guided c), x_bind_eq (mod_guided m), e7]
  unfold F_G_lookForTrip_4 F_Mod_moves_50 F_G_lookForTrip_84 F_Mod_moves_171
  by_cases hg : GD (m 46 6)
  · rw [bl_pos hg, if_neg (by decide), if_neg (by decide)]
    obtain ⟨c1, p1, p2, p3⟩ := cls_passBehind k1 (c 1 0) k 0 x_fuel False c (by omega) (by unfold x_fuel; omega) k2
    rw [bl_neg id] at p1
    let st1 : Nat → Int32 → Int32 := fun i a => if a = 0 then bl (m 54 i = 0 ∧ ¬ m 46 3 ≤ m 51 i + m 53 i) else 1
    have h1 := loop_fold0 (fun n a i => F_Mod_moves_58 n a (nI i) m) st1 k x_fuel (fun a => if a = 0 then F_Mod_moves_126 a m else x_bind (F_Mod_write 6 0 m) (fun _ c3 => F_Mod_moves_126 a c3)) (by
      intro n i a hi
      show F_Mod_moves_58 (n + 1) a (nI i) m = F_Mod_moves_58 n (if a = 0 then _ else 1) (nI (i + 1)) m
      rw [F_Mod_moves_58, hm19, if_neg (nI_ge hi (by omega))]
      simp only [x_ix_nI (show i < 7 by omega) (by omega)]
      unfold F_Mod_moves_103 F_Mod_moves_107 F_Mod_moves_108
      rw [nI_1]
      by_cases g1 : a = 0
      · rw [if_pos g1, if_pos g1]
        by_cases g2 : m 54 i = 0
        · rw [if_pos g2]
          by_cases g3 : m 46 3 ≤ m 51 i + m 53 i
          · rw [if_pos g3, bl_neg (fun q => q.2 g3)]
          · rw [if_neg g3, bl_pos ⟨g2, g3⟩]
        · rw [if_neg g2, bl_neg (fun q => g2 q.1)]
      · rw [if_neg g1, if_neg g1]) (by
      intro n a
      show F_Mod_moves_58 (n + 1) a (nI k) m = _
      rw [F_Mod_moves_58, hm19, if_pos (nI_le (Nat.le_refl _) (by omega))]) (bl False) (by unfold x_fuel; omega)
    rw [lfold_or k (fun i _ a => rfl)] at h1
    rw [bl_neg id] at h1
    have hMiss : (False ∨ ∃ i, i < k ∧ m 54 i = 0 ∧ ¬ m 46 3 ≤ m 51 i + m 53 i) ↔ (False ∨ ∃ t, 0 ≤ t ∧ t < k ∧ c 21 t = 0 ∧ c 18 t + c 20 t < c 1 0) := by
      constructor
      · rintro (q | ⟨i, q1, q2, q3⟩)
        · exact q.elim
        · obtain ⟨a1, a2, a3, a4, -⟩ := k3 i q1
          refine Or.inr ⟨i, by omega, q1, by rw [a4]; exact q2, ?_⟩
          rw [a1, a3, e4, Int32.lt_iff_toInt_lt]
          rw [Int32.le_iff_toInt_le] at q3
          omega
      · rintro (q | ⟨i, q0, q1, q2, q3⟩)
        · exact q.elim
        · obtain ⟨a1, a2, a3, a4, -⟩ := k3 i q1
          refine Or.inr ⟨i, q1, by rw [← a4]; exact q2, ?_⟩
          rw [a1, a3, e4, Int32.lt_iff_toInt_lt] at q3
          rw [Int32.le_iff_toInt_le]
          omega
    rw [bl_congr hMiss] at h1
    rw [show F_Mod_moves_58 x_fuel 0 0 m = _ from h1]
    unfold F_Mrk_passBehind
    rw [x_bind_eq (show F_Mrk_passBehind_4 17 x_fuel (c 1 0) 0 0 c = _ from p1)]
    unfold F_G_lookForTrip_24
    by_cases hM : False ∨ ∃ t, 0 ≤ t ∧ t < k ∧ c 21 t = 0 ∧ c 18 t + c 20 t < c 1 0
    · -- a mark was missed
      rw [bl_pos hM]
      simp only [if_neg (show ¬ (1 : Int32) = 0 by decide)]
      have hE1 : RE c1 m := by unfold RE at *; simp [p2]; exact hE0
      have hN1 : RNn c1 m := by unfold RNn at *; simp [p2]; exact hN
      obtain ⟨c2, m2, w1, w2, f1, f2, hN2⟩ := sim_write 6 0 hN1 hE1.2.2.2.2.2.2.2.1
      have g1 : ∀ p, p ≠ 40 → p ≠ 41 → c2 p = c1 p := f1
      have g2 := f2.2
      have hE2 : RE c2 m2 := by unfold RE at *; simp [g1, g2]; exact hE1
      have hV2 : RV n m2 := by unfold RV at *; simp [g2]; exact hV
      have f21 := f2.1
      obtain ⟨c3, m3, t1, t2, t3⟩ := sim_trip hE2 hV2 (by simp [g1, f21, p2]; exact d4) (by simp [g1, f21, p2]; exact d5) hN2
      refine ⟨c3, m3, ?_, ?_, t3⟩
      · have : F_G_faultOfMarks c1 = some (0, c3) := by
          unfold F_G_faultOfMarks
          rw [x_bind_eq w1]
          unfold F_G_faultOfMarks_7
          rw [x_bind_eq (cls_guided c2), hE2.2.2.2.2.2.2.1, g2 6 (by decide)]
          unfold F_G_faultOfMarks_11
          rw [bl_pos hg, if_neg (by decide), x_bind_eq t1]
          rfl
        rw [x_bind_eq this]
        rfl
      · rw [x_bind_eq w2]
        unfold F_Mod_moves_126
        rw [if_neg (by decide)]
        unfold F_Mod_moves_141
        rw [x_bind_eq t2]
        rfl
    · rw [bl_neg hM]
      simp only [if_pos (show (0 : Int32) = 0 from rfl)]
      have hc1 : c1 = c := by
        funext p
        by_cases e : p = 21
        · subst e
          funext t
          rw [p3 t, if_neg (fun q => hM (Or.inr ⟨t, q⟩))]
        · exact p2 p e
      subst hc1
      unfold F_Mod_moves_126
      rw [if_pos rfl, e4, e10]
      by_cases q : m 46 3 ≤ m 46 9
      · rw [if_pos q, if_pos q]
        exact ⟨c1, m, rfl, rfl, h⟩
      · rw [if_neg q, if_neg q]
        obtain ⟨c3, m3, t1, t2, t3⟩ := sim_trip hE0 hV d4 d5 hN
        refine ⟨c3, m3, by rw [x_bind_eq t1]; rfl, ?_, t3⟩
        unfold F_Mod_moves_141
        rw [x_bind_eq t2]
        rfl
  · rw [bl_neg hg, if_pos rfl, if_pos rfl, e7]
    by_cases q1 : m 46 6 = 1
    · rw [if_pos q1, if_pos q1, e4, e12]
      by_cases q : m 46 3 ≤ m 46 12
      · rw [if_pos q, if_pos q]
        exact ⟨c, m, rfl, rfl, h⟩
      · rw [if_neg q, if_neg q]
        obtain ⟨c3, m3, t1, t2, t3⟩ := sim_trip hE0 hV d4 d5 hN
        exact ⟨c3, m3, by rw [x_bind_eq t1], by rw [x_bind_eq t2], t3⟩
    · rw [if_neg q1, if_neg q1]
      exact ⟨c, m, rfl, rfl, h⟩
theorem sim_advance {n : Nat} {c m : x_S} (h : R n c m) {xn : Nat} (hx : xn ≤ 500) (hn : n ≤ 512) : ∃ c' m', F_Frt_advance (nI xn) c = some (0, c') ∧ F_Mod_moves (nI xn) m = F_Mod_moves_46 m' ∧ R (n + 1) c' m' := by
  obtain ⟨hE, hA, hV, hD, hN⟩ := h
  have h : R n c m := ⟨hE, hA, hV, hD, hN⟩
  obtain ⟨e1, e2, e3, e4, e5, e6, e7, e8, e9, e10, e11, e12, e13, e14, e15, e16, e17, e18, e19, e20, e21, e22, e23⟩ := hE
  obtain ⟨v1, v2, v3, v4, v5, v6, v7, v8, v9, v10, v11⟩ := hV
  have key : ∀ u : Nat, u ≤ 32 → ∃ c' m', F_Frt_advance_14 (nI xn) (nI u) c = some (0, c') ∧ F_Mod_moves_14 (nI xn) (nI u) m = F_Mod_moves_46 m' ∧ R (n + 1) c' m' := by
    intro u hu
    refine ⟨x_up (x_up (x_up c 1 1 (m 46 4 + (nI xn + nI u))) 1 0 (m 46 3 + (nI xn - nI u))) 1 2 (nI xn + nI u), x_up (x_up (x_up m 46 4 (m 46 4 + (nI xn + nI u))) 46 3 (m 46 3 + (nI xn - nI u))) 46 5 (nI xn + nI u), ?_, ?_, ?_⟩
    · unfold F_Frt_advance_14 F_Frt_advance_27 F_Frt_advance_39 F_Frt_advance_46
      have q : ∀ z, x_up c 1 1 z 1 0 = m 46 3 := fun z => by rw [x_up_at, if_neg (by decide)]; exact e4
      rw [e5, q]
    · unfold F_Mod_moves_14 F_Mod_moves_27 F_Mod_moves_39
      have q : ∀ z, x_up m 46 4 z 46 3 = m 46 3 := fun z => by rw [x_up_at, if_neg (by decide)]
      rw [q]
    · have t1 : (nI xn + nI u).toInt = xn + u := by rw [nI_add, nI_toInt (by omega)]; omega
      have t2 : (nI xn - nI u).toInt = xn - u := pk_sub_toInt (by omega) (by omega)
      have s1 : (m 46 4 + (nI xn + nI u)).toInt = (m 46 4).toInt + (xn + u) := by
        have := v5.1; have := v5.2
        rw [i_add] <;> omega
      have s2 : (m 46 3 + (nI xn - nI u)).toInt = (m 46 3).toInt + (xn - u) := by
        have := v4.1; have := v4.2
        rw [i_add] <;> omega
      refine h.upd (fun p z0 z1 z2 z3 z4 z5 => by rw [x_up_ne z1, x_up_ne z1, x_up_ne z1]) (fun p z0 z1 => by rw [x_up_ne z0, x_up_ne z0, x_up_ne z0]) ?_ ?_ ?_ ?_
      · refine ⟨?_, ?_, ?_, ?_, ?_, ?_, ?_, ?_, ?_, ?_, ?_, ?_, ?_, ?_, ?_, ?_, ?_, ?_, ?_, ?_, ?_, ?_, ?_⟩ <;> simp [x_up_ne, x_up_at, e1, e2, e3, e7, e8, e9, e10, e11, e12, e13, e14, e15, e16, e17, e18, e19, e20, e21, e22, e23]
      · unfold RA at *; simp [x_up_ne, x_up_at]; exact hA
      · unfold RV
        simp only [x_up_at]
        simp
        refine ⟨v1, v2, v3, ?_, ?_, ?_, v7, v8, v9, v10, v11⟩
        · have := v4.1; have := v4.2
          unfold x_bd; omega
        · have := v5.1; have := v5.2
          unfold x_bd; omega
        · unfold x_bd; omega
      · unfold RNn at *; simp [x_up_ne, x_up_at]; exact hN
  unfold F_Frt_advance F_Mod_moves
  by_cases z : nI xn = 0
  · rw [if_pos z, if_pos z]
    exact key 0 (by omega)
  · rw [if_neg z, if_neg z]
    have e : (1 : Int32) + nI xn / 16 = nI (1 + xn / 16) := by
      rw [show nI xn / 16 = nI (xn / 16) from pk_div (d := 16) (by omega) (by omega) (by omega)]
      exact nI_add 1 (xn / 16)
    rw [e]
    exact key (1 + xn / 16) (by omega)
/-- the brakes -/
theorem sim_brakes {n : Nat} {c m : x_S} (hn : n ≤ 512) (h : R n c m) (x : Int32) : ∃ r c' m', F_G_cycle_51 x c = some (r, c') ∧ F_Mod_cycle_44 x m = some (r, m') ∧ R n c' m' := by
  obtain ⟨hE, hA, hV, hD, hN⟩ := h
  have h : R n c m := ⟨hE, hA, hV, hD, hN⟩
  obtain ⟨e1, e2, e3, e4, e5, e6, e7, e8, e9, e10, e11, e12, e13, e14, e15, e16, e17, e18, e19, e20, e21, e22, e23⟩ := hE
  obtain ⟨v1, v2, v3, v4, v5, v6, v7, v8, v9, v10, v11⟩ := hV
  have hV : RV n m := ⟨v1, v2, v3, v4, v5, v6, v7, v8, v9, v10, v11⟩
  -- asked
  obtain ⟨ac, ab, hac, hc⟩ : ∃ ac ab : Int32, (ac = (if m 46 29 = 0 then m 46 30 + 0 else m 46 30 + 1) ∧ (ab = 0 ∨ ab = 1) ∧ (ab = 0 ↔ (m 46 29 = 0 ∨ ac < 3))) ∧ F_G_cycle_51 x c = F_G_cycle_88 x ab (x_up c 0 13 ac) := by
    by_cases q : m 46 29 = 0
    · refine ⟨m 46 30, 0, ⟨by rw [if_pos q]; exact (Int32.add_zero _).symm, Or.inl rfl, ⟨fun _ => Or.inl q, fun _ => rfl⟩⟩, ?_⟩
      unfold F_G_cycle_51 F_G_cycle_68 F_G_cycle_87
      rw [e13, if_pos q, if_pos q]
      congr 1
      funext p j
      by_cases e : p = 0
      · subst e
        rw [x_up_at]
        by_cases e' : j = 13
        · rw [if_pos e', e', e14]
        · rw [if_neg e']
      · rw [x_up_ne e]
    · have q1 : x_up c 0 13 (c 0 13 + 1) 0 12 = m 46 29 := by rw [x_up_at, if_neg (by decide)]; exact e13
      have q2 : x_up c 0 13 (c 0 13 + 1) 0 13 = m 46 30 + 1 := by rw [x_up_at, if_pos rfl, e14]
      by_cases w : m 46 30 + 1 < 3
      · refine ⟨m 46 30 + 1, 0, ⟨by rw [if_neg q], Or.inl rfl, ⟨fun _ => Or.inr w, fun _ => rfl⟩⟩, ?_⟩
        unfold F_G_cycle_51 F_G_cycle_68 F_G_cycle_87
        rw [e13, if_neg q, q1, q2, if_neg q, e14, if_pos w]
      · refine ⟨m 46 30 + 1, 1, ⟨by rw [if_neg q], Or.inr rfl, ⟨fun z => absurd z (by decide), fun z => z.elim (fun u => absurd u q) (fun u => absurd u w)⟩⟩, ?_⟩
        unfold F_G_cycle_51 F_G_cycle_68 F_G_cycle_87
        rw [e13, if_neg q, q1, q2, if_neg q, e14, if_neg w]
  obtain ⟨hac1, hab1, hab2⟩ := hac
  rw [hc]
  -- the grade
  have hG : RG (x_up c 0 13 ac) m := by
    unfold RG
    simp [x_up_ne, x_up_at]
    exact ⟨e1, e2, e3, e4, e5, e6, e7, e11, e20, e21, e23⟩
  have hD1 : RD (x_up c 0 13 ac) m := by unfold RD at *; simp [x_up_ne]; exact hD
  obtain ⟨g, c1, g1, g2, g3, g4⟩ := sim_gradeEnd hn hG hV hD1 (m 46 9)
  have c1p : ∀ p, p ≠ 42 → p ≠ 43 → p ≠ 44 → p ≠ 45 → c1 p = x_up c 0 13 ac p := g3.1
  unfold F_G_cycle_88 F_G_gradeNow F_Mod_cycle_44
  rw [x_bind_eq g2, show x_up c 0 13 ac 2 5 = m 46 9 by rw [x_up_ne (by decide)]; exact e10, x_bind_eq (x_bind_eq g1)]
  unfold F_G_cycle_97
  -- new brakes
  let hd : Int32 := bl (g = 4 ∨ (m 46 31 ≠ 0 ∧ x ≠ 0))
  let sf : Int32 := bl (3 ≤ g ∨ (m 46 32 ≠ 0 ∧ g ≠ 0 ∧ x ≠ 0))
  let cm : Int32 := if hd = 0 then (if sf = 0 then (if ab = 0 then 0 else 1) else 1) else 2
  have b39 : c1 39 0 = m 46 31 ∧ c1 39 1 = m 46 32 ∧ c1 39 2 = m 46 33 := by
    rw [c1p 39 (by decide) (by decide) (by decide) (by decide), x_up_ne (by decide)]
    exact ⟨e15, e16, e17⟩
  have modS : F_Mod_cycle_56 x g m = F_Mod_cycle_132 (x_up (x_up (x_up m 46 31 hd) 46 32 sf) 46 30 ac) := by
    have s1 : F_Mod_cycle_56 x g m = F_Mod_cycle_79 x g hd m := by
      unfold F_Mod_cycle_56 F_Mod_cycle_74 F_Mod_cycle_78
      by_cases q : g = 4
      · rw [if_pos q, show hd = 1 from bl_pos (Or.inl q)]
      rw [if_neg q]
      by_cases q2 : m 46 31 = 0
      · rw [if_pos q2, show hd = 0 from bl_neg (fun z => z.elim q (fun u => u.1 q2))]
      rw [if_neg q2]
      by_cases q3 : x = 0
      · rw [if_pos q3, show hd = 0 from bl_neg (fun z => z.elim q (fun u => u.2 q3))]
      · rw [if_neg q3, show hd = 1 from bl_pos (Or.inr ⟨q2, q3⟩)]
    have s2 : F_Mod_cycle_79 x g hd m = F_Mod_cycle_108 sf (x_up m 46 31 hd) := by
      unfold F_Mod_cycle_79 x_b01
      rw [if_pos (bl_01 _)]
      unfold F_Mod_cycle_82 F_Mod_cycle_103 F_Mod_cycle_107
      rw [show x_up m 46 31 hd 46 32 = m 46 32 by rw [x_up_at, if_neg (by decide)]]
      by_cases q : 3 ≤ g
      · rw [if_pos q, show sf = 1 from bl_pos (Or.inl q)]
      rw [if_neg q]
      by_cases q2 : m 46 32 = 0
      · rw [if_pos q2, show sf = 0 from bl_neg (fun z => z.elim q (fun u => u.1 q2))]
      rw [if_neg q2]
      by_cases q4 : g = 0
      · rw [if_pos q4, show sf = 0 from bl_neg (fun z => z.elim q (fun u => u.2.1 q4))]
      rw [if_neg q4]
      by_cases q3 : x = 0
      · rw [if_pos q3, show sf = 0 from bl_neg (fun z => z.elim q (fun u => u.2.2 q3))]
      · rw [if_neg q3, show sf = 1 from bl_pos (Or.inr ⟨q2, q4, q3⟩)]
    rw [s1, s2]
    unfold F_Mod_cycle_108 x_b01
    rw [if_pos (bl_01 _)]
    unfold F_Mod_cycle_111 F_Mod_cycle_128
    rw [show x_up (x_up m 46 31 hd) 46 32 sf 46 29 = m 46 29 by simp [x_up_at], show x_up (x_up m 46 31 hd) 46 32 sf 46 30 = m 46 30 by simp [x_up_at]]
    rw [hac1]
    by_cases q : m 46 29 = 0
    · rw [if_pos q, if_pos q]
    · rw [if_neg q, if_neg q]
  have modC : F_Mod_cycle_132 (x_up (x_up (x_up m 46 31 hd) 46 32 sf) 46 30 ac) = F_Mod_cycle_170 cm (x_up (x_up (x_up m 46 31 hd) 46 32 sf) 46 30 ac) := by
    unfold F_Mod_cycle_132 F_Mod_cycle_165 F_Mod_cycle_169
    rw [show x_up (x_up (x_up m 46 31 hd) 46 32 sf) 46 30 ac 46 31 = hd by simp [x_up_at], show x_up (x_up (x_up m 46 31 hd) 46 32 sf) 46 30 ac 46 32 = sf by simp [x_up_at], show x_up (x_up (x_up m 46 31 hd) 46 32 sf) 46 30 ac 46 29 = m 46 29 by simp [x_up_at], show x_up (x_up (x_up m 46 31 hd) 46 32 sf) 46 30 ac 46 30 = ac by simp [x_up_at]]
    show _ = F_Mod_cycle_170 (if hd = 0 then (if sf = 0 then (if ab = 0 then 0 else 1) else 1) else 2) _
    by_cases q1 : hd = 0
    · rw [if_pos q1, if_pos q1]
      by_cases q2 : sf = 0
      · rw [if_pos q2, if_pos q2]
        by_cases q3 : m 46 29 = 0
        · rw [if_pos q3, if_pos (hab2.mpr (Or.inl q3))]
        · rw [if_neg q3]
          by_cases q4 : ac < 3
          · rw [if_pos q4, if_pos (hab2.mpr (Or.inr q4))]
          · rw [if_neg q4, if_neg (fun z => (hab2.mp z).elim q3 q4)]
      · rw [if_neg q2, if_neg q2]
    · rw [if_neg q1, if_neg q1]
  -- the class's
  have clsS : ∀ st, ((st = 1 ∧ x = 0) ∨ (st = 0 ∧ x ≠ 0)) → ∃ c2, F_Brk_apply g st ab c1 = F_Brk_apply_85 (m 46 33) c2 ∧ (∀ p, p ≠ 39 → c2 p = c1 p) ∧ c2 39 0 = hd ∧ c2 39 1 = sf ∧ c2 39 2 = cm := by
    intro st hst
    have st0 : st = 0 ↔ x ≠ 0 := by
      rcases hst with ⟨a1, a2⟩ | ⟨a1, a2⟩
      · rw [a1]; exact ⟨fun z => absurd z (by decide), fun z => absurd a2 z⟩
      · exact ⟨fun _ => a2, fun _ => a1⟩
    have g34 : (g < 4 ↔ g ≠ 4) ∧ (g < 3 ↔ ¬ 3 ≤ g) := by
      rcases g4 with rfl | rfl | rfl | rfl | rfl <;> decide
    -- emergency
    have s1 : F_Brk_apply g st ab c1 = F_Brk_apply_22 g st ab (x_up c1 39 0 hd) := by
      unfold F_Brk_apply F_Brk_apply_10
      by_cases q : g < 4
      · rw [if_pos q]
        by_cases q2 : st = 0
        · rw [if_pos q2]
          congr 1
          have : hd = m 46 31 := by
            rcases v10 with w | w
            · rw [w]; exact bl_neg (fun z => z.elim (g34.1.mp q) (fun u => u.1 w))
            · rw [w]; exact bl_pos (Or.inr ⟨by rw [w]; decide, st0.mp q2⟩)
          funext p j
          by_cases e : p = 39
          · subst e
            rw [x_up_at]
            by_cases e' : j = 0
            · rw [if_pos e', e', b39.1, this]
            · rw [if_neg e']
          · rw [x_up_ne e]
        · rw [if_neg q2]
          have : hd = 0 := bl_neg (fun z => z.elim (g34.1.mp q) (fun u => q2 (st0.mpr u.2)))
          rw [this]
      · rw [if_neg q]
        have : hd = 1 := bl_pos (Or.inl (Classical.byContradiction fun z => q (g34.1.mpr z)))
        rw [this]
    have s2 : F_Brk_apply_22 g st ab (x_up c1 39 0 hd) = F_Brk_apply_48 ab (x_up (x_up c1 39 0 hd) 39 1 sf) := by
      unfold F_Brk_apply_22 F_Brk_apply_43 F_Brk_apply_32
      have same : sf = m 46 32 → F_Brk_apply_48 ab (x_up c1 39 0 hd) = F_Brk_apply_48 ab (x_up (x_up c1 39 0 hd) 39 1 sf) := by
        intro e0
        congr 1
        funext p j
        by_cases e : p = 39
        · subst e
          rw [x_up_at (c := x_up c1 39 0 hd) (k := 1)]
          by_cases e' : j = 1
          · rw [if_pos e', e', x_up_at, if_neg (by decide), b39.2.1, e0]
          · rw [if_neg e']
        · rw [x_up_ne e, x_up_ne e, x_up_ne e]
      by_cases q : g < 3
      · rw [if_pos q]
        have nq := g34.2.mp q
        by_cases q2 : st = 0
        · rw [if_pos q2]
          by_cases q3 : g = 0
          · rw [if_pos q3, show sf = 0 from bl_neg (fun z => z.elim nq (fun u => u.2.1 q3))]
          · rw [if_neg q3]
            apply same
            rcases v11 with w | w
            · rw [w]; exact bl_neg (fun z => z.elim nq (fun u => u.1 w))
            · rw [w]; exact bl_pos (Or.inr ⟨by rw [w]; decide, q3, st0.mp q2⟩)
        · rw [if_neg q2, show sf = 0 from bl_neg (fun z => z.elim nq (fun u => q2 (st0.mpr u.2.2)))]
      · rw [if_neg q, show sf = 1 from bl_pos (Or.inl (Classical.byContradiction fun z => q (g34.2.mpr z)))]
    have s3 : F_Brk_apply_48 ab (x_up (x_up c1 39 0 hd) 39 1 sf) = F_Brk_apply_85 (m 46 33) (x_up (x_up (x_up c1 39 0 hd) 39 1 sf) 39 2 cm) := by
      unfold F_Brk_apply_48 F_Brk_apply_77 F_Brk_apply_82
      rw [show x_up (x_up c1 39 0 hd) 39 1 sf 39 0 = hd by simp [x_up_at], show x_up (x_up c1 39 0 hd) 39 1 sf 39 1 = sf by simp [x_up_at], show x_up (x_up c1 39 0 hd) 39 1 sf 39 2 = m 46 33 by simp [x_up_at]; exact b39.2.2]
      show _ = F_Brk_apply_85 (m 46 33) (x_up _ 39 2 (if hd = 0 then (if sf = 0 then (if ab = 0 then 0 else 1) else 1) else 2))
      by_cases q1 : hd = 0
      · rw [if_pos q1, if_pos q1]
        by_cases q2 : sf = 0
        · rw [if_pos q2, if_pos q2]
          by_cases q3 : ab = 0
          · rw [if_pos q3, if_pos q3]
          · rw [if_neg q3, if_neg q3]
        · rw [if_neg q2, if_neg q2]
      · rw [if_neg q1, if_neg q1]
    refine ⟨x_up (x_up (x_up c1 39 0 hd) 39 1 sf) 39 2 cm, by rw [s1, s2, s3], fun p hp => by rw [x_up_ne hp, x_up_ne hp, x_up_ne hp], ?_, ?_, ?_⟩
    · simp [x_up_at]
    · simp [x_up_at]
    · simp [x_up_at]
  have clsE : ∃ c2, (if x = 0 then F_G_cycle_106 ab g 1 c1 else F_G_cycle_106 ab g 0 c1) = F_G_cycle_110 (bl (cm ≠ m 46 33)) c2 ∧ (∀ p, p ≠ 39 → c2 p = c1 p) ∧ c2 39 0 = hd ∧ c2 39 1 = sf ∧ c2 39 2 = cm := by
    have fin : ∀ c2, c2 39 2 = cm → F_Brk_apply_85 (m 46 33) c2 = some (bl (cm ≠ m 46 33), c2) := by
      intro c2 hc2
      unfold F_Brk_apply_85 F_Brk_apply_99
      rw [x_b01_0, x_b01_1, hc2]
      by_cases q : cm = m 46 33
      · rw [if_pos q, bl_neg (fun z => z q)]
      · rw [if_neg q, bl_pos q]
    by_cases q : x = 0
    · obtain ⟨c2, w1, w2, w3, w4, w5⟩ := clsS 1 (Or.inl ⟨rfl, q⟩)
      refine ⟨c2, ?_, w2, w3, w4, w5⟩
      rw [if_pos q]
      unfold F_G_cycle_106
      rw [x_bind_eq (w1.trans (fin c2 w5))]
    · obtain ⟨c2, w1, w2, w3, w4, w5⟩ := clsS 0 (Or.inr ⟨rfl, q⟩)
      refine ⟨c2, ?_, w2, w3, w4, w5⟩
      rw [if_neg q]
      unfold F_G_cycle_106
      rw [x_bind_eq (w1.trans (fin c2 w5))]
  obtain ⟨c2, w1, w2, w3, w4, w5⟩ := clsE
  -- both states before the note
  have c2p : ∀ p, p ≠ 39 → p ≠ 42 → p ≠ 43 → p ≠ 44 → p ≠ 45 → c2 p = x_up c 0 13 ac p := fun p a1 a2 a3 a4 a5 => (w2 p a1).trans (c1p p a2 a3 a4 a5)
  have c42 : c2 42 0 = m 46 0 ∧ c2 42 1 = m 46 1 := by
    rw [w2 42 (by decide), g3.2 0 (by decide) (by decide) (by decide), g3.2 1 (by decide) (by decide) (by decide), x_up_ne (by decide)]
    exact ⟨e2, e3⟩
  have hR2 : R n c2 (x_up (x_up (x_up (x_up m 46 31 hd) 46 32 sf) 46 30 ac) 46 33 cm) := by
    refine ⟨?_, ?_, ?_, ?_, ?_⟩
    · refine ⟨?_, ?_, ?_, ?_, ?_, ?_, ?_, ?_, ?_, ?_, ?_, ?_, ?_, ?_, ?_, ?_, ?_, ?_, ?_, ?_, ?_, ?_, ?_⟩ <;> simp [c2p, x_up_ne, x_up_at, c42, w3, w4, w5, e1, e4, e5, e6, e7, e8, e9, e10, e11, e12, e13, e18, e19, e20, e21, e22, e23]
    · unfold RA at *; simp [c2p, x_up_ne, x_up_at]; exact hA
    · unfold RV
      simp only [x_up_at]
      simp
      exact ⟨v1, v2, v3, v4, v5, v6, v7, v8, v9, bl_01 _, bl_01 _⟩
    · unfold RD at *; simp [c2p, x_up_ne]; exact hD
    · unfold RNn at *; simp [c2p, x_up_ne, x_up_at]; exact hN
  rw [w1, modS, modC]
  unfold F_G_cycle_110 F_Mod_cycle_170
  rw [show x_up (x_up (x_up m 46 31 hd) 46 32 sf) 46 30 ac 46 33 = m 46 33 by simp [x_up_at]]
  by_cases q : cm = m 46 33
  · rw [bl_neg (fun z => z q), if_pos rfl, if_pos q]
    unfold F_G_cycle_125 F_Mod_cycle_190
    refine ⟨m 46 33, c2, x_up (x_up (x_up m 46 31 hd) 46 32 sf) 46 30 ac, by rw [w5, q], by simp [x_up_at], ?_⟩
    have : x_up (x_up (x_up (x_up m 46 31 hd) 46 32 sf) 46 30 ac) 46 33 cm = x_up (x_up (x_up m 46 31 hd) 46 32 sf) 46 30 ac := by
      funext p j
      by_cases e : p = 46
      · subst e
        rw [x_up_at]
        by_cases e' : j = 33
        · rw [if_pos e', e', q]; simp [x_up_at]
        · rw [if_neg e']
      · rw [x_up_ne e]
    rw [this] at hR2
    exact hR2
  · rw [bl_pos q, if_neg (by decide), if_neg q, w5]
    obtain ⟨c3, m3, n1, n2, hR3, f1, f2⟩ := sim_noted hR2 2 cm
    unfold F_Mod_cycle_184
    rw [x_bind_eq n1, x_bind_eq n2]
    unfold F_G_cycle_125 F_Mod_cycle_190
    refine ⟨cm, c3, m3, ?_, ?_, hR3⟩
    · rw [f1 39 (by decide) (by decide), w5]
    · rw [f2.2 33 (by decide)]; simp [x_up_at]
theorem sim_cycle {n : Nat} {c m : x_S} (hn : n < 512) (h : R n c m) (x : Int32) : x_eqv R n (F_G_cycle x c) (F_Mod_cycle x m) := by
  obtain ⟨hE, hA, hV, hD, hN⟩ := h
  have h : R n c m := ⟨hE, hA, hV, hD, hN⟩
  obtain ⟨e1, e2, e3, e4, e5, e6, e7, e8, e9, e10, e11, e12, e13, e14, e15, e16, e17, e18, e19, e20, e21, e22, e23⟩ := hE
  have h1 : R n (x_up c 0 10 (c 0 10 + 1)) (x_up m 46 7 (m 46 7 + 1)) := by
    refine h.upd (fun p z0 z1 z2 z3 z4 z5 => x_up_ne z0) (fun p z0 z1 => x_up_ne z0) ?_ ?_ ?_ ?_
    · refine ⟨?_, ?_, ?_, ?_, ?_, ?_, ?_, ?_, ?_, ?_, ?_, ?_, ?_, ?_, ?_, ?_, ?_, ?_, ?_, ?_, ?_, ?_, ?_⟩ <;> simp [x_up_ne, x_up_at, e1, e2, e3, e4, e5, e6, e7, e8, e9, e10, e11, e12, e13, e14, e15, e16, e17, e18, e19, e20, e21, e22, e23]
    · unfold RA at *; simp [x_up_ne, x_up_at]; exact hA
    · unfold RV at *
      simp only [x_up_at]
      simp
      exact hV
    · unfold RNn at *; simp [x_up_ne, x_up_at]; exact hN
  unfold F_G_cycle F_Mod_cycle
  have b6 : x_eqv R n (F_G_cycle_30 x (x_up c 0 10 (c 0 10 + 1))) (F_Mod_cycle_30 x (x_up m 46 7 (m 46 7 + 1))) := by
    obtain ⟨c2, m2, w1, w2, h2⟩ := sim_become' h1 6
    obtain ⟨r, c3, m3, w3, w4, h3⟩ := sim_brakes (by omega) h2 x
    unfold F_G_cycle_30 F_Mod_cycle_30
    rw [x_bind_eq w1, x_bind_eq w2]
    exact ⟨r, c3, m3, w3, w4, h3.more⟩
  generalize hc1 : x_up c 0 10 (c 0 10 + 1) = c1 at *
  generalize hm1 : x_up m 46 7 (m 46 7 + 1) = m1 at *
  unfold F_G_cycle_10 F_Mod_cycle_10
  rw [h1.1.2.2.2.2.2.2.1]
  by_cases q1 : m1 46 6 = 6
  · rw [if_pos q1, if_pos q1]; exact b6
  rw [if_neg q1, if_neg q1]
  by_cases q2 : x < 0
  · rw [if_pos q2, if_pos q2]; exact b6
  rw [if_neg q2, if_neg q2]
  by_cases q3 : x ≤ 500
  · rw [if_pos q3, if_pos q3]
    obtain ⟨xn, hx, rfl⟩ := nI_of q2
    have hx5 : xn ≤ 500 := (nI_leI (a := xn) (b := 500) hx (by omega)).mp q3
    obtain ⟨c2, m2, w1, w2, h2⟩ := sim_advance h1 hx5 (by omega)
    obtain ⟨c3, m3, w3, w4, h3⟩ := sim_lookForTrip h2
    obtain ⟨r, c4, m4, w5, w6, h4⟩ := sim_brakes (by omega) h3 (nI xn)
    rw [x_bind_eq w1, x_bind_eq (w2.trans w4)]
    unfold F_G_cycle_47
    rw [x_bind_eq w3]
    exact ⟨r, c4, m4, w5, w6, h4⟩
  · rw [if_neg q3, if_neg q3]; exact b6
