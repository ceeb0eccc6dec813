/-! the head of a message -/
theorem clear_cls (x : Int32) : ∀ (j i n : Nat) (c : x_S), i + j = 6 → j < n → ∃ c', F_Msg_readFrom_6 n x (nI i) c = x_bind (F_Bit_take 8 c') (fun r2 c2 => F_Msg_readFrom_35 x r2 c2) ∧ Fr (fun q _ => q = 25) c c' ∧ ∀ t, c' 25 t = if i ≤ t ∧ t < 6 then 0 else c 25 t := by
  intro j
  induction j with
  | zero =>
    intro i n c h hn
    obtain ⟨n, rfl⟩ : ∃ q, n = q + 1 := ⟨n - 1, by omega⟩
    refine ⟨c, ?_, Fr.rfl, fun t => by rw [if_neg (by omega)]⟩
    rw [F_Msg_readFrom_6, if_pos (show (6 : Int32) ≤ nI i from nI_le (a := 6) (by omega) (by omega))]
  | succ j ih =>
    intro i n c h hn
    obtain ⟨n, rfl⟩ : ∃ q, n = q + 1 := ⟨n - 1, by omega⟩
    obtain ⟨c', g1, g2, g3⟩ := ih (i + 1) n (x_up c 25 i 0) (by omega) (by omega)
    refine ⟨c', ?_, Fr.trans (Fr.up rfl) g2, fun t => ?_⟩
    · rw [F_Msg_readFrom_6, if_neg (show ¬ (6 : Int32) ≤ nI i from nI_ge (b := 6) (by omega) (by omega)), x_ix_nI (by omega) (by omega)]
      unfold F_Msg_readFrom_22
      rw [nI_1]
      exact g1
    · rw [g3 t, x_up_at]
      by_cases e : t = i
      · rw [if_neg (by omega), if_pos e, if_pos (by omega)]
      · rw [if_neg e]
        by_cases w : i + 1 ≤ t ∧ t < 6
        · rw [if_pos w, if_pos (by omega)]
        · rw [if_neg w, if_neg (by omega)]
theorem clear_mod : ∀ (j i n : Nat) (m : x_S), i + j = 6 → j < n → ∃ m', F_Mod_message_12 n (nI i) m = x_bind (F_Mod_read 8 m') (fun r2 c2 => F_Mod_message_44 r2 c2) ∧ Fr (fun q _ => q = 60 ∨ q = 61) m m' ∧ ∀ t, m' 60 t = if i ≤ t ∧ t < 6 then 0 else m 60 t := by
  intro j
  induction j with
  | zero =>
    intro i n m h hn
    obtain ⟨n, rfl⟩ : ∃ q, n = q + 1 := ⟨n - 1, by omega⟩
    refine ⟨m, ?_, Fr.rfl, fun t => by rw [if_neg (by omega)]⟩
    rw [F_Mod_message_12, if_pos (show (6 : Int32) ≤ nI i from nI_le (a := 6) (by omega) (by omega))]
  | succ j ih =>
    intro i n m h hn
    obtain ⟨n, rfl⟩ : ∃ q, n = q + 1 := ⟨n - 1, by omega⟩
    obtain ⟨m', g1, g2, g3⟩ := ih (i + 1) n (x_up (x_up m 60 i 0) 61 i 0) (by omega) (by omega)
    refine ⟨m', ?_, Fr.trans (Fr.trans (Fr.up (Or.inl rfl)) (Fr.up (Or.inr rfl))) g2, fun t => ?_⟩
    · rw [F_Mod_message_12, if_neg (show ¬ (6 : Int32) ≤ nI i from nI_ge (b := 6) (by omega) (by omega)), x_ix_nI (by omega) (by omega)]
      unfold F_Mod_message_25
      rw [x_ix_nI (by omega) (by omega)]
      unfold F_Mod_message_32
      rw [nI_1]
      exact g1
    · rw [g3 t, x_up_ne (by decide), x_up_at]
      by_cases e : t = i
      · rw [if_neg (by omega), if_pos e, if_pos (by omega)]
      · rw [if_neg e]
        by_cases w : i + 1 ≤ t ∧ t < 6
        · rw [if_pos w, if_pos (by omega)]
        · rw [if_neg w, if_neg (by omega)]
theorem cls_214 {z p : Nat} {c m : x_S} (h : PB z p c m) (hz : m 46 38 = 0 → p = z) : F_Msg_readFrom_214 c = some (m 46 38, c) := by
  unfold F_Msg_readFrom_214 F_Bit_left
  rw [show c 22 1 - c 22 2 = nI (z - p) by rw [h.2.2.1, h.2.2.2.2.1]; exact pk_sub h.2.1]
  show F_Msg_readFrom_219 (nI (z - p)) c = _
  unfold F_Msg_readFrom_219 F_Msg_readFrom_227
  have key : ∀ b, (m 46 38 = 0 → b = (1 : Int32)) → x_bind (F_Bit_need b 2 c) (fun _ c1 => F_Msg_readFrom_231 c1) = some (m 46 38, c) := by
    intro b hb
    have : F_Bit_need b 2 c = some (0, c) := by
      by_cases q : m 46 38 = 0
      · rw [hb q]; exact cls_need1 2 c
      · unfold F_Bit_need F_Bit_need_16
        rw [h.2.2.2.2.2.2.1, if_neg q]
    rw [x_bind_eq this]
    unfold F_Msg_readFrom_231
    rw [h.2.2.2.2.2.2.1]
  by_cases q : nI (z - p) = 0
  · rw [if_pos q]; exact key 1 (fun _ => rfl)
  · rw [if_neg q]
    exact key 0 (fun w => absurd (by rw [hz w, Nat.sub_self]; rfl) q)
theorem sim_214 {z p : Nat} {c m : x_S} (h : PB z p c m) (x1 x3 x4 : Int32) : ∃ c' m', F_Msg_readFrom_214 c = some (m' 46 38, c') ∧ (if m 46 37 = m 46 35 then F_Mod_message_183 x1 x3 x4 1 m else F_Mod_message_183 x1 x3 x4 0 m) = F_Mod_message_187 x1 x3 x4 m' ∧ Fr bP c c' ∧ Fr bQ m m' ∧ PB z p c' m' := by
  have hz := h.1
  have hp := h.2.1
  obtain ⟨c1, m1, n1, n2, n3, n4, n5, n6⟩ := sim_need h (bl (p = z)) 2 (by decide)
  refine ⟨c1, m1, ?_, ?_, n3, n4, n5⟩
  · unfold F_Msg_readFrom_214 F_Bit_left
    rw [show c 22 1 - c 22 2 = nI (z - p) by rw [h.2.2.1, h.2.2.2.2.1]; exact pk_sub h.2.1]
    show F_Msg_readFrom_219 (nI (z - p)) c = _
    unfold F_Msg_readFrom_219
    have iff : (nI (z - p) = 0) ↔ p = z := by
      constructor
      · intro y
        have := (nI_eq (a := z - p) (b := 0) (by omega) (by omega)).mp y
        omega
      · intro y
        rw [y, Nat.sub_self]; rfl
    rw [ite10 (fun b => F_Msg_readFrom_227 b c), bl_congr iff]
    unfold F_Msg_readFrom_227
    rw [x_bind_eq n1]
    unfold F_Msg_readFrom_231
    rw [n5.2.2.2.2.2.2.1]
  · have iff : (m 46 37 = m 46 35) ↔ p = z := by
      rw [h.2.2.2.2.2.1, h.2.2.2.1]
      exact nI_eq (by omega) (by omega)
    rw [ite10 (fun b => F_Mod_message_183 x1 x3 x4 b m), bl_congr iff]
    unfold F_Mod_message_183
    rw [x_bind_eq n2]
def GC (q j : Nat) : Prop := bP q j ∨ (24 ≤ q ∧ q ≤ 38)
theorem sim_head {z : Nat} {c m : x_S} (hz : z ≤ 600) (h1 : c 22 1 = nI z) (h2 : m 46 35 = nI z) (h3 : ∀ i, i < z → c 23 i = m 59 i ∧ (m 59 i = 0 ∨ m 59 i = 1)) (h4 : c 0 11 = m 46 34) : ∃ (kd tm pl : Int32) (p : Nat) (c' m' : x_S), F_Msg_readFrom (c 0 11) c = some (m' 46 38, c') ∧ F_Mod_message m = F_Mod_message_187 kd tm pl m' ∧ c' 24 4 = kd ∧ c' 24 5 = tm ∧ (kd = 9 → c' 24 6 = pl ∧ x_bd pl 0 327670) ∧ PI z p c' m' ∧ Fr GC c c' ∧ Fr gM m m' := by
  obtain ⟨c0, cl1, cl2, cl3⟩ := clear_cls (c 0 11) 6 0 x_fuel (x_up (x_up c 22 2 0) 22 3 0) (by omega) (by unfold x_fuel; omega)
  obtain ⟨m0, mo1, mo2, mo3⟩ := clear_mod 6 0 x_fuel (x_up (x_up m 46 38 0) 46 37 0) (by omega) (by unfold x_fuel; omega)
  have hb0 : PB z 0 c0 m0 := by
    have : PB z 0 (x_up (x_up c 22 2 0) 22 3 0) (x_up (x_up m 46 38 0) 46 37 0) := ⟨hz, by omega, by simp [x_upc]; exact h1, by simp [x_upc]; exact h2, by simp [x_upc]; rfl, by simp [x_upc]; rfl, by simp [x_upc], fun i hi => by simp [x_upc]; exact h3 i hi⟩
    exact this.fr cl2 mo2 (fun q j y => by omega) (fun q j y => by omega)
  have F0 : Fr GC c c0 := ((Fr.up (Or.inl ⟨rfl, Or.inl rfl⟩) : Fr GC c (x_up c 22 2 0)).trans (Fr.up (Or.inl ⟨rfl, Or.inr rfl⟩))).trans (cl2.mono (fun q j y => Or.inr (by omega)))
  have G0 : Fr gM m m0 := ((Fr.up (Or.inl ⟨rfl, Or.inr rfl⟩) : Fr gM m (x_up m 46 38 0)).trans (Fr.up (Or.inl ⟨rfl, Or.inl rfl⟩))).trans (mo2.mono (fun q j y => by unfold gM; omega))
  -- kind
  obtain ⟨p1, kd, c1, m1, a1, a2, a3, a4, a5, a6, a7⟩ := sim_take hb0 8 (by omega)
  have fk : Fr (fun q j => q = 24 ∧ j = 4) c1 (x_up c1 24 4 (nI kd)) := Fr.up ⟨rfl, rfl⟩
  have hb1 : PB z p1 (x_up c1 24 4 (nI kd)) m1 := a6.fr (T := fun _ _ => False) fk Fr.rfl (fun q j y => by omega) (fun q j y => y.elim)
  obtain ⟨c2, m2, b1, b2, b3, b4, b5, b6⟩ := sim_need hb1 (bl (nI kd = 3 ∨ nI kd = 9 ∨ nI kd = 16 ∨ nI kd = 24)) 1 (by decide)
  obtain ⟨p3, v3, c3, m3, d1, d2, d3, d4, d5, d6, d7⟩ := sim_take b5 10 (by omega)
  obtain ⟨c4, m4, e1, e2, e3, e4, e5, e6⟩ := sim_need d6 (bl (nI v3 = nI z)) 2 (by decide)
  obtain ⟨p5, v5, c5, m5, g1, g2, g3, g4, g5, g6, g7⟩ := sim_take e5 16 (by omega)
  have ft : Fr (fun q j => q = 24 ∧ j = 5) c5 (x_up c5 24 5 (nI v5)) := Fr.up ⟨rfl, rfl⟩
  have hb5 : PB z p5 (x_up c5 24 5 (nI v5)) m5 := g6.fr (T := fun _ _ => False) ft Fr.rfl (fun q j y => by omega) (fun q j y => y.elim)
  obtain ⟨c6, m6, l1, l2, l3, l4, l5, l6⟩ := sim_need hb5 (bl (¬ nI v5 ≤ c 0 11)) 3 (by decide)
  have F6 : Fr GC c c6 := ((((((((F0.trans (a4.mono (fun q j y => Or.inl y))).trans (fk.mono (fun q j y => Or.inr (by omega)))).trans (b3.mono (fun q j y => Or.inl y))).trans (d4.mono (fun q j y => Or.inl y))).trans (e3.mono (fun q j y => Or.inl y))).trans (g4.mono (fun q j y => Or.inl y))).trans (ft.mono (fun q j y => Or.inr (by omega)))).trans (l3.mono (fun q j y => Or.inl y)))
  have G6 : Fr gM m m6 := ((((((G0.trans (a5.mono (fun q j y => Or.inl y))).trans (b4.mono (fun q j y => Or.inl y))).trans (d5.mono (fun q j y => Or.inl y))).trans (e4.mono (fun q j y => Or.inl y))).trans (g5.mono (fun q j y => Or.inl y))).trans (l4.mono (fun q j y => Or.inl y)))
  have q4 : c6 24 4 = nI kd := by
    rw [bPn l3 24 4 (by decide), x_upc, if_neg (by omega), bPn g4 24 4 (by decide), bPn e3 24 4 (by decide), bPn d4 24 4 (by decide), bPn b3 24 4 (by decide), x_upc, if_pos ⟨rfl, rfl⟩]
  have q5 : c6 24 5 = nI v5 := by
    rw [bPn l3 24 5 (by decide), x_upc, if_pos ⟨rfl, rfl⟩]
  have cz : ∀ s, s < 6 → c6 25 s = 0 ∧ m6 60 s = 0 := by
    intro s hs
    constructor
    · rw [bPn l3 25 s (by decide), x_upc, if_neg (by omega), bPn g4 25 s (by decide), bPn e3 25 s (by decide), bPn d4 25 s (by decide), bPn b3 25 s (by decide), x_upc, if_neg (by omega), bPn a4 25 s (by decide), cl3 s, if_pos (by omega)]
    · have w : ∀ q j, q = 60 → ¬ bQ q j := fun q j y z => by unfold bQ at z; omega
      rw [l4 60 s (w _ _ rfl), g5 60 s (w _ _ rfl), e4 60 s (w _ _ rfl), d5 60 s (w _ _ rfl), b4 60 s (w _ _ rfl), a5 60 s (w _ _ rfl), mo3 s, if_pos (by omega)]
  have hcl : F_Msg_readFrom (c 0 11) c = F_Msg_readFrom_134 c6 := by
    unfold F_Msg_readFrom
    rw [x_bind_eq (show F_Bit_begin c = some (0, x_up (x_up c 22 2 0) 22 3 0) from rfl)]
    unfold F_Msg_readFrom_4
    rw [show F_Msg_readFrom_6 x_fuel (c 0 11) 0 _ = _ from cl1, x_bind_eq (show F_Bit_take 8 c0 = _ from a1)]
    unfold F_Msg_readFrom_35
    have : F_Msg_readFrom_38 (c 0 11) (x_up c1 24 4 (nI kd)) = F_Msg_readFrom_79 (c 0 11) (bl (nI kd = 3 ∨ nI kd = 9 ∨ nI kd = 16 ∨ nI kd = 24)) (x_up c1 24 4 (nI kd)) := by
      unfold F_Msg_readFrom_38 F_Msg_readFrom_74
      rw [show x_up c1 24 4 (nI kd) 24 4 = nI kd by simp [x_upc]]
      by_cases w1 : nI kd = 3
      · rw [if_pos w1, bl_pos (Or.inl w1)]
      rw [if_neg w1]
      by_cases w2 : nI kd = 9
      · rw [if_pos w2, bl_pos (Or.inr (Or.inl w2))]
      rw [if_neg w2]
      by_cases w3 : nI kd = 16
      · rw [if_pos w3, bl_pos (Or.inr (Or.inr (Or.inl w3)))]
      rw [if_neg w3]
      by_cases w4 : nI kd = 24
      · rw [if_pos w4, bl_pos (Or.inr (Or.inr (Or.inr w4)))]
      rw [if_neg w4, bl_neg (fun y => y.elim w1 (fun y => y.elim w2 (fun y => y.elim w3 w4)))]
    rw [this]
    unfold F_Msg_readFrom_79
    rw [x_bind_eq b1]
    unfold F_Msg_readFrom_83
    rw [x_bind_eq (show F_Bit_take 10 c2 = _ from d1)]
    unfold F_Msg_readFrom_90
    rw [d6.2.2.1, ite10 (fun b => F_Msg_readFrom_102 (c 0 11) b c3)]
    unfold F_Msg_readFrom_102
    rw [x_bind_eq e1]
    unfold F_Msg_readFrom_106
    rw [x_bind_eq (show F_Bit_take 16 c4 = _ from g1)]
    unfold F_Msg_readFrom_113 F_Msg_readFrom_116
    rw [show x_up c5 24 5 (nI v5) 24 5 = nI v5 by simp [x_upc], ite01 (fun b => F_Msg_readFrom_130 b (x_up c5 24 5 (nI v5)))]
    unfold F_Msg_readFrom_130
    rw [x_bind_eq l1]
  have hmo : F_Mod_message m = F_Mod_message_128 (nI kd) (nI v5) m6 := by
    show F_Mod_message_12 x_fuel 0 (x_up (x_up m 46 38 0) 46 37 0) = _
    rw [show F_Mod_message_12 x_fuel 0 _ = _ from mo1, x_bind_eq (show F_Mod_read 8 m0 = _ from a2)]
    have : F_Mod_message_44 (nI kd) m1 = F_Mod_message_74 (nI kd) (bl (nI kd = 3 ∨ nI kd = 9 ∨ nI kd = 16 ∨ nI kd = 24)) m1 := by
      unfold F_Mod_message_44 F_Mod_message_69
      by_cases w1 : nI kd = 3
      · rw [if_pos w1, bl_pos (Or.inl w1)]
      rw [if_neg w1]
      by_cases w2 : nI kd = 9
      · rw [if_pos w2, bl_pos (Or.inr (Or.inl w2))]
      rw [if_neg w2]
      by_cases w3 : nI kd = 16
      · rw [if_pos w3, bl_pos (Or.inr (Or.inr (Or.inl w3)))]
      rw [if_neg w3]
      by_cases w4 : nI kd = 24
      · rw [if_pos w4, bl_pos (Or.inr (Or.inr (Or.inr w4)))]
      rw [if_neg w4, bl_neg (fun y => y.elim w1 (fun y => y.elim w2 (fun y => y.elim w3 w4)))]
    rw [this]
    unfold F_Mod_message_74
    rw [x_bind_eq b2]
    unfold F_Mod_message_78
    rw [x_bind_eq (show F_Mod_read 10 m2 = _ from d2)]
    unfold F_Mod_message_84
    rw [d6.2.2.2.1, ite10 (fun b => F_Mod_message_99 (nI kd) b m3)]
    unfold F_Mod_message_99
    rw [x_bind_eq e2]
    unfold F_Mod_message_103
    rw [x_bind_eq (show F_Mod_read 16 m4 = _ from g2)]
    unfold F_Mod_message_109
    have w : ∀ j, j = 34 → ¬ bQ 46 j := fun j y z => by unfold bQ at z; omega
    have m34 : m5 46 34 = c 0 11 := by
      rw [g5 46 34 (w _ rfl), e4 46 34 (w _ rfl), d5 46 34 (w _ rfl), b4 46 34 (w _ rfl), a5 46 34 (w _ rfl), G0 46 34 (by unfold gM bQ; omega), h4]
    rw [m34, ite01 (fun b => F_Mod_message_124 (nI kd) (nI v5) b m5)]
    unfold F_Mod_message_124
    rw [x_bind_eq l2]
  rw [hcl, hmo]
  unfold F_Msg_readFrom_134 F_Mod_message_128
  rw [q4]
  by_cases k9 : nI kd = 9
  · rw [if_pos k9, if_pos k9]
    obtain ⟨p7, v7, c7, m7, r1, r2, r3, r4, r5, r6, r7⟩ := sim_takePlace l5
    rw [x_bind_eq r1, x_bind_eq r2]
    unfold F_Msg_readFrom_148 F_Mod_message_145
    rw [show (10 : Int32) * nI v7 = nI (10 * v7) from pk_mul 10 v7]
    have fe : Fr (fun q j => q = 24 ∧ j = 6) c7 (x_up c7 24 6 (nI (10 * v7))) := Fr.up ⟨rfl, rfl⟩
    have hb7 : PB z p7 (x_up c7 24 6 (nI (10 * v7))) m7 := r6.fr (T := fun _ _ => False) fe Fr.rfl (fun q j y => by omega) (fun q j y => y.elim)
    obtain ⟨c8, m8, s1, s2, s3, s4, s5⟩ := sim_214 hb7 (nI kd) (nI v5) (nI (10 * v7))
    refine ⟨nI kd, nI v5, nI (10 * v7), p7, c8, m8, ?_, ?_, ?_, ?_, fun _ => ⟨?_, ?_⟩, ⟨s5, fun s hs => ?_, fun _ s hs y => ?_⟩, ((F6.trans (r4.mono (fun q j y => Or.inl y))).trans (fe.mono (fun q j y => Or.inr (by omega)))).trans (s3.mono (fun q j y => Or.inl y)), (G6.trans (r5.mono (fun q j y => Or.inl y))).trans (s4.mono (fun q j y => Or.inl y))⟩
    · unfold F_Msg_readFrom_151
      rw [show x_up c7 24 6 (nI (10 * v7)) 24 4 = nI kd by rw [x_upc, if_neg (by omega), bPn r4 24 4 (by decide), q4]]
      rw [if_neg (by rw [k9]; decide), if_neg (by rw [k9]; decide)]
      exact s1
    · unfold F_Mod_message_148
      rw [if_neg (by rw [k9]; decide), if_neg (by rw [k9]; decide)]
      exact s2
    · rw [bPn s3 24 4 (by decide), x_upc, if_neg (by omega), bPn r4 24 4 (by decide), q4]
    · rw [bPn s3 24 5 (by decide), x_upc, if_neg (by omega), bPn r4 24 5 (by decide), q5]
    · rw [bPn s3 24 6 (by decide), x_upc, if_pos ⟨rfl, rfl⟩]
    · unfold x_bd
      rw [nI_toInt (by omega)]
      omega
    · rw [bPn s3 25 s (by decide), x_upc, if_neg (by omega), bPn r4 25 s (by decide), s4 60 s (by unfold bQ; omega), r5 60 s (by unfold bQ; omega), (cz s hs).1, (cz s hs).2]
    · rw [s4 60 s (by unfold bQ; omega), r5 60 s (by unfold bQ; omega), (cz s hs).2] at y
      exact absurd rfl y
  · rw [if_neg k9, if_neg k9]
    unfold F_Msg_readFrom_151 F_Mod_message_148 F_Msg_readFrom_168
    rw [q4]
    have other : ∃ (kd' tm pl : Int32) (p : Nat) (c' m' : x_S), F_Msg_readFrom_173 0 c6 = some (m' 46 38, c') ∧ (if m6 46 37 = m6 46 35 then F_Mod_message_183 (nI kd) (nI v5) 0 1 m6 else F_Mod_message_183 (nI kd) (nI v5) 0 0 m6) = F_Mod_message_187 kd' tm pl m' ∧ c' 24 4 = kd' ∧ c' 24 5 = tm ∧ (kd' = 9 → c' 24 6 = pl ∧ x_bd pl 0 327670) ∧ PI z p c' m' ∧ Fr GC c c' ∧ Fr gM m m' := by
      obtain ⟨c8, m8, s1, s2, s3, s4, s5⟩ := sim_214 l5 (nI kd) (nI v5) 0
      refine ⟨nI kd, nI v5, 0, p5, c8, m8, s1, s2, ?_, ?_, fun y => absurd y k9, ⟨s5, fun s hs => ?_, fun _ s hs y => ?_⟩, F6.trans (s3.mono (fun q j y => Or.inl y)), G6.trans (s4.mono (fun q j y => Or.inl y))⟩
      · rw [bPn s3 24 4 (by decide), q4]
      · rw [bPn s3 24 5 (by decide), q5]
      · rw [bPn s3 25 s (by decide), s4 60 s (by unfold bQ; omega), (cz s hs).1, (cz s hs).2]
      · rw [s4 60 s (by unfold bQ; omega), (cz s hs).2] at y
        exact absurd rfl y
    have packs : ∃ (kd' tm pl : Int32) (p : Nat) (c' m' : x_S), F_Msg_readFrom_173 1 c6 = some (m' 46 38, c') ∧ F_Mod_message_159 (nI kd) (nI v5) 0 m6 = F_Mod_message_187 kd' tm pl m' ∧ c' 24 4 = kd' ∧ c' 24 5 = tm ∧ (kd' = 9 → c' 24 6 = pl ∧ x_bd pl 0 327670) ∧ PI z p c' m' ∧ Fr GC c c' ∧ Fr gM m m' := by
      have hPI : PI z p5 c6 m6 := ⟨l5, fun s hs => by rw [(cz s hs).1, (cz s hs).2], fun _ s hs y => absurd (cz s hs).2 y⟩
      have hp5 := l5.2.1
      obtain ⟨p8, c8, m8, s1, s2, s3, s4, s5, s6⟩ := packets_loop x_fuel 0 p5 c6 m6 hPI (by unfold x_fuel; omega) (by omega) (fun _ => by unfold x_fuel; omega)
      refine ⟨nI kd, nI v5, 0, p8, c8, m8, ?_, ?_, ?_, ?_, fun y => absurd y k9, s3, F6.trans (s4.mono (fun q j y => by unfold gC bP at y; unfold GC bP; omega)), G6.trans s5⟩
      · show F_Msg_readFrom_177 x_fuel 1 (nI 0) c6 = _
        rw [s1]
        exact cls_214 s3.1 s6
      · unfold F_Mod_message_159 F_Mod_packets
        rw [x_bind_eq s2]
        rfl
      · rw [s4 24 4 (by unfold gC bP; omega), q4]
      · rw [s4 24 5 (by unfold gC bP; omega), q5]
    by_cases k3 : nI kd = 3
    · rw [if_pos k3, if_pos k3]; exact packs
    · rw [if_neg k3, if_neg k3]
      by_cases k24 : nI kd = 24
      · rw [if_pos k24, if_pos k24]; exact packs
      · rw [if_neg k24, if_neg k24]; exact other
