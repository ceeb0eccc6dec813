/-! packets -/
theorem DT.keep {t : Nat} {c m c' m' : x_S} (ht : t < 6) (h : DT t c m) (fc : ∀ q j, oC t q j → c' q j = c q j) (fm : ∀ q j, oM t q j → m' q j = m q j) : DT t c' m' := by
  have f62 : ∀ j, 21 * t ≤ j → j < 21 * t + 21 → m' 62 j = m 62 j := fun j h1 h2 => fm 62 j (Or.inr ⟨rfl, h1, h2⟩)
  have f61 : m' 61 t = m 61 t := fm 61 t (Or.inl ⟨rfl, rfl⟩)
  match t, ht, h, fc, f62, f61 with
  | 0, _, h, fc, f62, f61 =>
    obtain ⟨k, k1, k2, k3, k4⟩ := h
    refine ⟨k, k1, f61.trans k2, ?_, fun t ht => ?_⟩
    · rw [fc 26 4 (by unfold oC; omega)]; exact k3
    · rw [fc 27 t (by unfold oC; omega), fc 28 t (by unfold oC; omega), fc 29 t (by unfold oC; omega), f62 _ (by omega) (by omega), f62 _ (by omega) (by omega), f62 _ (by omega) (by omega)]
      exact k4 t ht
  | 1, _, h, fc, f62, f61 =>
    show D1 c' m'
    unfold D1
    rw [fc 24 6 (by unfold oC; omega), fc 24 7 (by unfold oC; omega), fc 24 8 (by unfold oC; omega), f62 21 (by omega) (by omega), f62 22 (by omega) (by omega), f62 23 (by omega) (by omega)]
    exact h
  | 2, _, h, fc, f62, f61 =>
    obtain ⟨k, k1, k2, k3, k4⟩ := h
    refine ⟨k, k1, f61.trans k2, ?_, fun t ht => ?_⟩
    · rw [fc 31 3 (by unfold oC; omega)]; exact k3
    · rw [fc (31 + 1) t (by unfold oC; omega), fc (31 + 2) t (by unfold oC; omega), fc (31 + 3) t (by unfold oC; omega), f62 _ (by omega) (by omega), f62 _ (by omega) (by omega)]
      obtain ⟨y1, y2, y3, y4, y5, y6, y7⟩ := k4 t ht
      refine ⟨y1, y2, y3, y4, y5, y6, ?_⟩
      rw [y7]
      by_cases e : t + 1 < k
      · rw [if_pos e, if_pos e, f62 _ (by omega) (by omega)]
      · rw [if_neg e, if_neg e]
  | 3, _, h, fc, f62, f61 =>
    obtain ⟨k, k1, k2, k3, k4⟩ := h
    refine ⟨k, k1, f61.trans k2, ?_, fun t ht => ?_⟩
    · rw [fc 35 3 (by unfold oC; omega)]; exact k3
    · rw [fc (35 + 1) t (by unfold oC; omega), fc (35 + 2) t (by unfold oC; omega), fc (35 + 3) t (by unfold oC; omega), f62 _ (by omega) (by omega), f62 _ (by omega) (by omega)]
      obtain ⟨y1, y2, y3, y4, y5, y6, y7⟩ := k4 t ht
      refine ⟨y1, y2, y3, y4, y5, y6, ?_⟩
      rw [y7]
      by_cases e : t + 1 < k
      · rw [if_pos e, if_pos e, f62 _ (by omega) (by omega)]
      · rw [if_neg e, if_neg e]
  | 4, _, h, fc, f62, f61 =>
    show D4 c' m'
    unfold D4
    rw [fc 24 9 (by unfold oC; omega), fc 24 10 (by unfold oC; omega), fc 24 11 (by unfold oC; omega), fc 24 12 (by unfold oC; omega), f62 84 (by omega) (by omega), f62 85 (by omega) (by omega), f62 86 (by omega) (by omega), f62 87 (by omega) (by omega)]
    exact h
  | 5, _, h, fc, f62, f61 =>
    show c' 24 13 = m' 62 105
    rw [fc 24 13 (by unfold oC; omega), f62 105 (by omega) (by omega)]
    exact h
def PI (z p : Nat) (c m : x_S) : Prop := PB z p c m ∧ (∀ s, s < 6 → c 25 s = m 60 s) ∧ (m 46 38 = 0 → ∀ s, s < 6 → m 60 s ≠ 0 → DT s c m)
def hC (s q j : Nat) : Prop := bP q j ∨ q = 25 ∨ oC s q j
def hM (s q j : Nat) : Prop := bQ q j ∨ q = 60 ∨ oM s q j
def gC (q j : Nat) : Prop := bP q j ∨ q = 25 ∨ (q = 24 ∧ 6 ≤ j) ∨ (26 ≤ q ∧ q ≤ 38)
def gM (q j : Nat) : Prop := bQ q j ∨ q = 60 ∨ q = 61 ∨ q = 62
theorem slot_step {n i : Nat} {x : Int32} {c : x_S} (hi : i < 6) : F_Msg_slotOf_2 (n + 1) x (nI i) c = if x_ids i = x then some (nI i, c) else F_Msg_slotOf_2 n x (nI (i + 1)) c := by
  rw [F_Msg_slotOf_2, if_neg (show ¬ (6 : Int32) ≤ nI i from nI_ge (b := 6) hi (by omega)), x_ix_nI hi (by omega), nI_1]
theorem sim_slot (x : Int32) (c m : x_S) : ∃ r, F_Msg_slotOf x c = some (r, c) ∧ F_Mod_slotOf x m = some (r, m) ∧ (r = -1 ∨ ∃ s, s < 6 ∧ r = nI s) := by
  have e : F_Msg_slotOf x c = F_Msg_slotOf_2 (995 + 1 + 1 + 1 + 1 + 1 + 1 + 1) x (nI 0) c := rfl
  have e6 : F_Msg_slotOf_2 (995 + 1) x (nI 6) c = some (-1, c) := by
    rw [F_Msg_slotOf_2, if_pos (show (6 : Int32) ≤ nI 6 by decide)]
  rw [e, slot_step (by omega), slot_step (by omega), slot_step (by omega), slot_step (by omega), slot_step (by omega), slot_step (by omega), e6]
  unfold F_Mod_slotOf F_Mod_slotOf_60
  by_cases q0 : x = 5
  · exact ⟨0, if_pos q0.symm, if_pos q0, Or.inr ⟨0, by omega, rfl⟩⟩
  rw [if_neg (show ¬ x_ids 0 = x from fun z => q0 z.symm), if_neg q0]
  by_cases q1 : x = 15
  · exact ⟨1, if_pos q1.symm, if_pos q1, Or.inr ⟨1, by omega, rfl⟩⟩
  rw [if_neg (show ¬ x_ids (0 + 1) = x from fun z => q1 z.symm), if_neg q1]
  by_cases q2 : x = 21
  · exact ⟨2, if_pos q2.symm, if_pos q2, Or.inr ⟨2, by omega, rfl⟩⟩
  rw [if_neg (show ¬ x_ids (0 + 1 + 1) = x from fun z => q2 z.symm), if_neg q2]
  by_cases q3 : x = 27
  · exact ⟨3, if_pos q3.symm, if_pos q3, Or.inr ⟨3, by omega, rfl⟩⟩
  rw [if_neg (show ¬ x_ids (0 + 1 + 1 + 1) = x from fun z => q3 z.symm), if_neg q3]
  by_cases q4 : x = 65
  · exact ⟨4, if_pos q4.symm, if_pos q4, Or.inr ⟨4, by omega, rfl⟩⟩
  rw [if_neg (show ¬ x_ids (0 + 1 + 1 + 1 + 1) = x from fun z => q4 z.symm), if_neg q4]
  by_cases q5 : x = 66
  · exact ⟨5, if_pos q5.symm, if_pos q5, Or.inr ⟨5, by omega, rfl⟩⟩
  rw [if_neg (show ¬ x_ids (0 + 1 + 1 + 1 + 1 + 1) = x from fun z => q5 z.symm), if_neg q5]
  exact ⟨-1, rfl, rfl, Or.inl rfl⟩
theorem mod_checkF {m : x_S} (h : m 46 38 ≠ 0) (b x : Int32) : F_Mod_check b x m = some (0, m) := by
  unfold F_Mod_check F_Mod_check_16
  rw [if_neg h]
theorem sim_packet {z p : Nat} {c m : x_S} (h : PI z p c m) (q0 : m 46 38 = 0) (K : x_S → Option (Int32 × x_S)) : ∃ p' c' m', F_Msg_readPacket c = some (0, c') ∧ x_bind (F_Mod_read 8 m) (fun r3 c3 => F_Mod_packets_29 K (m 46 37) r3 c3) = K m' ∧ PI z p' c' m' ∧ Fr gC c c' ∧ Fr gM m m' ∧ (m' 46 38 = 0 → p + 21 ≤ p') := by
  obtain ⟨hb, hcame, hDT⟩ := h
  have hz := hb.1
  have hp := hb.2.1
  obtain ⟨p1, v1, c1, m1, a1, a2, a3, a4, a5, a6, a7⟩ := sim_take hb 8 (by omega)
  obtain ⟨r, r1, r2, r3⟩ := sim_slot (nI v1) c1 m1
  have r2 : F_Mod_slotOf (nI v1) m1 = some (r, m1) := r2
  obtain ⟨c2, m2, b1, b2, b3, b4, b5, b6⟩ := sim_need a6 (bl (¬ r < 0)) 4 (by decide)
  -- came before
  obtain ⟨e7, hcl7, hmo7⟩ : ∃ e7 : Int32, (∀ x2, F_Msg_readPacket_29 x2 r c2 = F_Msg_readPacket_48 x2 r e7 c2) ∧ F_Mod_packets_47 K (nI p) r m2 = F_Mod_packets_66 K (nI p) r e7 m2 := by
    unfold F_Msg_readPacket_29 F_Mod_packets_47 F_Msg_readPacket_43 F_Mod_packets_61
    rcases r3 with rfl | ⟨s, s6, rfl⟩
    · exact ⟨1, fun x2 => if_pos (by decide), if_pos (by decide)⟩
    · rw [if_neg (nI_pos (show s < 2 ^ 31 by omega)), x_ix_nI s6 (by omega)]
      have ec : c2 25 s = m2 60 s := by
        rw [bPn b3 25 s (by decide), bPn a4 25 s (by decide), b4 60 s (by unfold bQ; omega), a5 60 s (by unfold bQ; omega)]
        exact hcame s s6
      by_cases w : m2 60 s = 0
      · refine ⟨1, fun x2 => ?_, if_pos w⟩
        rw [if_neg (nI_pos (show s < 2 ^ 31 by omega)), x_ix_nI s6 (by omega), ec, if_pos w]
      · refine ⟨0, fun x2 => ?_, if_neg w⟩
        rw [if_neg (nI_pos (show s < 2 ^ 31 by omega)), x_ix_nI s6 (by omega), ec, if_neg w]
  obtain ⟨c3, m3, d1, d2, d3, d4, d5, d6⟩ := sim_need b5 e7 7 (by decide)
  obtain ⟨p4, v4, c4, m4, g1, g2, g3, g4, g5, g6, g7⟩ := sim_take d5 13 (by omega)
  -- the length
  obtain ⟨c5, m5, n1, n2, n3, n4, n5, n6⟩ := sim_need g6 (bl (¬ v4 < 21 ∧ ¬ z < p + v4)) 2 (by decide)
  have fC5 : Fr bP c c5 := (((a4.trans b3).trans d3).trans g4).trans n3
  have fM5 : Fr bQ m m5 := (((a5.trans b4).trans d4).trans g5).trans n4
  have hclH : F_Msg_readPacket c = F_Msg_readPacket_84 (nI (z - p)) r (nI v4) c5 := by
    unfold F_Msg_readPacket F_Bit_left
    rw [show c 22 1 - c 22 2 = nI (z - p) by rw [hb.2.2.1, hb.2.2.2.2.1]; exact pk_sub hp]
    show F_Msg_readPacket_4 (nI (z - p)) c = _
    unfold F_Msg_readPacket_4
    rw [x_bind_eq (show F_Bit_take 8 c = _ from a1)]
    unfold F_Msg_readPacket_11
    rw [x_bind_eq r1]
    unfold F_Msg_readPacket_14
    rw [ite01 (fun b => F_Msg_readPacket_25 (nI (z - p)) r b c1)]
    unfold F_Msg_readPacket_25
    rw [x_bind_eq b1, hcl7]
    unfold F_Msg_readPacket_48
    rw [x_bind_eq d1]
    unfold F_Msg_readPacket_53
    rw [x_bind_eq (show F_Bit_take 13 c3 = _ from g1)]
    have : F_Msg_readPacket_59 (nI (z - p)) r (nI v4) c4 = F_Msg_readPacket_80 (nI (z - p)) r (nI v4) (bl (¬ v4 < 21 ∧ ¬ z < p + v4)) c4 := by
      unfold F_Msg_readPacket_59 F_Msg_readPacket_79
      by_cases w1 : v4 < 21
      · rw [if_pos (show nI v4 < (21 : Int32) from nI_lt (b := 21) w1 (by omega)), bl_neg (fun y => y.1 w1)]
      · rw [if_neg (show ¬ nI v4 < (21 : Int32) from nI_nlt (b := 21) (by omega) (by omega))]
        by_cases w2 : z < p + v4
        · rw [if_pos (nI_lt (by omega) (by omega)), bl_neg (fun y => y.2 w2)]
        · rw [if_neg (nI_nlt (by omega) (by omega)), bl_pos ⟨w1, w2⟩]
    rw [this]
    unfold F_Msg_readPacket_80
    rw [x_bind_eq n1]
  have hmoH : x_bind (F_Mod_read 8 m) (fun r3 c3 => F_Mod_packets_29 K (m 46 37) r3 c3) = F_Mod_packets_104 K (nI p) r (nI v4) m5 := by
    rw [x_bind_eq (show F_Mod_read 8 m = _ from a2), hb.2.2.2.2.2.1]
    unfold F_Mod_packets_29
    rw [x_bind_eq r2]
    unfold F_Mod_packets_32
    rw [ite01 (fun b => F_Mod_packets_43 K (nI p) r b m1)]
    unfold F_Mod_packets_43
    rw [x_bind_eq b2, hmo7]
    unfold F_Mod_packets_66
    rw [x_bind_eq d2]
    unfold F_Mod_packets_71
    rw [x_bind_eq (show F_Mod_read 13 m3 = _ from g2)]
    have : F_Mod_packets_77 K (nI p) r (nI v4) m4 = F_Mod_packets_100 K (nI p) r (nI v4) (bl (¬ v4 < 21 ∧ ¬ z < p + v4)) m4 := by
      unfold F_Mod_packets_77 F_Mod_packets_99
      rw [nI_add, g6.2.2.2.1]
      by_cases w1 : v4 < 21
      · rw [if_pos (show nI v4 < (21 : Int32) from nI_lt (b := 21) w1 (by omega)), bl_neg (fun y => y.1 w1)]
      · rw [if_neg (show ¬ nI v4 < (21 : Int32) from nI_nlt (b := 21) (by omega) (by omega))]
        by_cases w2 : z < p + v4
        · rw [if_pos (nI_lt (by omega) (by omega)), bl_neg (fun y => y.2 w2)]
        · rw [if_neg (nI_nlt (by omega) (by omega)), bl_pos ⟨w1, w2⟩]
    rw [this]
    unfold F_Mod_packets_100
    rw [x_bind_eq n2]
  rw [hclH, hmoH]
  unfold F_Msg_readPacket_84 F_Mod_packets_104
  by_cases q5 : m5 46 38 = 0
  · obtain ⟨s, s6, rfl⟩ : ∃ s, s < 6 ∧ r = nI s := by
      rcases r3 with rfl | y
      · exact absurd (show ((-1 : Int32)) < 0 by decide) (bl_ne.mp (b6 (d6 (g7 (n6 q5).1).1).1).2)
      · exact y
    have v21 : ¬ v4 < 21 := (bl_ne.mp (n6 q5).2).1
    rw [if_neg (nI_pos (show s < 2 ^ 31 by omega)), x_bind_eq (cls_sound c5), n5.2.2.2.2.2.2.1, bl_pos q5, if_pos q5, x_ix_nI s6 (by omega)]
    unfold F_Msg_readPacket_92
    rw [if_neg (show ¬ (1 : Int32) = 0 by decide), x_ix_nI s6 (by omega)]
    have hb6 : PB z p4 (x_up c5 25 s 1) (x_up m5 60 s 1) := n5.fr (S := fun q _ => q = 25) (T := fun q _ => q = 60) (Fr.up rfl) (Fr.up rfl) (fun q j hq => by omega) (fun q j hq => by omega)
    obtain ⟨p6, c6, m6, k1, k2, k3, k4, k5, k6⟩ := sim_numbers s6 hb6
    obtain ⟨c7, m7, l1, l2, l3, l4, l5, l6⟩ := sim_need k5 (bl (p6 = p + v4)) 5 (by decide)
    have y1 : Fr (hC s) c c5 := fC5.mono (fun q j y => Or.inl y)
    have y2 : Fr (hC s) c5 (x_up c5 25 s 1) := Fr.up (Or.inr (Or.inl rfl))
    have y3 : Fr (hC s) (x_up c5 25 s 1) c6 := k3.mono (fun q j y => Or.elim y (fun u => Or.inl u) (fun u => Or.inr (Or.inr u)))
    have y4 : Fr (hC s) c6 c7 := l3.mono (fun q j y => Or.inl y)
    have FCt : Fr (hC s) c c7 := ((y1.trans y2).trans y3).trans y4
    have z1 : Fr (hM s) m m5 := fM5.mono (fun q j y => Or.inl y)
    have z2 : Fr (hM s) m5 (x_up m5 60 s 1) := Fr.up (Or.inr (Or.inl rfl))
    have z3 : Fr (hM s) (x_up m5 60 s 1) m6 := k4.mono (fun q j y => Or.elim y (fun u => Or.inl u) (fun u => Or.inr (Or.inr u)))
    have z4 : Fr (hM s) m6 m7 := l4.mono (fun q j y => Or.inl y)
    have FMt : Fr (hM s) m m7 := ((z1.trans z2).trans z3).trans z4
    refine ⟨p6, c7, m7, ?_, ?_, ⟨l5, fun t ht => ?_, fun w t ht y => ?_⟩, FCt.mono (fun q j y => by unfold hC oC bP at y; unfold gC bP; omega), FMt.mono (fun q j y => by unfold hM oM bQ at y; unfold gM bQ; omega), fun w => ?_⟩
    · unfold F_Msg_readPacket_102
      rw [x_bind_eq k1]
      unfold F_Msg_readPacket_108 F_Bit_left
      rw [show c6 22 1 - c6 22 2 = nI (z - p6) by rw [k5.2.2.1, k5.2.2.2.2.1]; exact pk_sub k5.2.1]
      show F_Msg_readPacket_114 (nI v4) (nI (z - p)) (nI (z - p6)) c6 = _
      unfold F_Msg_readPacket_114
      have hp6 := k5.2.1
      have iff : (nI (z - p) - nI (z - p6) = nI v4) ↔ p6 = p + v4 := by
        have t1 : (nI (z - p) - nI (z - p6)).toInt = ((z - p : Nat) : Int) - ((z - p6 : Nat) : Int) := pk_sub_toInt (by omega) (by omega)
        have t2 : (nI v4).toInt = v4 := nI_toInt (by omega)
        constructor
        · intro y
          rw [y] at t1
          omega
        · intro y
          apply Int32.toInt_inj.mp
          omega
      rw [ite10 (fun b => F_Msg_readPacket_125 b c6), bl_congr iff]
      unfold F_Msg_readPacket_125
      rw [x_bind_eq l1]
      rfl
    · unfold F_Mod_packets_118
      rw [x_bind_eq k2]
      unfold F_Mod_packets_123
      have hp6 := k5.2.1
      have iff : (m6 46 37 = nI p + nI v4) ↔ p6 = p + v4 := by
        rw [k5.2.2.2.2.2.1, nI_add]
        exact nI_eq (by omega) (by omega)
      rw [ite10 (fun b => F_Mod_packets_139 K b m6), bl_congr iff]
      unfold F_Mod_packets_139
      rw [x_bind_eq l2]
      rfl
    · rw [bPn l3 25 t (by decide), k3 25 t (by unfold FC bP oC; omega), x_upc, l4 60 t (by unfold bQ; omega), k4 60 t (by unfold FM bQ oM; omega), x_upc, fC5 25 t (by unfold bP; omega), fM5 60 t (by unfold bQ; omega)]
      by_cases e : t = s
      · rw [if_pos ⟨rfl, e⟩, if_pos ⟨rfl, e⟩]
      · rw [if_neg (fun y => e y.2), if_neg (fun y => e y.2)]
        exact hcame t ht
    · by_cases e : t = s
      · subst e
        exact DT.keep ht (k6 (l6 w).1) (fun q j y => l3 q j (by unfold oC at y; unfold bP; omega)) (fun q j y => l4 q j (by unfold oM at y; unfold bQ; omega))
      · have m60 : m7 60 t = m 60 t := by
          rw [l4 60 t (by unfold bQ; omega), k4 60 t (by unfold FM bQ oM; omega), x_upc, if_neg (fun y => e y.2), fM5 60 t (by unfold bQ; omega)]
        rw [m60] at y
        exact DT.keep ht (hDT q0 t ht y) (fun q j y => FCt q j (by unfold oC at y; unfold hC bP oC; omega)) (fun q j y => FMt q j (by unfold oM at y; unfold hM bQ oM; omega))
    · have := bl_ne.mp (l6 w).2
      omega
  · have hcl : (if r < 0 then F_Msg_readPacket_129 c5 else x_bind (F_Bit_isSound c5) (fun r2 c2 => F_Msg_readPacket_92 (nI (z - p)) r (nI v4) r2 c2)) = some (0, c5) := by
      by_cases w : r < 0
      · rw [if_pos w]; rfl
      · rw [if_neg w, x_bind_eq (cls_sound c5), n5.2.2.2.2.2.2.1, bl_neg q5]
        unfold F_Msg_readPacket_92
        rw [if_pos rfl]
        rfl
    rw [hcl, if_neg q5]
    refine ⟨p4, c5, m5, rfl, ?_, ⟨n5, fun t ht => ?_, fun w => absurd w q5⟩, fC5.mono (fun q j y => Or.inl y), fM5.mono (fun q j y => Or.inl y), fun w => absurd w q5⟩
    · unfold F_Mod_packets_123 F_Mod_packets_139
      rw [x_bind_eq (mod_checkF q5 1 5), x_bind_eq (mod_checkF q5 0 5), ite_self]
      rfl
    · rw [fC5 25 t (by unfold bP; omega), fM5 60 t (by unfold bQ; omega)]
      exact hcame t ht
theorem packets_loop {z : Nat} : ∀ (n i p : Nat) (c m : x_S), PI z p c m → 1 ≤ n → i ≤ 600 → (m 46 38 = 0 → z - p < n ∧ i + (z - p) ≤ 600) → ∃ p' c' m', F_Msg_readFrom_177 n 1 (nI i) c = F_Msg_readFrom_214 c' ∧ F_Mod_packets_0 n m = some (0, m') ∧ PI z p' c' m' ∧ Fr gC c c' ∧ Fr gM m m' ∧ (m' 46 38 = 0 → p' = z) := by
  intro n
  induction n with
  | zero => intro i p c m h h1; exact absurd h1 (by omega)
  | succ n ih =>
    intro i p c m h h1 hi hs
    have hb := h.1
    have hz := hb.1
    have hp := hb.2.1
    rw [F_Msg_readFrom_177, F_Mod_packets_0, if_neg (show ¬ (1 : Int32) = 0 by decide), x_bind_eq (cls_sound c), hb.2.2.2.2.2.2.1]
    unfold F_Msg_readFrom_193
    by_cases q : m 46 38 = 0
    · obtain ⟨s1, s2⟩ := hs q
      rw [bl_pos q, if_neg (show ¬ (1 : Int32) = 0 by decide), if_pos q, hb.2.2.2.1, hb.2.2.2.2.2.1]
      unfold F_Bit_left
      rw [show c 22 1 - c 22 2 = nI (z - p) by rw [hb.2.2.1, hb.2.2.2.2.1]; exact pk_sub hp]
      by_cases w : p = z
      · refine ⟨p, c, m, ?_, ?_, h, Fr.rfl, Fr.rfl, fun _ => w⟩
        · by_cases y : (600 : Int32) ≤ nI i
          · rw [if_pos y]
          · rw [if_neg y]
            show F_Msg_readFrom_200 (F_Msg_readFrom_177 n) 1 (nI i) (nI (z - p)) c = _
            unfold F_Msg_readFrom_200
            rw [if_pos (by rw [show z - p = 0 by omega]; decide)]
        · rw [if_pos (nI_le (by omega) (by omega))]
          rfl
      · rw [if_neg (show ¬ (600 : Int32) ≤ nI i from nI_ge (b := 600) (by omega) (by omega)), if_neg (nI_ge (by omega) (by omega))]
        obtain ⟨p1, c1, m1, a1, a2, a3, a4, a5, a6⟩ := sim_packet h q (F_Mod_packets_0 n)
        rw [hb.2.2.2.2.2.1] at a2
        rw [a2]
        have hp1 := a3.1.2.1
        obtain ⟨p2, c2, m2, g1, g2, g3, g4, g5, g6⟩ := ih (i + 1) p1 c1 m1 a3 (by omega) (by omega) (fun y => by have := a6 y; omega)
        refine ⟨p2, c2, m2, ?_, g2, g3, a4.trans g4, a5.trans g5, g6⟩
        show F_Msg_readFrom_200 (F_Msg_readFrom_177 n) 1 (nI i) (nI (z - p)) c = _
        unfold F_Msg_readFrom_200
        rw [if_neg (nI_nle (by omega) (by omega)), x_bind_eq a1]
        unfold F_Msg_readFrom_208
        rw [nI_1]
        exact g1
    · rw [bl_neg q, if_pos rfl, if_neg q, ite_self]
      exact ⟨p, c, m, rfl, rfl, h, Fr.rfl, Fr.rfl, fun y => absurd y q⟩
