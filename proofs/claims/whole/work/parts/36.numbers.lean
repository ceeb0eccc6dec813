/-! the numbers of a packet -/
def D1 (c m : x_S) : Prop := c 24 6 = m 62 21 ∧ c 24 7 = m 62 22 ∧ c 24 8 = m 62 23 ∧ x_bd (m 62 21) 0 327670 ∧ x_bd (m 62 22) 0 1023 ∧ (m 62 23 = 2 ∨ m 62 23 = 3)
def D4 (c m : x_S) : Prop := c 24 9 = m 62 84 ∧ c 24 10 = m 62 85 ∧ c 24 11 = m 62 86 ∧ c 24 12 = m 62 87 ∧ x_bd (m 62 85) 0 327670 ∧ x_bd (m 62 86) 1 327670 ∧ x_bd (m 62 87) 0 600 ∧ 0 ≤ (m 62 84).toInt
def DT (s : Nat) (c m : x_S) : Prop := match s with
  | 0 => ∃ k, k ≤ 7 ∧ m 61 0 = nI k ∧ DM k c m
  | 1 => D1 c m
  | 2 => ∃ k, k ≤ 7 ∧ m 61 2 = nI k ∧ DS 2 31 k 63 c m
  | 3 => ∃ k, k ≤ 7 ∧ m 61 3 = nI k ∧ DS 3 35 k 600 c m
  | 4 => D4 c m
  | _ => c 24 13 = m 62 105
theorem mod_check1 (x : Int32) (m : x_S) : F_Mod_check 1 x m = some (0, m) := by
  unfold F_Mod_check F_Mod_check_16
  by_cases q : m 46 38 = 0
  · rw [if_pos q, if_neg (by decide)]
  · rw [if_neg q]
theorem cls_need1 (x : Int32) (c : x_S) : F_Bit_need 1 x c = some (0, c) := by
  unfold F_Bit_need F_Bit_need_16
  by_cases q : c 22 3 = 0
  · rw [if_pos q, if_neg (by decide)]
  · rw [if_neg q]
/-- a slot's numbers, both sides -/
def NU (s : Nat) (z : Nat) (c m : x_S) : Prop := ∃ p' c' m', F_Msg_readNumbers (nI s) c = some (0, c') ∧ F_Mod_numbers (nI s) m = some (0, m') ∧ Fr (FC s) c c' ∧ Fr (FM s) m m' ∧ PB z p' c' m' ∧ (m' 46 38 = 0 → DT s c' m')
theorem num0 {z p : Nat} {c m : x_S} (h : PB z p c m) : NU 0 z c m := by
  have f1 : Fr (oC 0) c (x_up c 26 4 0) := Fr.up (Or.inl ⟨rfl, by omega, by omega⟩)
  have f2 : Fr (oM 0) m (x_up m 61 0 1) := Fr.up (Or.inl ⟨rfl, rfl⟩)
  obtain ⟨p1, v, c1, m1, t1, t2, t3, t4, t5, t6, t7⟩ := sim_take (h.own f1 f2) 3 (by omega)
  have f3 : Fr (oM 0) m1 (x_up m1 61 0 (nI v)) := Fr.up (Or.inl ⟨rfl, rfl⟩)
  obtain ⟨p2, c2, m2, g1, g2, g3, g4, g5, g6, g7⟩ := marks_loop (k := v) (by omega) v 0 x_fuel p1 c1 (x_up m1 61 0 (nI v)) (-1) (by omega) (by unfold x_fuel; omega) (t6.own (s := 0) Fr.rfl f3) (by simp [x_upc]) ⟨by rw [bPn t4 26 4 (by decide)]; simp [x_upc]; rfl, fun t ht => absurd ht (by omega)⟩ (by rw [if_pos rfl])
  refine ⟨p2, c2, m2, ?_, ?_, (f1.oC.trans t4.P).trans g3, ((f2.oM.trans t5.Q).trans f3.oM).trans g4, g5, fun q => ⟨v, by omega, g6, (g7 q).2⟩⟩
  · unfold F_Msg_readNumbers
    rw [if_pos (show nI 0 = 0 from rfl)]
    have : F_Msg_readMarks c = some (0, c2) := by
      unfold F_Msg_readMarks
      rw [x_bind_eq (show F_Mrk_clear 26 c = some (0, x_up c 26 4 0) from rfl)]
      unfold F_Msg_readMarks_7
      rw [x_bind_eq (show F_Bit_take 3 _ = _ from t1)]
      exact g1
    rw [x_bind_eq this]
    rfl
  · unfold F_Mod_numbers
    rw [x_ix_nI (by omega) (by omega)]
    unfold F_Mod_numbers_7
    rw [if_pos (show nI 0 = 0 from rfl)]
    unfold F_Mod_numbers_21
    rw [x_bind_eq (show F_Mod_read 3 _ = _ from t2)]
    unfold F_Mod_numbers_31
    rw [x_ix_nI (by omega) (by omega)]
    unfold F_Mod_numbers_32
    rw [if_neg (show ¬ nI 0 = 3 by decide)]
    unfold F_Mod_numbers_47 F_Mod_numbers_52
    rw [x_bind_eq (mod_check1 6 _)]
    exact g2
theorem numS {s P vm : Nat} {x3 : Int32} (hw : SW s P x3 vm) {z p : Nat} {c m : x_S} (h : PB z p c m) : ∃ p' c' m', F_Msg_readSteps P x3 c = some (0, c') ∧ F_Mod_numbers (nI s) m = some (0, m') ∧ Fr (FC s) c c' ∧ Fr (FM s) m m' ∧ PB z p' c' m' ∧ (m' 46 38 = 0 → ∃ k, k ≤ 7 ∧ m' 61 s = nI k ∧ DS s P k vm c' m') := by
  have s6 : s < 6 := by rcases hw with ⟨h, -⟩ | ⟨h, -⟩ <;> omega
  have sP : (s = 2 ∧ P = 31) ∨ (s = 3 ∧ P = 35) := by rcases hw with ⟨h, h', -⟩ | ⟨h, h', -⟩ <;> omega
  have f1 : Fr (oC s) c (x_up c P 3 0) := Fr.up (by unfold oC; omega)
  have f2 : Fr (oM s) m (x_up m 61 s 1) := Fr.up (Or.inl ⟨rfl, rfl⟩)
  obtain ⟨p1, v, c1, m1, t1, t2, t3, t4, t5, t6, t7⟩ := sim_take (h.own f1 f2) 3 (by omega)
  have f3 : Fr (oM s) m1 (x_up m1 61 s (nI v)) := Fr.up (Or.inl ⟨rfl, rfl⟩)
  obtain ⟨c2, m2, n1, n2, n3, n4, n5, n6⟩ := sim_need (t6.own (s := s) Fr.rfl f3) (bl (¬ (s = 3 ∧ v = 0))) 6 (by decide)
  obtain ⟨p3, c3, m3, g1, g2, g3, g4, g5, g6, g7⟩ := steps_loop hw (k := v) (by omega) v 0 x_fuel p1 c2 m2 (-1) (by omega) (by unfold x_fuel; omega) n5 (by rw [bQ61 n4]; simp [x_upc]) ⟨by rw [bPn n3 P 3 (by omega), bPn t4 P 3 (by omega)]; simp [x_upc]; rfl, fun t ht => absurd ht (by omega)⟩ (by rw [if_pos rfl])
  refine ⟨p3, c3, m3, ?_, ?_, ((f1.oC.trans t4.P).trans n3.P).trans g3, (((f2.oM.trans t5.Q).trans f3.oM).trans n4.Q).trans g4, g5, fun q => ⟨v, by omega, g6, (g7 q).2⟩⟩
  · unfold F_Msg_readSteps
    rw [x_bind_eq (show F_Spn_clear P c = some (0, x_up c P 3 0) from rfl)]
    unfold F_Msg_readSteps_4
    rw [x_bind_eq (show F_Bit_take 3 _ = _ from t1)]
    have : F_Msg_readSteps_9 P x3 (nI v) c1 = F_Msg_readSteps_26 P x3 (nI v) (bl (¬ (s = 3 ∧ v = 0))) c1 := by
      unfold F_Msg_readSteps_9 F_Msg_readSteps_21
      by_cases q : v = 0
      · rw [if_pos (by rw [q]; rfl)]
        rcases hw with ⟨a, -, b, -⟩ | ⟨a, -, b, -⟩
        · rw [if_pos b, bl_pos (by omega)]
        · rw [if_neg (by rw [b]; decide), bl_neg (by omega)]
      · rw [if_neg (nI_ne0 (by omega) (by omega)), bl_pos (by omega)]
    rw [this]
    unfold F_Msg_readSteps_26
    rw [x_bind_eq n1]
    exact g1
  · unfold F_Mod_numbers
    rw [x_ix_nI s6 (by omega)]
    have : F_Mod_numbers_7 (nI s) (x_up m 61 s 1) = F_Mod_numbers_21 (nI s) (x_up m 61 s 1) := by
      unfold F_Mod_numbers_7
      rcases sP with ⟨rfl, -⟩ | ⟨rfl, -⟩
      · rw [if_neg (show ¬ nI 2 = 0 by decide), if_pos (show nI 2 = 2 from rfl)]
      · rw [if_neg (show ¬ nI 3 = 0 by decide), if_neg (show ¬ nI 3 = 2 by decide), if_pos (show nI 3 = 3 from rfl)]
    rw [this]
    unfold F_Mod_numbers_21
    rw [x_bind_eq (show F_Mod_read 3 _ = _ from t2)]
    unfold F_Mod_numbers_31
    rw [x_ix_nI s6 (by omega)]
    have : F_Mod_numbers_32 (nI s) (x_up m1 61 s (nI v)) = F_Mod_numbers_52 (nI s) (bl (¬ (s = 3 ∧ v = 0))) (x_up m1 61 s (nI v)) := by
      unfold F_Mod_numbers_32 F_Mod_numbers_47
      rcases sP with ⟨rfl, -⟩ | ⟨rfl, -⟩
      · rw [if_neg (show ¬ nI 2 = 3 by decide), bl_pos (by omega)]
      · rw [if_pos (show nI 3 = 3 from rfl), x_ix_nI s6 (by omega), x_up_at, if_pos rfl]
        by_cases q : v = 0
        · rw [if_pos (by rw [q]; decide), bl_neg (by omega)]
        · rw [if_neg (nI_nle (by omega) (by omega)), bl_pos (by omega)]
    rw [this]
    unfold F_Mod_numbers_52
    rw [x_bind_eq n2]
    exact g2
theorem num2 {z p : Nat} {c m : x_S} (h : PB z p c m) : NU 2 z c m := by
  obtain ⟨p', c', m', g1, g2, g3, g4, g5, g6⟩ := numS (s := 2) (P := 31) (x3 := 0) (vm := 63) (Or.inl ⟨rfl, rfl, rfl, rfl⟩) h
  refine ⟨p', c', m', ?_, g2, g3, g4, g5, g6⟩
  unfold F_Msg_readNumbers
  rw [if_neg (show ¬ nI 2 = 0 by decide), if_neg (show ¬ nI 2 = 1 by decide), if_pos (show nI 2 = 2 from rfl), x_bind_eq g1]
  rfl
theorem num3 {z p : Nat} {c m : x_S} (h : PB z p c m) : NU 3 z c m := by
  obtain ⟨p', c', m', g1, g2, g3, g4, g5, g6⟩ := numS (s := 3) (P := 35) (x3 := 1) (vm := 600) (Or.inr ⟨rfl, rfl, rfl, rfl⟩) h
  refine ⟨p', c', m', ?_, g2, g3, g4, g5, g6⟩
  unfold F_Msg_readNumbers
  rw [if_neg (show ¬ nI 3 = 0 by decide), if_neg (show ¬ nI 3 = 1 by decide), if_neg (show ¬ nI 3 = 2 by decide), if_pos (show nI 3 = 3 from rfl), x_bind_eq g1]
  rfl
theorem sim_takePlace {z p : Nat} {c m : x_S} (h : PB z p c m) : ∃ p' v c' m', F_Msg_takePlace c = some (nI (10 * v), c') ∧ F_Mod_read 15 m = some (nI v, m') ∧ v < 32768 ∧ Fr bP c c' ∧ Fr bQ m m' ∧ PB z p' c' m' ∧ (m' 46 38 = 0 → m 46 38 = 0) := by
  obtain ⟨p1, v, c1, m1, t1, t2, t3, t4, t5, t6, t7⟩ := sim_take h 15 (by omega)
  refine ⟨p1, v, c1, m1, ?_, t2, t3, t4, t5, t6, fun q => (t7 q).1⟩
  unfold F_Msg_takePlace
  rw [x_bind_eq (show F_Bit_take 15 c = _ from t1)]
  unfold F_Msg_takePlace_8
  rw [show (10 : Int32) * nI v = nI (10 * v) from pk_mul 10 v]
theorem num1 {z p : Nat} {c m : x_S} (h : PB z p c m) : NU 1 z c m := by
  have f0 : Fr (oM 1) m (x_up m 61 1 1) := Fr.up (Or.inl ⟨rfl, rfl⟩)
  obtain ⟨p1, v1, c1, m1, a1, a2, a3, a4, a5, a6, a7⟩ := sim_takePlace (h.own (s := 1) Fr.rfl f0)
  have fc1 : Fr (oC 1) c1 (x_up c1 24 6 (nI (10 * v1))) := Fr.up (by unfold oC; omega)
  have fm1 : Fr (oM 1) m1 (x_up m1 62 21 (nI (10 * v1))) := upM (by omega) (by omega)
  obtain ⟨p2, v2, c2, m2, b1, b2, b3, b4, b5, b6, b7⟩ := sim_take (a6.own fc1 fm1) 10 (by omega)
  have fc2 : Fr (oC 1) c2 (x_up c2 24 7 (nI v2)) := Fr.up (by unfold oC; omega)
  have fm2 : Fr (oM 1) m2 (x_up m2 62 22 (nI v2)) := upM (by omega) (by omega)
  obtain ⟨p3, v3, c3, m3, d1, d2, d3, d4, d5, d6, d7⟩ := sim_take (b6.own fc2 fm2) 2 (by omega)
  obtain ⟨c4, m4, n1, n2, n3, n4, n5, n6⟩ := sim_need d6 (bl (¬ (1 : Int32) < nI v3)) 6 (by decide)
  obtain ⟨e, he, hE⟩ : ∃ e : Int32, (e = if nI v3 = 0 then (2 : Int32) else 3) ∧ (e = 2 ∨ e = 3) := by
    by_cases q : nI v3 = 0
    · exact ⟨2, by rw [if_pos q], Or.inl rfl⟩
    · exact ⟨3, by rw [if_neg q], Or.inr rfl⟩
  have fc3 : Fr (oC 1) c4 (x_up c4 24 8 e) := Fr.up (by unfold oC; omega)
  have fm3 : Fr (oM 1) m4 (x_up m4 62 23 e) := upM (by omega) (by omega)
  refine ⟨p3, x_up c4 24 8 e, x_up m4 62 23 e, ?_, ?_, (((((a4.P.trans fc1.oC).trans b4.P).trans fc2.oC).trans d4.P).trans n3.P).trans fc3.oC, ((((((f0.oM.trans a5.Q).trans fm1.oM).trans b5.Q).trans fm2.oM).trans d5.Q).trans n4.Q).trans fm3.oM, n5.own fc3 fm3, fun q => ?_⟩
  · have : F_Msg_readAuthority c = some (0, x_up c4 24 8 e) := by
      unfold F_Msg_readAuthority
      rw [x_bind_eq a1]
      unfold F_Msg_readAuthority_5 F_Msg_readAuthority_8
      rw [x_bind_eq (show F_Bit_take 10 _ = _ from b1)]
      unfold F_Msg_readAuthority_15 F_Msg_readAuthority_18
      rw [x_bind_eq (show F_Bit_take 2 _ = _ from d1)]
      unfold F_Msg_readAuthority_23
      rw [ite01 (fun b => F_Msg_readAuthority_35 (nI v3) b c3)]
      unfold F_Msg_readAuthority_35
      rw [x_bind_eq n1]
      unfold F_Msg_readAuthority_40 F_Msg_readAuthority_50 F_Msg_readAuthority_53
      rw [he]
      by_cases q : nI v3 = 0
      · rw [if_pos q, if_pos q]
      · rw [if_neg q, if_neg q]
    unfold F_Msg_readNumbers
    rw [if_neg (show ¬ nI 1 = 0 by decide), if_pos (show nI 1 = 1 from rfl), x_bind_eq this]
    rfl
  · unfold F_Mod_numbers
    rw [x_ix_nI (by omega) (by omega)]
    unfold F_Mod_numbers_7
    rw [if_neg (show ¬ nI 1 = 0 by decide), if_neg (show ¬ nI 1 = 2 by decide), if_neg (show ¬ nI 1 = 3 by decide), if_pos (show nI 1 = 1 from rfl), x_bind_eq a2]
    unfold F_Mod_numbers_219
    rw [show (10 : Int32) * nI v1 = nI (10 * v1) from pk_mul 10 v1, x_bind_eq (show F_Mod_tell (nI 1) 0 0 _ m1 = some (0, x_up m1 62 21 (nI (10 * v1))) from mod_tell 1 0 0 _ (by omega) (by omega) (by omega))]
    unfold F_Mod_numbers_223
    rw [x_bind_eq (show F_Mod_read 10 _ = _ from b2)]
    unfold F_Mod_numbers_233
    rw [x_bind_eq (show F_Mod_tell (nI 1) 0 1 _ m2 = some (0, x_up m2 62 22 (nI v2)) from mod_tell 1 0 1 _ (by omega) (by omega) (by omega))]
    unfold F_Mod_numbers_236
    rw [x_bind_eq (show F_Mod_read 2 _ = _ from d2)]
    unfold F_Mod_numbers_241
    rw [ite01 (fun b => F_Mod_numbers_253 (nI 1) (nI v3) b m3)]
    unfold F_Mod_numbers_253
    rw [x_bind_eq n2]
    unfold F_Mod_numbers_258 F_Mod_numbers_271
    have tl : ∀ y, F_Mod_tell (nI 1) 0 2 y m4 = some (0, x_up m4 62 23 y) := fun y => mod_tell 1 0 2 _ (by omega) (by omega) (by omega)
    rw [x_bind_eq (tl 2), x_bind_eq (tl 3), he]
    by_cases q : nI v3 = 0
    · rw [if_pos q, if_pos q]; rfl
    · rw [if_neg q, if_neg q]; rfl
  · show D1 _ _
    have v10 : (nI (10 * v1)).toInt = 10 * v1 := by rw [nI_toInt (by omega)]; omega
    have v20 : (nI v2).toInt = v2 := nI_toInt (by omega)
    have m21 : x_up m4 62 23 e 62 21 = nI (10 * v1) := by simp [x_upc, bQ62 n4, bQ62 d5, bQ62 b5]
    have m22 : x_up m4 62 23 e 62 22 = nI v2 := by simp [x_upc, bQ62 n4, bQ62 d5]
    have m23 : x_up m4 62 23 e 62 23 = e := by simp [x_upc]
    refine ⟨?_, ?_, ?_, ?_, ?_, ?_⟩
    · rw [m21]; simp [x_upc, bPn n3, bPn d4, bPn b4]
    · rw [m22]; simp [x_upc, bPn n3, bPn d4]
    · rw [m23]; simp [x_upc]
    · rw [m21]; unfold x_bd; omega
    · rw [m22]; unfold x_bd; omega
    · rw [m23]; exact hE
theorem num4 {z p : Nat} {c m : x_S} (h : PB z p c m) : NU 4 z c m := by
  have f0 : Fr (oM 4) m (x_up m 61 4 1) := Fr.up (Or.inl ⟨rfl, rfl⟩)
  obtain ⟨p1, v1, c1, m1, a1, a2, a3, a4, a5, a6, a7⟩ := sim_take (h.own (s := 4) Fr.rfl f0) 8 (by omega)
  have fc1 : Fr (oC 4) c1 (x_up c1 24 9 (nI v1)) := Fr.up (by unfold oC; omega)
  have fm1 : Fr (oM 4) m1 (x_up m1 62 84 (nI v1)) := upM (by omega) (by omega)
  obtain ⟨p2, v2, c2, m2, b1, b2, b3, b4, b5, b6, b7⟩ := sim_takePlace (a6.own fc1 fm1)
  have fc2 : Fr (oC 4) c2 (x_up c2 24 10 (nI (10 * v2))) := Fr.up (by unfold oC; omega)
  have fm2 : Fr (oM 4) m2 (x_up m2 62 85 (nI (10 * v2))) := upM (by omega) (by omega)
  obtain ⟨p3, v3, c3, m3, d1, d2, d3, d4, d5, d6, d7⟩ := sim_takePlace (b6.own fc2 fm2)
  have fc3 : Fr (oC 4) c3 (x_up c3 24 11 (nI (10 * v3))) := Fr.up (by unfold oC; omega)
  have fm3 : Fr (oM 4) m3 (x_up m3 62 86 (nI (10 * v3))) := upM (by omega) (by omega)
  obtain ⟨c4, m4, n1, n2, n3, n4, n5, n6⟩ := sim_need (d6.own fc3 fm3) (bl (¬ nI (10 * v3) = 0)) 6 (by decide)
  obtain ⟨p5, v5, w5, c5, m5, g1, g2, g3, g4, g5, g6, g7, g8⟩ := sim_takeLimit n5
  have fc5 : Fr (oC 4) c5 (x_up c5 24 12 (nI w5)) := Fr.up (by unfold oC; omega)
  have fm5 : Fr (oM 4) m5 (x_up m5 62 87 (nI w5)) := upM (by omega) (by omega)
  refine ⟨p5, x_up c5 24 12 (nI w5), x_up m5 62 87 (nI w5), ?_, ?_, (((((((a4.P.trans fc1.oC).trans b4.P).trans fc2.oC).trans d4.P).trans fc3.oC).trans n3.P).trans g5.P).trans fc5.oC, ((((((((f0.oM.trans a5.Q).trans fm1.oM).trans b5.Q).trans fm2.oM).trans d5.Q).trans fm3.oM).trans n4.Q).trans g6.Q).trans fm5.oM, g7.own fc5 fm5, fun q => ?_⟩
  · have : F_Msg_readRestriction c = some (0, x_up c5 24 12 (nI w5)) := by
      unfold F_Msg_readRestriction
      rw [x_bind_eq (show F_Bit_take 8 _ = _ from a1)]
      unfold F_Msg_readRestriction_7 F_Msg_readRestriction_10
      rw [x_bind_eq b1]
      unfold F_Msg_readRestriction_15 F_Msg_readRestriction_18
      rw [x_bind_eq d1]
      unfold F_Msg_readRestriction_23 F_Msg_readRestriction_26
      rw [x_up_at, if_pos rfl, ite01 (fun b => F_Msg_readRestriction_39 b (x_up c3 24 11 (nI (10 * v3))))]
      unfold F_Msg_readRestriction_39
      rw [x_bind_eq n1]
      unfold F_Msg_readRestriction_44
      rw [x_bind_eq g1]
      rfl
    unfold F_Msg_readNumbers
    rw [if_neg (show ¬ nI 4 = 0 by decide), if_neg (show ¬ nI 4 = 1 by decide), if_neg (show ¬ nI 4 = 2 by decide), if_neg (show ¬ nI 4 = 3 by decide), if_pos (show nI 4 = 4 from rfl), x_bind_eq this]
    rfl
  · unfold F_Mod_numbers
    rw [x_ix_nI (by omega) (by omega)]
    unfold F_Mod_numbers_7
    rw [if_neg (show ¬ nI 4 = 0 by decide), if_neg (show ¬ nI 4 = 2 by decide), if_neg (show ¬ nI 4 = 3 by decide), if_neg (show ¬ nI 4 = 1 by decide), x_bind_eq (show F_Mod_read 8 _ = _ from a2)]
    unfold F_Mod_numbers_287
    rw [x_bind_eq (show F_Mod_tell (nI 4) 0 0 _ m1 = some (0, x_up m1 62 84 (nI v1)) from mod_tell 4 0 0 _ (by omega) (by omega) (by omega))]
    unfold F_Mod_numbers_290
    rw [if_pos (show nI 4 = 4 from rfl), x_bind_eq b2]
    unfold F_Mod_numbers_307
    rw [show (10 : Int32) * nI v2 = nI (10 * v2) from pk_mul 10 v2, x_bind_eq (show F_Mod_tell (nI 4) 0 1 _ m2 = some (0, x_up m2 62 85 (nI (10 * v2))) from mod_tell 4 0 1 _ (by omega) (by omega) (by omega))]
    unfold F_Mod_numbers_311
    rw [x_bind_eq d2]
    unfold F_Mod_numbers_323
    rw [show (10 : Int32) * nI v3 = nI (10 * v3) from pk_mul 10 v3, x_bind_eq (show F_Mod_tell (nI 4) 0 2 _ m3 = some (0, x_up m3 62 86 (nI (10 * v3))) from mod_tell 4 0 2 _ (by omega) (by omega) (by omega))]
    unfold F_Mod_numbers_327
    have tt : F_Mod_told (nI 4) 0 2 (x_up m3 62 86 (nI (10 * v3))) = some (x_up m3 62 86 (nI (10 * v3)) 62 86, x_up m3 62 86 (nI (10 * v3))) := mod_told 4 0 2 (by omega) (by omega) (by omega)
    rw [x_up_at, if_pos rfl] at tt
    rw [x_bind_eq tt]
    unfold F_Mod_numbers_335
    rw [ite01 (fun b => F_Mod_numbers_343 (nI 4) b (x_up m3 62 86 (nI (10 * v3))))]
    have hb : bl (¬ nI (10 * v3) ≤ 0) = bl (¬ nI (10 * v3) = 0) := by
      by_cases q : v3 = 0
      · rw [bl_neg (by rw [q]; decide), bl_neg (by rw [q]; decide)]
      · rw [bl_pos (nI_nle (by omega) (by omega)), bl_pos (nI_ne0 (by omega) (by omega))]
    rw [hb]
    unfold F_Mod_numbers_343
    rw [x_bind_eq n2]
    unfold F_Mod_numbers_348
    rw [x_bind_eq g2]
    unfold F_Mod_numbers_358
    rw [x_bind_eq (g3 m5)]
    unfold F_Mod_numbers_361
    rw [x_bind_eq (show F_Mod_tell (nI 4) 1 0 _ m5 = some (0, x_up m5 62 87 (nI w5)) from mod_tell 4 1 0 _ (by omega) (by omega) (by omega))]
    rfl
  · show D4 _ _
    have q' : m5 46 38 = 0 := by rw [x_up_ne (by decide)] at q; exact q
    have hv3 : v3 ≠ 0 := by
      intro w
      have := bl_ne.mp (n6 (g8 q')).2
      exact this (by rw [w]; rfl)
    have v10 : (nI (10 * v2)).toInt = 10 * v2 := by rw [nI_toInt (by omega)]; omega
    have v20 : (nI (10 * v3)).toInt = 10 * v3 := by rw [nI_toInt (by omega)]; omega
    have v30 : (nI w5).toInt = w5 := nI_toInt (by omega)
    have m84 : x_up m5 62 87 (nI w5) 62 84 = nI v1 := by simp [x_upc, bQ62 g6, bQ62 n4, bQ62 d5, bQ62 b5]
    have m85 : x_up m5 62 87 (nI w5) 62 85 = nI (10 * v2) := by simp [x_upc, bQ62 g6, bQ62 n4, bQ62 d5]
    have m86 : x_up m5 62 87 (nI w5) 62 86 = nI (10 * v3) := by simp [x_upc, bQ62 g6, bQ62 n4]
    have m87 : x_up m5 62 87 (nI w5) 62 87 = nI w5 := by simp [x_upc]
    refine ⟨?_, ?_, ?_, ?_, ?_, ?_, ?_, ?_⟩
    · rw [m84]; simp [x_upc, bPn g5, bPn n3, bPn d4, bPn b4]
    · rw [m85]; simp [x_upc, bPn g5, bPn n3, bPn d4]
    · rw [m86]; simp [x_upc, bPn g5, bPn n3]
    · rw [m87]; simp [x_upc]
    · rw [m85]; unfold x_bd; omega
    · rw [m86]; unfold x_bd; omega
    · rw [m87]; unfold x_bd; omega
    · rw [m84, nI_toInt (by omega)]; omega
theorem num5 {z p : Nat} {c m : x_S} (h : PB z p c m) : NU 5 z c m := by
  have f0 : Fr (oM 5) m (x_up m 61 5 1) := Fr.up (Or.inl ⟨rfl, rfl⟩)
  obtain ⟨p1, v1, c1, m1, a1, a2, a3, a4, a5, a6, a7⟩ := sim_take (h.own (s := 5) Fr.rfl f0) 8 (by omega)
  have fc1 : Fr (oC 5) c1 (x_up c1 24 13 (nI v1)) := Fr.up (by unfold oC; omega)
  have fm1 : Fr (oM 5) m1 (x_up m1 62 105 (nI v1)) := upM (by omega) (by omega)
  refine ⟨p1, x_up c1 24 13 (nI v1), x_up m1 62 105 (nI v1), ?_, ?_, a4.P.trans fc1.oC, (f0.oM.trans a5.Q).trans fm1.oM, a6.own fc1 fm1, fun q => ?_⟩
  · unfold F_Msg_readNumbers
    rw [if_neg (show ¬ nI 5 = 0 by decide), if_neg (show ¬ nI 5 = 1 by decide), if_neg (show ¬ nI 5 = 2 by decide), if_neg (show ¬ nI 5 = 3 by decide), if_neg (show ¬ nI 5 = 4 by decide), x_bind_eq (show F_Bit_take 8 _ = _ from a1)]
    rfl
  · unfold F_Mod_numbers
    rw [x_ix_nI (by omega) (by omega)]
    unfold F_Mod_numbers_7
    rw [if_neg (show ¬ nI 5 = 0 by decide), if_neg (show ¬ nI 5 = 2 by decide), if_neg (show ¬ nI 5 = 3 by decide), if_neg (show ¬ nI 5 = 1 by decide), x_bind_eq (show F_Mod_read 8 _ = _ from a2)]
    unfold F_Mod_numbers_287
    rw [x_bind_eq (show F_Mod_tell (nI 5) 0 0 _ m1 = some (0, x_up m1 62 105 (nI v1)) from mod_tell 5 0 0 _ (by omega) (by omega) (by omega))]
    unfold F_Mod_numbers_290
    rw [if_neg (show ¬ nI 5 = 4 by decide)]
    rfl
  · show x_up c1 24 13 (nI v1) 24 13 = x_up m1 62 105 (nI v1) 62 105
    simp [x_upc]
theorem sim_numbers {s z p : Nat} (hs : s < 6) {c m : x_S} (h : PB z p c m) : NU s z c m := by
  match s, hs with
  | 0, _ => exact num0 h
  | 1, _ => exact num1 h
  | 2, _ => exact num2 h
  | 3, _ => exact num3 h
  | 4, _ => exact num4 h
  | 5, _ => exact num5 h
