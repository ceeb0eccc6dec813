/-! steps -/
def DS (s P i : Nat) (vm : Int) (c m : x_S) : Prop := c P 3 = nI i ∧ ∀ t, t < i → c (P + 1) t = m 62 (21 * s + 3 * t) ∧ c (P + 3) t = m 62 (21 * s + 3 * t + 1) ∧ 0 ≤ (m 62 (21 * s + 3 * t)).toInt ∧ (m 62 (21 * s + 3 * t)).toInt ≤ 327670 ∧ 0 ≤ (m 62 (21 * s + 3 * t + 1)).toInt ∧ (m 62 (21 * s + 3 * t + 1)).toInt ≤ vm ∧ c (P + 2) t = if t + 1 < i then m 62 (21 * s + 3 * (t + 1)) - 1 else 2147483647
theorem cls_spnAdd {P i : Nat} {c : x_S} (a b d : Int32) (hi : i < 7) (h : c P 3 = nI i) : F_Spn_add P a b d c = some (0, x_up (x_up (x_up (x_up c (P + 1) i a) (P + 2) i b) (P + 3) i d) P 3 (nI (i + 1))) := by
  have k1 : ∀ {c : x_S} {q : Nat} {v : Int32}, q ≠ P → c P 3 = nI i → x_up c q i v P 3 = nI i := fun hq hc => by rw [x_up_ne (Ne.symm hq)]; exact hc
  have h1 : x_up c (P + 1) i a P 3 = nI i := k1 (by omega) h
  have h2 : x_up (x_up c (P + 1) i a) (P + 2) i b P 3 = nI i := k1 (by omega) h1
  have h3 : x_up (x_up (x_up c (P + 1) i a) (P + 2) i b) (P + 3) i d P 3 = nI i := k1 (by omega) h2
  unfold F_Spn_add F_Spn_add_49
  rw [h, if_neg (show ¬ (7 : Int32) ≤ nI i from nI_ge (b := 7) hi (by omega)), x_ix_nI hi (by omega)]
  unfold F_Spn_add_19
  rw [h1, x_ix_nI hi (by omega)]
  unfold F_Spn_add_29
  rw [h2, x_ix_nI hi (by omega)]
  unfold F_Spn_add_39 F_Spn_add_49
  rw [h3, nI_1]
theorem cls_addStep {P i : Nat} {c : x_S} (a d : Int32) (hi : i < 7) (h : c P 3 = nI i) : ∃ c', F_Spn_addStep P a d c = some (0, c') ∧ Fr (fun q _ => P ≤ q ∧ q ≤ P + 3) c c' ∧ c' P 3 = nI (i + 1) ∧ (∀ t, c' (P + 1) t = if t = i then a else c (P + 1) t) ∧ (∀ t, c' (P + 3) t = if t = i then d else c (P + 3) t) ∧ ∀ t, c' (P + 2) t = if t = i then 2147483647 else if t + 1 = i then a - 1 else c (P + 2) t := by
  unfold F_Spn_addStep
  rw [h]
  by_cases i0 : i = 0
  · rw [if_pos (by rw [i0]; decide)]
    unfold F_Spn_addStep_21
    rw [x_bind_eq (cls_spnAdd a 2147483647 d hi h)]
    refine ⟨_, rfl, ?_, ?_, fun t => ?_, fun t => ?_, fun t => ?_⟩
    · refine Fr.trans (Fr.trans (Fr.trans (Fr.up ?_) (Fr.up ?_)) (Fr.up ?_)) (Fr.up ?_) <;> constructor <;> omega
    · simp [x_upc]
    · simp [x_upc]
    · simp [x_upc]
    · simp [x_upc]
      by_cases e : t = i
      · rw [if_pos e, if_pos e]
      · rw [if_neg e, if_neg e, if_neg (by omega)]
  · rw [if_neg (nI_nle (by omega) (by omega)), show nI i - 1 = nI (i - 1) from pk_sub (b := 1) (by omega), x_ix_nI (by omega) (by omega)]
    unfold F_Spn_addStep_21
    rw [x_bind_eq (cls_spnAdd a 2147483647 d hi (by rw [x_up_ne (by omega)]; exact h))]
    refine ⟨_, rfl, ?_, ?_, fun t => ?_, fun t => ?_, fun t => ?_⟩
    · refine Fr.trans (Fr.trans (Fr.trans (Fr.trans (Fr.up ?_) (Fr.up ?_)) (Fr.up ?_)) (Fr.up ?_)) (Fr.up ?_) <;> constructor <;> omega
    · simp [x_upc]
    · simp [x_upc]
    · simp [x_upc]
    · simp [x_upc]
      by_cases e : t = i
      · rw [if_pos e, if_pos e]
      · rw [if_neg e, if_neg e]
        by_cases e2 : t + 1 = i
        · rw [if_pos (by omega), if_pos e2]
        · rw [if_neg (by omega), if_neg e2]
/-- which row of steps -/
def SW (s P : Nat) (x3 : Int32) (vm : Nat) : Prop := (s = 2 ∧ P = 31 ∧ x3 = 0 ∧ vm = 63) ∨ (s = 3 ∧ P = 35 ∧ x3 = 1 ∧ vm = 600)
theorem limit_both {v : Nat} (hv : v < 128) : ∃ w : Nat, w ≤ 600 ∧ (if (600 : Int32) < 5 * nI v then (600 : Int32) else 5 * nI v) = nI w ∧ ∀ m, F_Mod_limitOf (nI v) m = some (nI w, m) := by
  have e5 : (5 : Int32) * nI v = nI (5 * v) := pk_mul 5 v
  unfold F_Mod_limitOf F_Mod_limitOf_18
  rw [e5]
  by_cases q : 5 * v ≤ 600
  · refine ⟨5 * v, q, if_neg (show ¬ nI 600 < nI (5 * v) from nI_nlt q (by omega)), fun m => if_pos (show nI (5 * v) ≤ nI 600 from nI_le q (by omega))⟩
  · refine ⟨600, Nat.le_refl _, if_pos (show nI 600 < nI (5 * v) from nI_lt (by omega) (by omega)), fun m => if_neg (show ¬ nI (5 * v) ≤ nI 600 from nI_ge (by omega) (by omega))⟩
theorem sim_takeLimit {z p : Nat} {c m : x_S} (h : PB z p c m) : ∃ p' v w c' m', F_Msg_takeLimit c = some (nI w, c') ∧ F_Mod_read 7 m = some (nI v, m') ∧ (∀ m, F_Mod_limitOf (nI v) m = some (nI w, m)) ∧ w ≤ 600 ∧ Fr bP c c' ∧ Fr bQ m m' ∧ PB z p' c' m' ∧ (m' 46 38 = 0 → m 46 38 = 0) := by
  obtain ⟨p1, v, c1, m1, t1, t2, t3, t4, t5, t6, t7⟩ := sim_take h 7 (by omega)
  obtain ⟨w, w1, w2, w3⟩ := limit_both (v := v) (by omega)
  refine ⟨p1, v, w, c1, m1, ?_, t2, w3, w1, t4, t5, t6, fun q => (t7 q).1⟩
  unfold F_Msg_takeLimit
  rw [x_bind_eq (show F_Bit_take 7 c = _ from t1)]
  unfold F_Msg_takeLimit_7
  rw [w2]
theorem sim_val {s P vm z p i : Nat} {x3 : Int32} {c m : x_S} (hw : SW s P x3 vm) (h : PB z p c m) (K : Int32 → Int32 → Int32 → Int32 → x_S → Option (Int32 × x_S)) (K' : Int32 → Int32 → x_S → Option (Int32 × x_S)) (x4 x6 s0 : Int32) : ∃ p' w c' m', F_Msg_readSteps_57 P K x3 x4 x6 s0 c = F_Msg_readSteps_79 P K x3 x4 s0 x6 s0 (nI w) c' ∧ F_Mod_numbers_126 K' (nI s) (nI i) m = F_Mod_numbers_169 K' (nI s) (nI i) (nI s) (nI i) 1 (nI w) m' ∧ w ≤ vm ∧ Fr bP c c' ∧ Fr bQ m m' ∧ PB z p' c' m' ∧ (m' 46 38 = 0 → m 46 38 = 0) := by
  unfold F_Msg_readSteps_57 F_Mod_numbers_126
  rcases hw with ⟨rfl, rfl, rfl, rfl⟩ | ⟨rfl, rfl, rfl, rfl⟩
  · obtain ⟨p1, v, c1, m1, t1, t2, t3, t4, t5, t6, t7⟩ := sim_take h 6 (by omega)
    refine ⟨p1, v, c1, m1, ?_, ?_, by omega, t4, t5, t6, fun q => (t7 q).1⟩
    · rw [if_pos rfl, x_bind_eq (show F_Bit_take 6 c = _ from t1)]
    · rw [if_neg (show ¬ nI 2 = 0 by decide), if_pos (show nI 2 = 2 from rfl)]
      unfold F_Mod_numbers_148
      rw [x_bind_eq (show F_Mod_read 6 m = _ from t2)]
      unfold F_Mod_numbers_151
      rw [if_neg (show ¬ nI 2 = 3 by decide)]
  · obtain ⟨p1, v, w, c1, m1, t1, t2, t3, t4, t5, t6, t7, t8⟩ := sim_takeLimit h
    refine ⟨p1, w, c1, m1, ?_, ?_, t4, t5, t6, t7, t8⟩
    · rw [if_neg (by decide), x_bind_eq t1]
      rfl
    · rw [if_neg (show ¬ nI 3 = 0 by decide), if_neg (show ¬ nI 3 = 2 by decide)]
      unfold F_Mod_numbers_148
      rw [x_bind_eq t2]
      unfold F_Mod_numbers_151
      rw [if_pos (show nI 3 = 3 from rfl), x_bind_eq (t3 m1)]
      rfl
theorem steps_loop {s P vm z k : Nat} {x3 : Int32} (hw : SW s P x3 vm) (hk : k ≤ 7) : ∀ (j i n p : Nat) (c m : x_S) (bf : Int32), i + j = k → j < n → PB z p c m → m 61 s = nI k → DS s P i vm c m → (bf = if i = 0 then -1 else m 62 (21 * s + 3 * (i - 1) + 0)) → ∃ p' c' m', F_Msg_readSteps_37 P n x3 (nI k) bf (nI i) c = some (0, c') ∧ F_Mod_numbers_59 n (nI s) (nI i) m = some (0, m') ∧ Fr (FC s) c c' ∧ Fr (FM s) m m' ∧ PB z p' c' m' ∧ m' 61 s = nI k ∧ (m' 46 38 = 0 → m 46 38 = 0 ∧ DS s P k vm c' m') := by
  have s6 : s < 6 := by rcases hw with ⟨h, -⟩ | ⟨h, -⟩ <;> omega
  have sP : (s = 2 ∧ P = 31) ∨ (s = 3 ∧ P = 35) := by rcases hw with ⟨h, h', -⟩ | ⟨h, h', -⟩ <;> omega
  have vm6 : vm ≤ 600 := by rcases hw with ⟨-, -, -, h⟩ | ⟨-, -, -, h⟩ <;> omega
  intro j
  induction j with
  | zero =>
    intro i n p c m bf h hn hb hc hD hbf
    obtain ⟨n, rfl⟩ : ∃ q, n = q + 1 := ⟨n - 1, by omega⟩
    have e : i = k := by omega
    subst e
    refine ⟨p, c, m, ?_, ?_, Fr.rfl, Fr.rfl, hb, hc, fun q => ⟨q, hD⟩⟩
    · rw [F_Msg_readSteps_37, if_pos (nI_le (Nat.le_refl _) (by omega))]
      rfl
    · rw [F_Mod_numbers_59, x_ix_nI s6 (by omega), hc, if_pos (nI_le (Nat.le_refl _) (by omega))]
      rfl
  | succ j ih =>
    intro i n p c m bf h hn hb hc hD hbf
    obtain ⟨n, rfl⟩ : ∃ q, n = q + 1 := ⟨n - 1, by omega⟩
    rw [F_Msg_readSteps_37, if_neg (nI_ge (by omega) (by omega)), x_bind_eq (cls_sound c), F_Mod_numbers_59, x_ix_nI s6 (by omega), hc, if_neg (nI_ge (by omega) (by omega)), hb.2.2.2.2.2.2.1]
    unfold F_Msg_readSteps_48
    by_cases q : m 46 38 = 0
    · rw [bl_pos q, if_neg (by decide), if_pos q]
      obtain ⟨p1, v, c1, m1, a1, a2, a3, a4, a5, a6, a7, a8, a9, a10⟩ := sim_place hb s6 (show i < 7 by omega) (F_Mod_numbers_59 n) hbf
      rw [x_bind_eq a1, a2]
      obtain ⟨p2, w, c2, m2, b1, b2, b3, b4, b5, b6, b7⟩ := sim_val (i := i) hw a9 (F_Msg_readSteps_37 P n) (F_Mod_numbers_59 n) (nI k) (nI i) (nI (10 * v))
      rw [b1, b2]
      have cP : c2 P 3 = nI i := by rw [bPn b4 P 3 (by omega), bPn a4 P 3 (by omega)]; exact hD.1
      obtain ⟨c3, d1, d2, d3, d4, d5, d6⟩ := cls_addStep (P := P) (nI (10 * v)) (nI w) (show i < 7 by omega) cP
      have fcA : Fr (oC s) c2 c3 := d2.mono (fun q j hq => by unfold oC; omega)
      have fmA : Fr (oM s) m2 (x_up (x_up m2 62 (21 * s + 3 * i + 1) (nI w)) 62 (21 * s + 3 * i + 2) 0) := (upM (by omega) (by omega)).trans (upM (by omega) (by omega))
      have m62 : ∀ j, (x_up (x_up m2 62 (21 * s + 3 * i + 1) (nI w)) 62 (21 * s + 3 * i + 2) 0) 62 j = if j = 21 * s + 3 * i + 2 then 0 else if j = 21 * s + 3 * i + 1 then nI w else if j = 21 * s + 3 * i then nI (10 * v) else m 62 j := by
        intro j
        rw [x_up_at, x_up_at, bQ62 b5]
        by_cases w1 : j = 21 * s + 3 * i + 2
        · rw [if_pos w1, if_pos w1]
        rw [if_neg w1, if_neg w1]
        by_cases w2 : j = 21 * s + 3 * i + 1
        · rw [if_pos w2, if_pos w2]
        rw [if_neg w2, if_neg w2]
        by_cases w3 : j = 21 * s + 3 * i
        · rw [if_pos w3, w3, ← a8]
        · rw [if_neg w3, a6 j w3]
      have c0 : ∀ q t, q ≠ 22 → c2 q t = c q t := fun q t hq => by rw [bPn b4 q t hq, bPn a4 q t hq]
      obtain ⟨p5, c5, m5, g1, g2, g3, g4, g5, g6, g7⟩ := ih (i + 1) n p2 _ _ (nI (10 * v)) (by omega) (by omega) (b6.own fcA fmA) (by rw [x_up_ne (by decide), x_up_ne (by decide), bQ61 b5, a7]; exact hc) (by
        refine ⟨d3, fun t ht => ?_⟩
        have v10 : (nI (10 * v)).toInt = 10 * v := by rw [nI_toInt (by omega)]; omega
        have v40 : (nI w).toInt = w := nI_toInt (by omega)
        rw [d4, d5, d6, m62 (21 * s + 3 * t), m62 (21 * s + 3 * t + 1), m62 (21 * s + 3 * (t + 1))]
        by_cases e : t = i
        · subst e
          rw [if_neg (show ¬ 21 * s + 3 * t = 21 * s + 3 * t + 2 by omega), if_neg (show ¬ 21 * s + 3 * t = 21 * s + 3 * t + 1 by omega), if_pos (show 21 * s + 3 * t = 21 * s + 3 * t from rfl), if_neg (show ¬ 21 * s + 3 * t + 1 = 21 * s + 3 * t + 2 by omega), if_pos (show 21 * s + 3 * t + 1 = 21 * s + 3 * t + 1 from rfl), v10, v40, if_pos (show t = t from rfl), if_pos (show t = t from rfl), if_pos (show t = t from rfl), if_neg (show ¬ t + 1 < t + 1 by omega)]
          exact ⟨rfl, rfl, by omega, by omega, by omega, by omega, rfl⟩
        · obtain ⟨y1, y2, y3, y4, y5, y6, y7⟩ := hD.2 t (by omega)
          rw [if_neg (show ¬ 21 * s + 3 * t = 21 * s + 3 * i + 2 by omega), if_neg (show ¬ 21 * s + 3 * t = 21 * s + 3 * i + 1 by omega), if_neg (show ¬ 21 * s + 3 * t = 21 * s + 3 * i by omega), if_neg (show ¬ 21 * s + 3 * t + 1 = 21 * s + 3 * i + 2 by omega), if_neg (show ¬ 21 * s + 3 * t + 1 = 21 * s + 3 * i + 1 by omega), if_neg (show ¬ 21 * s + 3 * t + 1 = 21 * s + 3 * i by omega), if_neg e, if_neg e, if_neg e, c0 _ _ (by omega), c0 _ _ (by omega), c0 _ _ (by omega)]
          refine ⟨y1, y2, y3, y4, y5, y6, ?_⟩
          rw [if_pos (show t + 1 < i + 1 by omega), if_neg (show ¬ 21 * s + 3 * (t + 1) = 21 * s + 3 * i + 2 by omega), if_neg (show ¬ 21 * s + 3 * (t + 1) = 21 * s + 3 * i + 1 by omega)]
          by_cases e2 : t + 1 = i
          · rw [if_pos e2, if_pos (by omega)]
          · rw [if_neg e2, if_neg (by omega), y7, if_pos (by omega)]) (by
        rw [if_neg (by omega), show i + 1 - 1 = i by omega, m62, if_neg (by omega), if_neg (by omega), if_pos (by omega)])
      refine ⟨p5, c5, m5, ?_, ?_, ?_, ?_, g5, g6, fun w => ?_⟩
      · unfold F_Msg_readSteps_79
        rw [x_bind_eq d1]
        unfold F_Msg_readSteps_82
        rw [nI_1]
        exact g1
      · unfold F_Mod_numbers_169
        rw [x_bind_eq (show F_Mod_tell (nI s) (nI i) 1 (nI w) m2 = _ from mod_tell s i 1 _ s6 (by omega) (by omega))]
        unfold F_Mod_numbers_172
        rw [if_neg (nI_ne0 (by omega) (by omega))]
        unfold F_Mod_numbers_190
        rw [x_bind_eq (show F_Mod_tell (nI s) (nI i) 2 0 _ = _ from mod_tell s i 2 _ s6 (by omega) (by omega))]
        unfold F_Mod_numbers_193
        rw [nI_1]
        exact g2
      · exact ((a4.P.trans b4.P).trans fcA.oC).trans g3
      · exact ((a5.trans b5.Q).trans fmA.oM).trans g4
      · exact ⟨q, (g7 w).2⟩
    · rw [bl_neg q, if_pos rfl, if_neg q]
      exact ⟨p, c, m, rfl, rfl, Fr.rfl, Fr.rfl, hb, hc, fun w => absurd w q⟩
