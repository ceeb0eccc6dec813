/-! the rows of a packet -/
def oC (s q j : Nat) : Prop := (s = 0 ∧ 26 ≤ q ∧ q ≤ 30) ∨ (s = 1 ∧ q = 24 ∧ 6 ≤ j ∧ j ≤ 8) ∨ (s = 2 ∧ 31 ≤ q ∧ q ≤ 34) ∨ (s = 3 ∧ 35 ≤ q ∧ q ≤ 38) ∨ (s = 4 ∧ q = 24 ∧ 9 ≤ j ∧ j ≤ 12) ∨ (s = 5 ∧ q = 24 ∧ j = 13)
def oM (s q j : Nat) : Prop := (q = 61 ∧ j = s) ∨ (q = 62 ∧ 21 * s ≤ j ∧ j < 21 * s + 21)
def FC (s q j : Nat) : Prop := bP q j ∨ oC s q j
def FM (s q j : Nat) : Prop := bQ q j ∨ oM s q j
theorem PB.own {s z p : Nat} {c m c' m' : x_S} (h : PB z p c m) (f : Fr (oC s) c c') (g : Fr (oM s) m m') : PB z p c' m' := h.fr f g (fun q j => by unfold oC; omega) (fun q j => by unfold oM; omega)
theorem Fr.P {s : Nat} {c c' : x_S} (h : Fr bP c c') : Fr (FC s) c c' := h.mono (fun _ _ => Or.inl)
theorem Fr.Q {s : Nat} {c c' : x_S} (h : Fr bQ c c') : Fr (FM s) c c' := h.mono (fun _ _ => Or.inl)
theorem Fr.oC {s : Nat} {c c' : x_S} (h : Fr (oC s) c c') : Fr (FC s) c c' := h.mono (fun _ _ => Or.inr)
theorem Fr.oM {s : Nat} {c c' : x_S} (h : Fr (oM s) c c') : Fr (FM s) c c' := h.mono (fun _ _ => Or.inr)
theorem upM {s k : Nat} {v : Int32} {m : x_S} (h1 : 21 * s ≤ k) (h2 : k < 21 * s + 21) : Fr (oM s) m (x_up m 62 k v) := Fr.up (Or.inr ⟨rfl, h1, h2⟩)
theorem bQ62 {c c' : x_S} (h : Fr bQ c c') (j : Nat) : c' 62 j = c 62 j := h 62 j (fun z => by unfold bQ at z; omega)
theorem bQ61 {c c' : x_S} (h : Fr bQ c c') (j : Nat) : c' 61 j = c 61 j := h 61 j (fun z => by unfold bQ at z; omega)
theorem bPn {c c' : x_S} (h : Fr bP c c') (q j : Nat) (hq : q ≠ 22) : c' q j = c q j := h q j (fun z => hq z.1)
theorem sim_place {z p s i : Nat} {c m : x_S} (h : PB z p c m) (hs : s < 6) (hi : i < 7) (K : Int32 → Int32 → x_S → Option (Int32 × x_S)) {bf : Int32} (hb : bf = if i = 0 then -1 else m 62 (21 * s + 3 * (i - 1) + 0)) : ∃ p' v c' m', F_Msg_takePlaceBehind bf c = some (nI (10 * v), c') ∧ x_bind (F_Mod_read 15 m) (fun r4 c4 => F_Mod_numbers_88 K (nI s) (nI i) (nI s) (nI i) 0 10 r4 c4) = F_Mod_numbers_126 K (nI s) (nI i) m' ∧ v < 32768 ∧ Fr bP c c' ∧ Fr (FM s) m m' ∧ (∀ j, j ≠ 21 * s + 3 * i → m' 62 j = m 62 j) ∧ (∀ j, m' 61 j = m 61 j) ∧ m' 62 (21 * s + 3 * i) = nI (10 * v) ∧ PB z p' c' m' ∧ (m' 46 38 = 0 → m 46 38 = 0) := by
  obtain ⟨p1, v, c1, m1, t1, t2, t3, t4, t5, t6, t7⟩ := sim_take h 15 (by omega)
  have hb2 : PB z p1 c1 (x_up m1 62 (21 * s + 3 * i + 0) (nI (10 * v))) := t6.own (s := s) Fr.rfl (upM (by omega) (by omega))
  obtain ⟨c3, m3, n1, n2, n3, n4, n5, n6⟩ := sim_need hb2 (bl (¬ nI (10 * v) ≤ bf)) 6 (by decide)
  have e10 : (10 : Int32) * nI v = nI (10 * v) := pk_mul 10 v
  have at2 : ∀ j, x_up m1 62 (21 * s + 3 * i + 0) (nI (10 * v)) 62 j = if j = 21 * s + 3 * i then nI (10 * v) else m 62 j := fun j => by
    rw [x_up_at, bQ62 t5]
    rfl
  refine ⟨p1, v, c3, m3, ?_, ?_, t3, t4.trans n3, (t5.Q.trans (upM (by omega) (by omega)).oM).trans n4.Q, fun j hj => ?_, fun j => ?_, ?_, n5, fun q => ?_⟩
  · unfold F_Msg_takePlaceBehind
    rw [x_bind_eq (show F_Bit_take 15 c = _ from t1)]
    unfold F_Msg_takePlaceBehind_8
    rw [e10, ite01 (fun b => F_Msg_takePlaceBehind_21 (nI (10 * v)) b c1)]
    unfold F_Msg_takePlaceBehind_21
    rw [x_bind_eq n1]
    rfl
  · rw [x_bind_eq (show F_Mod_read 15 m = _ from t2)]
    unfold F_Mod_numbers_88
    rw [e10, x_bind_eq (show F_Mod_tell (nI s) (nI i) 0 (nI (10 * v)) m1 = _ from mod_tell s i 0 _ hs hi (by omega))]
    unfold F_Mod_numbers_92
    by_cases i0 : i = 0
    · rw [if_pos (by rw [i0]; rfl)]
      unfold F_Mod_numbers_116 F_Mod_numbers_121
      have : bl (¬ nI (10 * v) ≤ bf) = 1 := bl_pos (by
        rw [hb, if_pos i0, Int32.le_iff_toInt_le, nI_toInt (by omega)]
        have : (-1 : Int32).toInt = -1 := by decide
        omega)
      rw [this] at n2
      rw [x_bind_eq n2]
    · rw [if_neg (nI_ne0 (by omega) (by omega)), x_bind_eq (show F_Mod_told (nI s) (nI i) 0 _ = _ from mod_told s i 0 hs hi (by omega))]
      unfold F_Mod_numbers_104
      rw [show nI i - 1 = nI (i - 1) from pk_sub (b := 1) (by omega), x_bind_eq (show F_Mod_told (nI s) (nI (i - 1)) 0 _ = _ from mod_told s (i - 1) 0 hs (by omega) (by omega))]
      unfold F_Mod_numbers_113 F_Mod_numbers_116
      have va : x_up m1 62 (21 * s + 3 * i + 0) (nI (10 * v)) 62 (21 * s + 3 * i + 0) = nI (10 * v) := by rw [at2, if_pos (Nat.add_zero _)]
      have vb : x_up m1 62 (21 * s + 3 * i + 0) (nI (10 * v)) 62 (21 * s + 3 * (i - 1) + 0) = m 62 (21 * s + 3 * (i - 1) + 0) := by rw [at2, if_neg (by omega)]
      rw [va, vb, ite01 (fun b => F_Mod_numbers_121 K (nI s) (nI i) b (x_up m1 62 (21 * s + 3 * i + 0) (nI (10 * v))))]
      unfold F_Mod_numbers_121
      rw [hb, if_neg i0] at n2
      rw [x_bind_eq n2]
  · rw [bQ62 n4, at2, if_neg hj]
  · rw [bQ61 n4, x_up_ne (by decide), bQ61 t5]
  · rw [bQ62 n4, at2, if_pos rfl]
  · have := (n6 q).1
    rw [x_up_ne (by decide)] at this
    exact (t7 this).1
/-! marks -/
def DM (i : Nat) (c m : x_S) : Prop := c 26 4 = nI i ∧ ∀ t, t < i → c 27 t = m 62 (3 * t) ∧ c 28 t = m 62 (3 * t + 1) ∧ c 29 t = m 62 (3 * t + 2) ∧ 0 ≤ (m 62 (3 * t)).toInt ∧ (m 62 (3 * t)).toInt ≤ 327670 ∧ 0 ≤ (m 62 (3 * t + 2)).toInt ∧ (m 62 (3 * t + 2)).toInt ≤ 63
theorem cls_mrkAdd {P i : Nat} {c : x_S} (a b d : Int32) (hi : i < 7) (h : c P 4 = nI i) : F_Mrk_add P a b d c = some (0, x_up (x_up (x_up (x_up (x_up c (P + 1) i a) (P + 2) i b) (P + 3) i d) (P + 4) i 0) P 4 (nI (i + 1))) := by
  have k1 : ∀ {c : x_S} {q : Nat} {v : Int32}, q ≠ P → c P 4 = nI i → x_up c q i v P 4 = nI i := fun hq hc => by rw [x_up_ne (Ne.symm hq)]; exact hc
  have h1 : x_up c (P + 1) i a P 4 = nI i := k1 (by omega) h
  have h2 : x_up (x_up c (P + 1) i a) (P + 2) i b P 4 = nI i := k1 (by omega) h1
  have h3 : x_up (x_up (x_up c (P + 1) i a) (P + 2) i b) (P + 3) i d P 4 = nI i := k1 (by omega) h2
  have h4 : x_up (x_up (x_up (x_up c (P + 1) i a) (P + 2) i b) (P + 3) i d) (P + 4) i 0 P 4 = nI i := k1 (by omega) h3
  unfold F_Mrk_add F_Mrk_add_59
  rw [h, if_neg (show ¬ (7 : Int32) ≤ nI i from nI_ge (b := 7) hi (by omega)), x_ix_nI hi (by omega)]
  unfold F_Mrk_add_19
  rw [h1, x_ix_nI hi (by omega)]
  unfold F_Mrk_add_29
  rw [h2, x_ix_nI hi (by omega)]
  unfold F_Mrk_add_39
  rw [h3, x_ix_nI hi (by omega)]
  unfold F_Mrk_add_49 F_Mrk_add_59
  rw [h4, nI_1]
theorem marks_loop {z k : Nat} (hk : k ≤ 7) : ∀ (j i n p : Nat) (c m : x_S) (bf : Int32), i + j = k → j < n → PB z p c m → m 61 0 = nI k → DM i c m → (bf = if i = 0 then -1 else m 62 (21 * 0 + 3 * (i - 1) + 0)) → ∃ p' c' m', F_Msg_readMarks_18 n (nI k) bf (nI i) c = some (0, c') ∧ F_Mod_numbers_59 n 0 (nI i) m = some (0, m') ∧ Fr (FC 0) c c' ∧ Fr (FM 0) m m' ∧ PB z p' c' m' ∧ m' 61 0 = nI k ∧ (m' 46 38 = 0 → m 46 38 = 0 ∧ DM k c' m') := by
  intro j
  induction j with
  | zero =>
    intro i n p c m bf h hn hb hc hD hbf
    obtain ⟨n, rfl⟩ : ∃ q, n = q + 1 := ⟨n - 1, by omega⟩
    have e : i = k := by omega
    subst e
    refine ⟨p, c, m, ?_, ?_, Fr.rfl, Fr.rfl, hb, hc, fun q => ⟨q, hD⟩⟩
    · rw [F_Msg_readMarks_18, if_pos (nI_le (Nat.le_refl _) (by omega))]
      rfl
    · rw [F_Mod_numbers_59, show x_ix (0 : Int32) 6 _ = _ from x_ix_nI (n := 0) (by omega) (by omega), hc, if_pos (nI_le (Nat.le_refl _) (by omega))]
      rfl
  | succ j ih =>
    intro i n p c m bf h hn hb hc hD hbf
    obtain ⟨n, rfl⟩ : ∃ q, n = q + 1 := ⟨n - 1, by omega⟩
    rw [F_Msg_readMarks_18, if_neg (nI_ge (by omega) (by omega)), x_bind_eq (cls_sound c), F_Mod_numbers_59, show x_ix (0 : Int32) 6 _ = _ from x_ix_nI (n := 0) (by omega) (by omega), hc, if_neg (nI_ge (by omega) (by omega)), hb.2.2.2.2.2.2.1]
    unfold F_Msg_readMarks_28
    by_cases q : m 46 38 = 0
    · rw [bl_pos q, if_neg (by decide), if_pos q]
      obtain ⟨p1, v, c1, m1, a1, a2, a3, a4, a5, a6, a7, a8, a9, a10⟩ := sim_place (s := 0) hb (by omega) (show i < 7 by omega) (F_Mod_numbers_59 n) hbf
      rw [x_bind_eq a1, show x_bind (F_Mod_read 15 m) (fun r4 c4 => F_Mod_numbers_88 (F_Mod_numbers_59 n) 0 (nI i) 0 (nI i) 0 10 r4 c4) = _ from a2]
      obtain ⟨p2, v2, c2, m2, b1, b2, b3, b4, b5, b6, b7⟩ := sim_take a9 8 (by omega)
      have hb3 : PB z p2 c2 (x_up m2 62 (21 * 0 + 3 * i + 1) (nI v2)) := b6.own (s := 0) Fr.rfl (upM (by omega) (by omega))
      obtain ⟨p4, v4, c4, m4, d1, d2, d3, d4, d5, d6, d7⟩ := sim_take hb3 6 (by omega)
      have c26 : c4 26 4 = nI i := by rw [bPn d4 26 4 (by decide), bPn b4 26 4 (by decide), bPn a4 26 4 (by decide)]; exact hD.1
      have hadd := cls_mrkAdd (P := 26) (nI (10 * v)) (nI v2) (nI v4) (show i < 7 by omega) c26
      have fcA : Fr (oC 0) c4 (x_up (x_up (x_up (x_up (x_up c4 (26 + 1) i (nI (10 * v))) (26 + 2) i (nI v2)) (26 + 3) i (nI v4)) (26 + 4) i 0) 26 4 (nI (i + 1))) := by
        refine Fr.trans (Fr.trans (Fr.trans (Fr.trans (Fr.up ?_) (Fr.up ?_)) (Fr.up ?_)) (Fr.up ?_)) (Fr.up ?_) <;> exact Or.inl ⟨rfl, by omega, by omega⟩
      have fmA : Fr (oM 0) m4 (x_up m4 62 (21 * 0 + 3 * i + 2) (nI v4)) := upM (by omega) (by omega)
      have m62 : ∀ j, x_up m4 62 (21 * 0 + 3 * i + 2) (nI v4) 62 j = if j = 3 * i + 2 then nI v4 else if j = 3 * i + 1 then nI v2 else if j = 3 * i then nI (10 * v) else m 62 j := by
        intro j
        rw [x_up_at, bQ62 d5, x_up_at, bQ62 b5]
        by_cases w1 : j = 3 * i + 2
        · rw [if_pos (by omega), if_pos w1]
        rw [if_neg (by omega), if_neg w1]
        by_cases w2 : j = 3 * i + 1
        · rw [if_pos (by omega), if_pos w2]
        rw [if_neg (by omega), if_neg w2]
        by_cases w3 : j = 3 * i
        · rw [if_pos w3, w3, ← a8]
          congr 1
          omega
        · rw [if_neg w3, a6 j (by omega)]
      have c0 : ∀ q t, q ≠ 22 → c4 q t = c q t := fun q t hq => by rw [bPn d4 q t hq, bPn b4 q t hq, bPn a4 q t hq]
      obtain ⟨p5, c5, m5, g1, g2, g3, g4, g5, g6, g7⟩ := ih (i + 1) n p4 _ _ (nI (10 * v)) (by omega) (by omega) (d6.own fcA fmA) (by rw [x_up_ne (by decide), bQ61 d5, x_up_ne (by decide), bQ61 b5, a7]; exact hc) (by
        refine ⟨by simp [x_upc], fun t ht => ?_⟩
        have v10 : (nI (10 * v)).toInt = 10 * v := by rw [nI_toInt (by omega)]; omega
        have v40 : (nI v4).toInt = v4 := nI_toInt (by omega)
        rw [m62, m62, m62]
        by_cases e : t = i
        · subst e
          rw [if_neg (by omega), if_neg (by omega), if_pos rfl, if_neg (by omega), if_pos rfl, if_pos rfl, v10, v40]
          refine ⟨by simp [x_upc], by simp [x_upc], by simp [x_upc], by omega, by omega, by omega, by omega⟩
        · obtain ⟨y1, y2, y3, y4⟩ := hD.2 t (by omega)
          rw [if_neg (by omega), if_neg (by omega), if_neg (by omega), if_neg (by omega), if_neg (by omega), if_neg (by omega), if_neg (by omega), if_neg (by omega), if_neg (by omega)]
          refine ⟨?_, ?_, ?_, y4⟩
          · simp [x_upc, e, c0]; exact y1
          · simp [x_upc, e, c0]; exact y2
          · simp [x_upc, e, c0]; exact y3) (by
        rw [if_neg (by omega), m62, if_neg (by omega), if_neg (by omega), if_pos (by omega)])
      refine ⟨p5, c5, m5, ?_, ?_, ?_, ?_, g5, g6, fun w => ?_⟩
      · unfold F_Msg_readMarks_36
        rw [x_bind_eq (show F_Bit_take 8 c1 = _ from b1)]
        unfold F_Msg_readMarks_43
        rw [x_bind_eq (show F_Bit_take 6 c2 = _ from d1)]
        unfold F_Msg_readMarks_58
        rw [x_bind_eq hadd]
        unfold F_Msg_readMarks_61
        rw [nI_1]
        exact g1
      · unfold F_Mod_numbers_126
        rw [if_pos (show nI 0 = 0 from rfl)]
        unfold F_Mod_numbers_148
        rw [x_bind_eq (show F_Mod_read 8 m1 = _ from b2)]
        unfold F_Mod_numbers_151
        rw [if_neg (show ¬ nI 0 = 3 by decide)]
        unfold F_Mod_numbers_169
        rw [x_bind_eq (show F_Mod_tell (nI 0) (nI i) 1 (nI v2) m2 = _ from mod_tell 0 i 1 _ (by omega) (by omega) (by omega))]
        unfold F_Mod_numbers_172
        rw [if_pos (show nI 0 = 0 from rfl), x_bind_eq (show F_Mod_read 6 _ = _ from d2)]
        unfold F_Mod_numbers_186 F_Mod_numbers_190
        rw [x_bind_eq (show F_Mod_tell (nI 0) (nI i) 2 (nI v4) m4 = _ from mod_tell 0 i 2 _ (by omega) (by omega) (by omega))]
        unfold F_Mod_numbers_193
        rw [nI_1]
        exact g2
      · exact (((a4.P.trans b4.P).trans d4.P).trans fcA.oC).trans g3
      · exact ((((a5.trans b5.Q).trans (upM (by omega) (by omega)).oM).trans d5.Q).trans fmA.oM).trans g4
      · exact ⟨q, (g7 w).2⟩
    · rw [bl_neg q, if_pos rfl, if_neg q]
      exact ⟨p, c, m, rfl, rfl, Fr.rfl, Fr.rfl, hb, hc, fun w => absurd w q⟩
