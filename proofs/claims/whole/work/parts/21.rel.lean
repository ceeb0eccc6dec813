/-! the relation -/
def RP (cnt : Int32) (f l v p2 v2 : Nat → Int32) (vm : Int) : Prop := ∃ k : Nat, k ≤ 7 ∧ cnt = nI k ∧ ∀ i, i < k → f i = p2 i ∧ v i = v2 i ∧ 0 ≤ (p2 i).toInt ∧ (p2 i).toInt ≤ 327670 ∧ 0 ≤ (v2 i).toInt ∧ (v2 i).toInt ≤ vm ∧ l i = if i + 1 < k then p2 (i + 1) - 1 else 2147483647
def RM (cnt : Int32) (pl nu ac pa mpl mnu mac mpa : Nat → Int32) : Prop := ∃ k : Nat, k ≤ 7 ∧ cnt = nI k ∧ ∀ i, i < k → pl i = mpl i ∧ nu i = mnu i ∧ ac i = mac i ∧ pa i = mpa i ∧ 0 ≤ (mpl i).toInt ∧ (mpl i).toInt ≤ 327670 ∧ 0 ≤ (mac i).toInt ∧ (mac i).toInt ≤ 63
def RR (cnt : Int32) (nu f l v mnu mp ml mv : Nat → Int32) : Prop := ∃ k : Nat, k ≤ 6 ∧ cnt = nI k ∧ (∃ a b : Nat → Nat, (∀ i, i < k → a i < k ∧ b i < k ∧ a (b i) = i ∧ b (a i) = i) ∧ ∀ i, i < k → nu (a i) = mnu i ∧ f (a i) = mp i ∧ l (a i) = mp i + ml i - 1 ∧ v (a i) = mv i) ∧ (∀ i, i < k → 0 ≤ (mp i).toInt ∧ (mp i).toInt ≤ 327670 ∧ 1 ≤ (ml i).toInt ∧ (ml i).toInt ≤ 327670 ∧ 0 ≤ (mv i).toInt ∧ (mv i).toInt ≤ 600) ∧ ∀ i j, i < k → j < k → 0 ≤ (mnu i).toInt ∧ (mnu i = mnu j → i = j)
def RB (cnt : Int32) (row mrow : Nat → Int32) : Prop := ∃ z : Nat, z ≤ 600 ∧ cnt = nI z ∧ ∀ i, i < z → row i = mrow i ∧ (mrow i = 0 ∨ mrow i = 1)
def RE (c m : x_S) : Prop := c 0 0 = m 46 2 ∧ c 42 0 = m 46 0 ∧ c 42 1 = m 46 1 ∧ c 1 0 = m 46 3 ∧ c 1 1 = m 46 4 ∧ c 1 2 = m 46 5 ∧ c 0 8 = m 46 6 ∧ c 0 10 = m 46 7 ∧ c 2 4 = m 46 8 ∧ c 2 5 = m 46 9 ∧ c 2 6 = m 46 10 ∧ c 0 9 = m 46 12 ∧ c 0 12 = m 46 29 ∧ c 0 13 = m 46 30 ∧ c 39 0 = m 46 31 ∧ c 39 1 = m 46 32 ∧ c 39 2 = m 46 33 ∧ c 0 11 = m 46 34 ∧ c 22 1 = m 46 35 ∧ c 3 3 = m 46 13 ∧ c 7 3 = m 46 16 ∧ c 17 4 = m 46 19 ∧ c 13 3 = m 46 24
def RA (c m : x_S) : Prop := m 46 8 ≠ 0 → c 2 7 = m 46 11 ∧ (m 46 11 = 2 ∨ m 46 11 = 3)
def x_bd (x : Int32) (a b : Int) : Prop := a ≤ x.toInt ∧ x.toInt ≤ b
def RV (n : Nat) (m : x_S) : Prop := x_bd (m 46 2) 0 4000 ∧ x_bd (m 46 0) 4 40 ∧ x_bd (m 46 1) 2 40 ∧ x_bd (m 46 3) (-400000 - 1000 * n) (400000 + 1000 * n) ∧ x_bd (m 46 4) (-400000 - 1000 * n) (400000 + 1000 * n) ∧ x_bd (m 46 5) 0 532 ∧ x_bd (m 46 9) 0 327670 ∧ x_bd (m 46 10) 0 1023 ∧ (m 46 29 = 0 ∨ m 46 29 = 1) ∧ (m 46 31 = 0 ∨ m 46 31 = 1) ∧ (m 46 32 = 0 ∨ m 46 32 = 1)
def RD (c m : x_S) : Prop := RP (c 3 3) (c 4) (c 5) (c 6) (m 47) (m 48) 600 ∧ RP (c 7 3) (c 8) (c 9) (c 10) (m 49) (m 50) 63 ∧ RM (c 17 4) (c 18) (c 19) (c 20) (c 21) (m 51) (m 52) (m 53) (m 54) ∧ RR (c 13 3) (c 12) (c 14) (c 15) (c 16) (m 55) (m 56) (m 57) (m 58) ∧ RB (c 22 1) (c 23) (m 59)
def RNn (c m : x_S) : Prop := RN (c 40) (c 41) (m 46 42) (m 63)
def R (n : Nat) (c m : x_S) : Prop := RE c m ∧ RA c m ∧ RV n m ∧ RD c m ∧ RNn c m
theorem RV.more {n : Nat} {m : x_S} (h : RV n m) : RV (n + 1) m := by
  obtain ⟨h1, h2, h3, h4, h5, h6, h7, h8, h9, h10, h11⟩ := h
  unfold x_bd at *
  exact ⟨h1, h2, h3, ⟨by omega, by omega⟩, ⟨by omega, by omega⟩, h6, h7, h8, h9, h10, h11⟩
theorem R.more {n : Nat} {c m : x_S} (h : R n c m) : R (n + 1) c m := ⟨h.1, h.2.1, h.2.2.1.more, h.2.2.2.1, h.2.2.2.2⟩
/-- a question changes nothing -/
theorem R.ask {n : Nat} {c m : x_S} (h : R n c m) {f g : Option (Int32 × x_S)} {r : Int32} (hf : f = some (r, c)) (hg : g = some (r, m)) : x_eqv R n f g := ⟨r, c, m, hf, hg, h.more⟩
theorem sim_mode {n : Nat} {c m : x_S} (h : R n c m) : x_eqv R n (F_G_mode c) (F_Mod_mode m) := by
  have e := h.1.2.2.2.2.2.2.1
  exact h.ask (r := m 46 6) (by unfold F_G_mode; rw [e]) rfl
theorem sim_state {n : Nat} {c m : x_S} (h : R n c m) (x : Int32) : x_eqv R n (F_G_state x c) (F_Mod_state x m) := by
  obtain ⟨e1, e2, e3, e4, e5, e6, e7, e8, e9, e10, e11, e12, e13, e14, e15, e16, e17, e18, e19, e20, e21, e22, e23⟩ := h.1
  unfold F_G_state F_Mod_state F_G_state_88 F_Mod_state_76
  rw [e4, e5, e6, e17, e13, e8, e19]
  by_cases h0 : x = 0
  · rw [if_pos h0, if_pos h0]; exact h.ask rfl rfl
  rw [if_neg h0, if_neg h0]
  by_cases h1 : x = 1
  · rw [if_pos h1, if_pos h1]; exact h.ask rfl rfl
  rw [if_neg h1, if_neg h1]
  by_cases h2 : x = 2
  · rw [if_pos h2, if_pos h2]; exact h.ask rfl rfl
  rw [if_neg h2, if_neg h2]
  by_cases h3 : x = 3
  · rw [if_pos h3, if_pos h3]; exact h.ask rfl rfl
  rw [if_neg h3, if_neg h3]
  by_cases h4 : x = 4
  · rw [if_pos h4, if_pos h4]
    by_cases h5 : m 46 29 = 0
    · rw [if_pos h5, if_pos h5]; exact h.ask rfl rfl
    · rw [if_neg h5, if_neg h5]; exact h.ask rfl rfl
  rw [if_neg h4, if_neg h4]
  by_cases h5 : x = 5
  · rw [if_pos h5, if_pos h5]; exact h.ask rfl rfl
  rw [if_neg h5, if_neg h5]
  by_cases h6 : x = 6
  · rw [if_pos h6, if_pos h6]; exact h.ask rfl rfl
  rw [if_neg h6, if_neg h6]
  exact h.ask rfl rfl
theorem sim_note {n : Nat} {c m : x_S} (h : R n c m) (x : Int32) : x_eqv R n (F_G_note x c) (F_Mod_note x m) := by
  obtain ⟨kk, q, hk, hq, h1, h2, h3, h4⟩ := h.2.2.2.2
  unfold F_G_note F_G_note_8 F_Not_get F_Not_get_12 F_Mod_note F_Mod_note_12 F_Mod_note_22
  rw [h1, h2, h3]
  by_cases hx : x < 0
  · rw [if_pos hx, if_pos hx]; exact h.ask rfl rfl
  rw [if_neg hx, if_neg hx]
  by_cases hx2 : x < nI kk
  · rw [if_pos hx2, if_pos hx2]
    obtain ⟨j, hj, rfl⟩ := nI_of hx
    have hj2 : j < kk := (nI_ltI hj (by omega)).mp hx2
    have e : ((nI q - 1) - nI j) + 16 = nI (q + 15 - j) := by
      apply Int32.toInt_inj.mp
      have q1 : (nI q).toInt = q := nI_toInt (by omega)
      have q2 : (nI j).toInt = j := nI_toInt (by omega)
      have q3 : ((1 : Int32)).toInt = 1 := by decide
      have q4 : ((16 : Int32)).toInt = 16 := by decide
      have s1 : (nI q - 1).toInt = q - 1 := by rw [i_sub] <;> omega
      have s2 : (nI q - 1 - nI j).toInt = q - 1 - j := by rw [i_sub] <;> omega
      rw [i_add (by omega) (by omega), s2, q4, nI_toInt (by omega)]
      omega
    rw [e, show (nI (q + 15 - j) - nI (q + 15 - j) / 16 * 16 : Int32) = nI ((q + 15 - j) % 16) from pk_rem (d := 16) (by omega) (by omega) (by omega), x_ix_nI (by omega) (by omega), x_ix_nI (by omega) (by omega), h4 j hj2]
    exact h.ask rfl rfl
  · rw [if_neg hx2, if_neg hx2]; exact h.ask rfl rfl
theorem sim_marks {n : Nat} {c m : x_S} (h : R n c m) (x : Int32) : x_eqv R n (F_G_marks x c) (F_Mod_marks x m) := by
  have e22 := h.1.2.2.2.2.2.2.2.2.2.2.2.2.2.2.2.2.2.2.2.2.2.1
  obtain ⟨k, hk, h1, h2⟩ := h.2.2.2.1.2.2.1
  unfold F_G_marks F_G_marks_11 F_Mrk_shown F_Mrk_shown_12 F_Mrk_shown_47 F_Mod_marks F_Mod_marks_12 F_Mod_marks_49 F_Mod_marks_50
  rw [← e22, h1]
  by_cases hx : x < 0
  · rw [if_pos hx, if_pos hx]; exact h.ask rfl rfl
  rw [if_neg hx, if_neg hx]
  by_cases hx2 : x < nI k
  · rw [if_pos hx2, if_pos hx2]
    obtain ⟨j, hj, rfl⟩ := nI_of hx
    have hj2 : j < k := (nI_ltI hj (by omega)).mp hx2
    obtain ⟨g1, g2, g3, g4, -⟩ := h2 j hj2
    simp only [x_ix_nI (show j < 7 by omega) (by omega), g1, g2, g4]
    by_cases hp : m 54 j = 0
    · rw [if_pos hp, if_pos hp]; exact h.ask rfl rfl
    · rw [if_neg hp, if_neg hp]; exact h.ask rfl rfl
  · rw [if_neg hx2, if_neg hx2]; exact h.ask rfl rfl
