/-! the simulation: what the class's state and the reference's have in common -/
theorem x_up_ne {c : x_S} {P k p : Nat} {v : Int32} (h : p ≠ P) : x_up c P k v p = c p := by
  funext j
  simp [x_up, h]
theorem x_up_at {c : x_S} {P k j : Nat} {v : Int32} : x_up c P k v P j = if j = k then v else c P j := by
  simp [x_up]
theorem x_ix_nI {α : Type} {n N : Nat} {k : Nat → Option α} (h : n < N) (hN : N < 2 ^ 31) : x_ix (nI n) N k = k n := by
  unfold x_ix
  rw [if_neg (nI_in h hN), nI_clamp (by omega)]
theorem x_bind_eq {α : Type} {f : Option (Int32 × x_S)} {k : Int32 → x_S → Option α} {r : Int32} {c : x_S} (h : f = some (r, c)) : x_bind f k = k r c := by
  subst h
  rfl
theorem x_b01_0 {α : Type} {k : Option α} : x_b01 0 k = k := by unfold x_b01; rw [if_pos (Or.inl rfl)]
theorem x_b01_1 {α : Type} {k : Option α} : x_b01 1 k = k := by unfold x_b01; rw [if_pos (Or.inr rfl)]
/-! numbers -/
theorem i_add {a b : Int32} (h1 : -2147483648 ≤ a.toInt + b.toInt) (h2 : a.toInt + b.toInt < 2147483648) : (a + b).toInt = a.toInt + b.toInt := by
  rw [Int32.toInt_add]
  exact Int.bmod_eq_of_le (by omega) (by omega)
theorem i_sub {a b : Int32} (h1 : -2147483648 ≤ a.toInt - b.toInt) (h2 : a.toInt - b.toInt < 2147483648) : (a - b).toInt = a.toInt - b.toInt := by
  rw [Int32.toInt_sub]
  exact Int.bmod_eq_of_le (by omega) (by omega)
theorem i_mul {a b : Int32} (h1 : -2147483648 ≤ a.toInt * b.toInt) (h2 : a.toInt * b.toInt < 2147483648) : (a * b).toInt = a.toInt * b.toInt := by
  rw [Int32.toInt_mul]
  exact Int.bmod_eq_of_le (by omega) (by omega)
/-! the notes -/
def RN (n r : Nat → Int32) (k : Int32) (mr : Nat → Int32) : Prop := ∃ kk q : Nat, kk ≤ 16 ∧ q < 16 ∧ n 1 = nI kk ∧ k = nI kk ∧ n 2 = nI q ∧ ∀ j, j < kk → r ((q + 15 - j) % 16) = mr j
/-- nothing but the notes -/
def frC (c c' : x_S) : Prop := ∀ p, p ≠ 40 → p ≠ 41 → c' p = c p
def frM (m m' : x_S) : Prop := (∀ p, p ≠ 46 → p ≠ 63 → m' p = m p) ∧ ∀ j, j ≠ 42 → m' 46 j = m 46 j
theorem not_add {c : x_S} {kk q : Nat} (x : Int32) (hk : kk ≤ 16) (hq : q < 16) (h1 : c 40 1 = nI kk) (h2 : c 40 2 = nI q) : ∃ c', F_Not_add x c = some (0, c') ∧ frC c c' ∧ c' 40 1 = nI (min (kk + 1) 16) ∧ c' 40 2 = nI ((q + 1) % 16) ∧ c' 41 = upd (c 41) q x := by
  have e1 : (nI q + 1 - (nI q + 1) / 16 * 16 : Int32) = nI ((q + 1) % 16) := by
    rw [nI_1]
    exact pk_rem (d := 16) (by omega) (by omega) (by omega)
  have u41 : ∀ y : Int32, x_up c 41 q y 41 = upd (c 41) q y := by
    intro y; funext j; simp [x_up, upd]
  by_cases hc : (16 : Int32) ≤ nI kk
  · have hk16 : kk = 16 := by
      have := (nI_leI (a := 16) (b := kk) (by omega) (by omega)).mp hc
      omega
    refine ⟨x_up (x_up c 41 q x) 40 2 (nI ((q + 1) % 16)), ?_, fun p h h' => by rw [x_up_ne h, x_up_ne h'], ?_, ?_, ?_⟩
    · unfold F_Not_add F_Not_add_10 F_Not_add_23 F_Not_add_42
      rw [h2, x_ix_nI hq (by omega)]
      simp only [x_up_ne (show (40 : Nat) ≠ 41 by decide), x_up_at, h1, h2, e1]
      simp only [show ¬ (1 : Nat) = 2 by decide, if_false, h1, if_pos hc]
    · simp [x_up_ne, x_up_at, h1, hk16]
    · simp [x_up_at]
    · rw [x_up_ne (by decide), u41]
  · have hk16 : kk < 16 := by
      rcases Nat.lt_or_ge kk 16 with h | h
      · exact h
      · exact absurd ((nI_leI (a := 16) (b := kk) (by omega) (by omega)).mpr h) hc
    refine ⟨x_up (x_up (x_up c 41 q x) 40 2 (nI ((q + 1) % 16))) 40 1 (nI kk + 1), ?_, fun p h h' => by rw [x_up_ne h, x_up_ne h, x_up_ne h'], ?_, ?_, ?_⟩
    · unfold F_Not_add F_Not_add_10 F_Not_add_23 F_Not_add_42
      rw [h2, x_ix_nI hq (by omega)]
      simp only [x_up_ne (show (40 : Nat) ≠ 41 by decide), x_up_at, h1, h2, e1]
      simp only [show ¬ (1 : Nat) = 2 by decide, if_false, h1, if_neg hc]
    · rw [x_up_at, if_pos rfl, nI_1, Nat.min_eq_left (by omega)]
    · simp [x_up_at]
    · rw [x_up_ne (by decide), x_up_ne (by decide), u41]
theorem mod_write_loop (x1 x2 : Int32) : ∀ (t n : Nat) (c : x_S), t ≤ 15 → t < n → ∃ c', F_Mod_write_3 n x1 x2 (nI t) c = F_Mod_write_48 c' ∧ (∀ p, p ≠ 63 → c' p = c p) ∧ ∀ j, c' 63 j = if j = 0 then (((10000 : Int32) * (c 46 7)) + ((100 : Int32) * x1)) + x2 else if j ≤ t then c 63 (j - 1) else c 63 j := by
  intro t
  induction t with
  | zero =>
    intro n c _ hn
    obtain ⟨n, rfl⟩ : ∃ k, n = k + 1 := ⟨n - 1, by omega⟩
    refine ⟨x_up c 63 0 ((((10000 : Int32) * (c 46 7)) + ((100 : Int32) * x1)) + x2), ?_, fun p hp => x_up_ne hp, fun j => ?_⟩
    · rw [F_Mod_write_3, if_pos (by decide)]
      exact x_ix_nI (n := 0) (by omega) (by omega)
    · rw [x_up_at]
      split
      · rfl
      · rw [if_neg (by omega)]
  | succ t ih =>
    intro n c ht hn
    obtain ⟨n, rfl⟩ : ∃ k, n = k + 1 := ⟨n - 1, by omega⟩
    obtain ⟨c', e, h1, h2⟩ := ih n (x_up c 63 (t + 1) (c 63 t)) (by omega) (by omega)
    refine ⟨c', ?_, fun p hp => by rw [h1 p hp, x_up_ne hp], fun j => ?_⟩
    · rw [F_Mod_write_3, if_neg (nI_nle (by omega) (by omega)), nI_pred, x_ix_nI (by omega) (by omega), x_ix_nI (by omega) (by omega)]
      unfold F_Mod_write_21
      rw [show nI (t + 1) + (-1 : Int32) = nI t from pk_m1 t]
      exact e
    · rw [h2 j, x_up_ne (by decide)]
      by_cases hj : j = 0
      · rw [if_pos hj, if_pos hj]
      · rw [if_neg hj, if_neg hj]
        by_cases hj1 : j ≤ t
        · rw [if_pos hj1, if_pos (by omega), x_up_at, if_neg (by omega)]
        · rw [if_neg hj1]
          by_cases hj2 : j = t + 1
          · subst hj2
            rw [if_pos (Nat.le_refl _), x_up_at, if_pos rfl]
            rfl
          · rw [if_neg (by omega), x_up_at, if_neg hj2]
theorem mod_write {m : x_S} {kk : Nat} (x1 x2 : Int32) (hk : kk ≤ 16) (h1 : m 46 42 = nI kk) : ∃ m', F_Mod_write x1 x2 m = some (0, m') ∧ frM m m' ∧ m' 46 42 = nI (min (kk + 1) 16) ∧ ∀ j, j < 16 → m' 63 j = if j = 0 then (((10000 : Int32) * (m 46 7)) + ((100 : Int32) * x1)) + x2 else m 63 (j - 1) := by
  obtain ⟨c', e, h2, h3⟩ := mod_write_loop x1 x2 15 x_fuel m (by omega) (by decide)
  have e2 : F_Mod_write x1 x2 m = F_Mod_write_48 c' := e
  have h4 : c' 46 42 = nI kk := by rw [h2 46 (by decide)]; exact h1
  have h5 : ∀ j, j < 16 → c' 63 j = if j = 0 then (((10000 : Int32) * (m 46 7)) + ((100 : Int32) * x1)) + x2 else m 63 (j - 1) := by
    intro j hj
    rw [h3 j]
    by_cases hj0 : j = 0
    · rw [if_pos hj0, if_pos hj0]
    · rw [if_neg hj0, if_neg hj0, if_pos (by omega)]
  rw [e2]
  unfold F_Mod_write_48 F_Mod_write_69 F_Mod_write_72
  rw [h4]
  by_cases hc : (16 : Int32) ≤ nI kk
  · have hk16 : kk = 16 := by
      have := (nI_leI (a := 16) (b := kk) (by omega) (by omega)).mp hc
      omega
    rw [if_pos hc]
    refine ⟨_, rfl, ⟨fun p hp hp' => by rw [x_up_ne hp, h2 p hp'], fun j hj => by rw [x_up_at, if_neg hj, h2 46 (by decide)]⟩, ?_, fun j hj => by rw [x_up_ne (by decide)]; exact h5 j hj⟩
    rw [x_up_at, if_pos rfl, hk16]
    rfl
  · have hk16 : kk < 16 := by
      rcases Nat.lt_or_ge kk 16 with h | h
      · exact h
      · exact absurd ((nI_leI (a := 16) (b := kk) (by omega) (by omega)).mpr h) hc
    rw [if_neg hc]
    refine ⟨_, rfl, ⟨fun p hp hp' => by rw [x_up_ne hp, h2 p hp'], fun j hj => by rw [x_up_at, if_neg hj, h2 46 (by decide)]⟩, ?_, fun j hj => by rw [x_up_ne (by decide)]; exact h5 j hj⟩
    rw [x_up_at, if_pos rfl, nI_1, Nat.min_eq_left (by omega)]
/-- a note on both sides -/
theorem sim_write {c m : x_S} (x1 x2 : Int32) (h : RN (c 40) (c 41) (m 46 42) (m 63)) (hcy : c 0 10 = m 46 7) : ∃ c' m', F_G_write x1 x2 c = some (0, c') ∧ F_Mod_write x1 x2 m = some (0, m') ∧ frC c c' ∧ frM m m' ∧ RN (c' 40) (c' 41) (m' 46 42) (m' 63) := by
  obtain ⟨kk, q, hk, hq, h1, h2, h3, h4⟩ := h
  obtain ⟨c', e1, f1, g1, g2, g3⟩ := not_add ((((10000 : Int32) * (c 0 10)) + ((100 : Int32) * x1)) + x2) hk hq h1 h3
  obtain ⟨m', e2, f2, g4, g5⟩ := mod_write x1 x2 hk h2
  refine ⟨c', m', ?_, e2, f1, f2, min (kk + 1) 16, (q + 1) % 16, by omega, by omega, g1, g4, g2, fun j hj => ?_⟩
  · unfold F_G_write F_G_write_22
    rw [x_bind_eq e1]
  · rw [g3, g5 j (by omega)]
    unfold upd
    by_cases hj0 : j = 0
    · subst hj0
      rw [if_pos (by omega), if_pos rfl, hcy]
    · rw [if_neg (by omega), if_neg hj0, ← h4 (j - 1) (by omega)]
      congr 1
      omega
