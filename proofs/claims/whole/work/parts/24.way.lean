/-! the braking way: both sides sum the same -/
def wsum (w b : Nat) : Nat → Nat
  | 0 => 0
  | i + 1 => wsum w b i + (w - (i + 1) * b)
def wst (w u b : Nat) : Nat := (w - u + b - 1) / b
def wway (w u b : Nat) : Nat := if w ≤ u then 0 else wsum w b (wst w u b)
def wtri : Nat → Nat
  | 0 => 0
  | i + 1 => wtri i + (i + 1)
theorem wtri_eq (i : Nat) : i * (i + 1) / 2 = wtri i := by
  have h : ∀ i, i * (i + 1) = 2 * wtri i := by
    intro i
    induction i with
    | zero => rfl
    | succ i ih =>
      have e : (i + 1) * (i + 1 + 1) = i * (i + 1) + 2 * (i + 1) := by
        rw [Nat.mul_comm i (i + 1), Nat.mul_comm 2 (i + 1), ← Nat.mul_add]
      rw [e, ih, wtri]
      omega
  rw [h i]
  omega
theorem wsum_tri {w b : Nat} : ∀ i, i * b ≤ w → wsum w b i + b * wtri i = i * w := by
  intro i
  induction i with
  | zero => intro _; simp [wsum, wtri]
  | succ i ih =>
    intro h
    have e1 : (i + 1) * b = i * b + b := Nat.succ_mul i b
    have e2 : (i + 1) * w = i * w + w := Nat.succ_mul i w
    have e3 : b * (wtri i + (i + 1)) = b * wtri i + (i + 1) * b := by rw [Nat.mul_add, Nat.mul_comm b (i + 1)]
    have := ih (by omega)
    rw [wsum, wtri, e3]
    omega
theorem wsum_le {w b : Nat} : ∀ i, wsum w b i ≤ i * w := by
  intro i
  induction i with
  | zero => exact Nat.zero_le _
  | succ i ih =>
    have e2 : (i + 1) * w = i * w + w := Nat.succ_mul i w
    rw [wsum]
    omega
theorem wst_spec {w u b : Nat} (hb : 1 ≤ b) (h : u < w) : 1 ≤ wst w u b ∧ (wst w u b - 1) * b < w - u ∧ w - u ≤ wst w u b * b ∧ wst w u b ≤ w - u := by
  unfold wst
  have h1 : (w - u + b - 1) / b * b ≤ w - u + b - 1 := Nat.div_mul_le_self _ _
  have h2 : w - u + b - 1 < (w - u + b - 1) / b * b + b := Nat.lt_div_mul_add (by omega)
  generalize (w - u + b - 1) / b = s at h1 h2
  have h3 : 1 ≤ s := by
    rcases Nat.eq_zero_or_pos s with e | e
    · subst e; omega
    · exact e
  have e : s * b = (s - 1) * b + b := by
    obtain ⟨k, rfl⟩ : ∃ k, s = k + 1 := ⟨s - 1, by omega⟩
    exact Nat.succ_mul k b
  refine ⟨h3, by omega, by omega, ?_⟩
  have h5 : (s - 1) * 1 ≤ (s - 1) * b := Nat.mul_le_mul_left _ hb
  omega
theorem mod_braking_loop {w u b : Nat} (hw : w ≤ 700) (hb1 : 1 ≤ b) (hb : b ≤ 40) (hu : u < w) (m : x_S) : ∀ (j i n : Nat), i + j = wst w u b → j < n → F_Mod_braking_8 n (nI u) (nI b) (nI (w - i * b)) (nI (wsum w b i)) (nI i) m = some (nI (wsum w b (wst w u b)), m) := by
  obtain ⟨s1, s2, s3, s4⟩ := wst_spec hb1 hu
  intro j
  induction j with
  | zero =>
    intro i n hi hn
    obtain ⟨n, rfl⟩ : ∃ k, n = k + 1 := ⟨n - 1, by omega⟩
    have hi' : i = wst w u b := by omega
    subst hi'
    rw [F_Mod_braking_8]
    by_cases h1 : (1000 : Int32) ≤ nI (wst w u b)
    · rw [if_pos h1]; rfl
    · rw [if_neg h1, if_pos (nI_le (by omega) (by omega))]; rfl
  | succ j ih =>
    intro i n hi hn
    obtain ⟨n, rfl⟩ : ∃ k, n = k + 1 := ⟨n - 1, by omega⟩
    have hib : i * b ≤ (wst w u b - 1) * b := Nat.mul_le_mul_right _ (by omega)
    have e1 : (i + 1) * b = i * b + b := Nat.succ_mul i b
    have h1 : ¬ (1000 : Int32) ≤ nI i := nI_ge (b := 1000) (by omega) (by omega)
    have h2 : ¬ nI (w - i * b) ≤ nI u := nI_ge (by omega) (by omega)
    rw [F_Mod_braking_8, if_neg h1, if_neg h2]
    unfold F_Mod_braking_33
    have hnext := ih (i + 1) n (by omega) (by omega)
    rw [wsum, ← nI_add, ← nI_1 i] at hnext
    by_cases h3 : b ≤ w - i * b
    · rw [if_pos (nI_le h3 (by omega)), pk_sub h3]
      rw [show w - i * b - b = w - (i + 1) * b by omega]
      exact hnext
    · rw [if_neg (nI_ge (by omega) (by omega))]
      rw [show w - (i + 1) * b = 0 by omega] at hnext
      exact hnext
theorem mod_braking {w u b : Nat} (hw : w ≤ 700) (hu : u ≤ 700) (hb1 : 1 ≤ b) (hb : b ≤ 40) (m : x_S) : F_Mod_braking (nI w) (nI u) (nI b) m = some (nI (wway w u b), m) := by
  unfold F_Mod_braking wway
  by_cases h : w ≤ u
  · rw [if_pos h]
    show F_Mod_braking_8 (1001 + 1) _ _ _ _ _ _ = _
    rw [F_Mod_braking_8, if_neg (by decide), if_pos (nI_le h (by omega))]
    rfl
  · rw [if_neg h]
    have hs := wst_spec hb1 (Nat.not_le.mp h)
    have := mod_braking_loop hw hb1 hb (Nat.not_le.mp h) m (wst w u b) 0 x_fuel (by omega) (by unfold x_fuel; omega)
    rw [Nat.zero_mul, Nat.sub_zero] at this
    exact this
theorem cls_braking {w u b : Nat} (hw : w ≤ 700) (hu : u ≤ 700) (hb1 : 1 ≤ b) (hb : b ≤ 40) (c : x_S) : F_G_brakingWay (nI w) (nI u) (nI b) c = some (nI (wway w u b), c) := by
  unfold F_G_brakingWay wway F_G_brakingWay_10 F_G_brakingWay_58
  by_cases h : w ≤ u
  · rw [if_pos h, if_pos (nI_le h (by omega))]
    rfl
  · have hlt : u < w := Nat.not_le.mp h
    obtain ⟨s1, s2, s3, s4⟩ := wst_spec hb1 hlt
    rw [if_neg h, if_neg (nI_ge hlt (by omega)), if_pos (show (1 : Int32) ≤ nI b from nI_le (a := 1) hb1 (by omega))]
    have e1 : ((nI w - nI u) + nI b) - 1 = nI (w - u + b - 1) := by
      rw [pk_sub (by omega), nI_add]
      obtain ⟨k, hk⟩ : ∃ k, w - u + b = k + 1 := ⟨w - u + b - 1, by omega⟩
      rw [hk, nI_pred]
      rfl
    have e2 : (((nI w - nI u) + nI b) - 1) / nI b = nI (wst w u b) := by
      rw [e1, pk_div (by omega) (by omega) (by omega)]
      rfl
    rw [e2]
    generalize wst w u b = s at *
    obtain ⟨i, rfl⟩ : ∃ i, s = i + 1 := ⟨s - 1, by omega⟩
    rw [Nat.add_sub_cancel] at s2
    have m1 : i * w ≤ 700 * 700 := Nat.mul_le_mul (by omega) hw
    have m2 : i * (i + 1) ≤ 700 * 700 := Nat.mul_le_mul (by omega) (by omega)
    have m3 : (i + 1) * b ≤ 700 * 40 := Nat.mul_le_mul (by omega) hb
    have hs := wsum_tri (w := w) (b := b) i (by omega)
    have e3 : ((nI (i + 1) - 1) * nI w) - (nI b * (((nI (i + 1) - 1) * nI (i + 1)) / 2)) = nI (wsum w b i) := by
      rw [nI_pred, pk_mul, pk_mul, show (nI (i * (i + 1)) / 2 : Int32) = nI (i * (i + 1) / 2) from pk_div (d := 2) (by omega) (by omega) (by omega), wtri_eq, pk_mul, pk_sub (by omega)]
      congr 1
      omega
    rw [e3, pk_mul]
    have hz : ¬ nI b = 0 := nI_ne0 (by omega) (by omega)
    unfold x_nz
    rw [if_neg hz]
    have e4 : (nI w - nI ((i + 1) * b)).toInt = (w : Int) - ((i + 1) * b : Nat) := pk_sub_toInt (by omega) (by omega)
    have z0 : ((0 : Int32)).toInt = 0 := by decide
    by_cases hl : nI w - nI ((i + 1) * b) ≤ 0
    · rw [if_pos hl]
      rw [Int32.le_iff_toInt_le, e4, z0] at hl
      rw [wsum, show w - (i + 1) * b = 0 by omega]
      rw [show nI (wsum w b i) + (0 : Int32) = nI (wsum w b i + 0) from nI_add _ 0]
    · rw [if_neg hl]
      rw [Int32.le_iff_toInt_le, e4, z0] at hl
      rw [wsum, pk_sub (by omega), nI_add]
theorem sim_way {n : Nat} {c m : x_S} (h : R n c m) (x y z : Int32) : x_eqv R n (F_G_way x y z c) (F_Mod_way x y z m) := by
  unfold F_G_way F_Mod_way F_G_way_33 F_Mod_way_33 F_Mod_way_43
  have lit : ∀ {a : Int32} {k : Nat}, ¬ a < 0 → ¬ nI k < a → k < 2 ^ 31 → ∃ j : Nat, j ≤ k ∧ a = nI j := by
    intro a k h0 h1 hk
    obtain ⟨j, hj, rfl⟩ := nI_of h0
    refine ⟨j, ?_, rfl⟩
    rcases Nat.lt_or_ge k j with q | q
    · exact absurd (nI_lt q hj) h1
    · exact q
  by_cases h1 : x < 0
  · rw [if_pos h1, if_pos h1]; exact h.ask rfl rfl
  rw [if_neg h1, if_neg h1]
  by_cases h2 : 600 < x
  · rw [if_pos h2, if_pos h2]; exact h.ask rfl rfl
  rw [if_neg h2, if_neg h2]
  by_cases h3 : y < 0
  · rw [if_pos h3, if_pos h3]; exact h.ask rfl rfl
  rw [if_neg h3, if_neg h3]
  by_cases h4 : 600 < y
  · rw [if_pos h4, if_pos h4]; exact h.ask rfl rfl
  rw [if_neg h4, if_neg h4]
  by_cases h5 : z < 1
  · rw [if_pos h5, if_pos h5]; exact h.ask rfl rfl
  rw [if_neg h5, if_neg h5]
  by_cases h6 : z ≤ 40
  · rw [if_pos h6, if_pos h6]
    obtain ⟨w, hw, rfl⟩ := lit (k := 600) h1 h2 (by omega)
    obtain ⟨u, hu, rfl⟩ := lit (k := 600) h3 h4 (by omega)
    have z1 : ((1 : Int32)).toInt = 1 := by decide
    have z40 : ((40 : Int32)).toInt = 40 := by decide
    have z0 : ((0 : Int32)).toInt = 0 := by decide
    rw [Int32.lt_iff_toInt_lt] at h5
    rw [Int32.le_iff_toInt_le] at h6
    obtain ⟨b, hb, rfl⟩ := nI_of (x := z) (by rw [Int32.lt_iff_toInt_lt]; omega)
    rw [nI_toInt hb] at h5 h6
    have b1 : 1 ≤ b := by omega
    have b2 : b ≤ 40 := by omega
    rw [x_bind_eq (cls_braking (by omega) (by omega) b1 b2 c), x_bind_eq (mod_braking (by omega) (by omega) b1 b2 m)]
    exact h.ask rfl rfl
  · rw [if_neg h6, if_neg h6]; exact h.ask rfl rfl
