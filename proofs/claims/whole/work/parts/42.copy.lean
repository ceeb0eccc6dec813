/-! what a message changes: rows -/
theorem spn_copy {p0 p1 k : Nat} {c : x_S} (hp : p0 + 3 < p1) (hk : k ≤ 7) (h : c p1 3 = nI k) : ∃ c', F_Spn_copyFrom p0 p1 c = some (0, c') ∧ Fr (fun q _ => p0 ≤ q ∧ q ≤ p0 + 3) c c' ∧ c' p0 3 = nI k ∧ ∀ t, t < k → c' (p0 + 1) t = c (p1 + 1) t ∧ c' (p0 + 2) t = c (p1 + 2) t ∧ c' (p0 + 3) t = c (p1 + 3) t := by
  have loop : ∀ (j i n : Nat) (c1 : x_S), i + j = k → j < n → Fr (fun q _ => p0 ≤ q ∧ q ≤ p0 + 3) c c1 → c1 p0 3 = nI i → (∀ t, t < i → c1 (p0 + 1) t = c (p1 + 1) t ∧ c1 (p0 + 2) t = c (p1 + 2) t ∧ c1 (p0 + 3) t = c (p1 + 3) t) → ∃ c', F_Spn_copyFrom_6 p0 p1 n (nI i) c1 = some (0, c') ∧ Fr (fun q _ => p0 ≤ q ∧ q ≤ p0 + 3) c c' ∧ c' p0 3 = nI k ∧ ∀ t, t < k → c' (p0 + 1) t = c (p1 + 1) t ∧ c' (p0 + 2) t = c (p1 + 2) t ∧ c' (p0 + 3) t = c (p1 + 3) t := by
    intro j
    induction j with
    | zero =>
      intro i n c1 hi hn hf h3 hr
      obtain ⟨n, rfl⟩ : ∃ q, n = q + 1 := ⟨n - 1, by omega⟩
      have e : i = k := by omega
      subst e
      refine ⟨c1, ?_, hf, h3, hr⟩
      rw [F_Spn_copyFrom_6, hf p1 3 (by omega), h, if_pos (nI_le (Nat.le_refl _) (by omega))]
    | succ j ih =>
      intro i n c1 hi hn hf h3 hr
      obtain ⟨n, rfl⟩ : ∃ q, n = q + 1 := ⟨n - 1, by omega⟩
      rw [F_Spn_copyFrom_6, hf p1 3 (by omega), h, if_neg (nI_ge (by omega) (by omega))]
      simp only [x_ix_nI (show i < 7 by omega) (show 7 < 2 ^ 31 by omega)]
      rw [x_bind_eq (cls_spnAdd _ _ _ (show i < 7 by omega) h3)]
      unfold F_Spn_copyFrom_36
      rw [nI_1]
      refine ih (i + 1) n _ (by omega) (by omega) (hf.trans ?_) ?_ (fun t ht => ?_)
      · refine Fr.trans (Fr.trans (Fr.trans (Fr.up ?_) (Fr.up ?_)) (Fr.up ?_)) (Fr.up ?_) <;> constructor <;> omega
      · simp [x_upc]
      · simp [x_upc]
        by_cases e : t = i
        · rw [if_pos e, if_pos e, if_pos e, hf (p1 + 1) i (by omega), hf (p1 + 2) i (by omega), hf (p1 + 3) i (by omega), e]
          exact ⟨rfl, rfl, rfl⟩
        · rw [if_neg e, if_neg e, if_neg e]
          exact hr t (by omega)
  obtain ⟨c', g1, g2, g3, g4⟩ := loop k 0 x_fuel (x_up c p0 3 0) (by omega) (by unfold x_fuel; omega) (Fr.up ⟨by omega, by omega⟩) (by simp [x_upc]; rfl) (fun t ht => absurd ht (by omega))
  refine ⟨c', ?_, g2, g3, g4⟩
  unfold F_Spn_copyFrom
  rw [x_bind_eq (show F_Spn_clear p0 c = some (0, x_up c p0 3 0) from rfl)]
  exact g1
theorem mrk_copy {p0 p1 k : Nat} {c : x_S} (hp : p0 + 4 < p1) (hk : k ≤ 7) (h : c p1 4 = nI k) : ∃ c', F_Mrk_copyFrom p0 p1 c = some (0, c') ∧ Fr (fun q _ => p0 ≤ q ∧ q ≤ p0 + 4) c c' ∧ c' p0 4 = nI k ∧ ∀ t, t < k → c' (p0 + 1) t = c (p1 + 1) t ∧ c' (p0 + 2) t = c (p1 + 2) t ∧ c' (p0 + 3) t = c (p1 + 3) t ∧ c' (p0 + 4) t = 0 := by
  have loop : ∀ (j i n : Nat) (c1 : x_S), i + j = k → j < n → Fr (fun q _ => p0 ≤ q ∧ q ≤ p0 + 4) c c1 → c1 p0 4 = nI i → (∀ t, t < i → c1 (p0 + 1) t = c (p1 + 1) t ∧ c1 (p0 + 2) t = c (p1 + 2) t ∧ c1 (p0 + 3) t = c (p1 + 3) t ∧ c1 (p0 + 4) t = 0) → ∃ c', F_Mrk_copyFrom_6 p0 p1 n (nI i) c1 = some (0, c') ∧ Fr (fun q _ => p0 ≤ q ∧ q ≤ p0 + 4) c c' ∧ c' p0 4 = nI k ∧ ∀ t, t < k → c' (p0 + 1) t = c (p1 + 1) t ∧ c' (p0 + 2) t = c (p1 + 2) t ∧ c' (p0 + 3) t = c (p1 + 3) t ∧ c' (p0 + 4) t = 0 := by
    intro j
    induction j with
    | zero =>
      intro i n c1 hi hn hf h3 hr
      obtain ⟨n, rfl⟩ : ∃ q, n = q + 1 := ⟨n - 1, by omega⟩
      have e : i = k := by omega
      subst e
      refine ⟨c1, ?_, hf, h3, hr⟩
      rw [F_Mrk_copyFrom_6, hf p1 4 (by omega), h, if_pos (nI_le (Nat.le_refl _) (by omega))]
    | succ j ih =>
      intro i n c1 hi hn hf h3 hr
      obtain ⟨n, rfl⟩ : ∃ q, n = q + 1 := ⟨n - 1, by omega⟩
      rw [F_Mrk_copyFrom_6, hf p1 4 (by omega), h, if_neg (nI_ge (by omega) (by omega))]
      simp only [x_ix_nI (show i < 7 by omega) (show 7 < 2 ^ 31 by omega)]
      rw [x_bind_eq (cls_mrkAdd _ _ _ (show i < 7 by omega) h3)]
      unfold F_Mrk_copyFrom_36
      rw [nI_1]
      refine ih (i + 1) n _ (by omega) (by omega) (hf.trans ?_) ?_ (fun t ht => ?_)
      · refine Fr.trans (Fr.trans (Fr.trans (Fr.trans (Fr.up ?_) (Fr.up ?_)) (Fr.up ?_)) (Fr.up ?_)) (Fr.up ?_) <;> constructor <;> omega
      · simp [x_upc]
      · simp [x_upc]
        by_cases e : t = i
        · rw [if_pos e, if_pos e, if_pos e, hf (p1 + 1) i (by omega), hf (p1 + 2) i (by omega), hf (p1 + 3) i (by omega), e]
          exact ⟨rfl, rfl, rfl, fun y => absurd rfl y⟩
        · rw [if_neg e, if_neg e, if_neg e]
          obtain ⟨y1, y2, y3, y4⟩ := hr t (by omega)
          exact ⟨y1, y2, y3, fun _ => y4⟩
  obtain ⟨c', g1, g2, g3, g4⟩ := loop k 0 x_fuel (x_up c p0 4 0) (by omega) (by unfold x_fuel; omega) (Fr.up ⟨by omega, by omega⟩) (by simp [x_upc]; rfl) (fun t ht => absurd ht (by omega))
  refine ⟨c', ?_, g2, g3, g4⟩
  unfold F_Mrk_copyFrom
  rw [x_bind_eq (show F_Mrk_clear p0 c = some (0, x_up c p0 4 0) from rfl)]
  exact g1
/-! the reference's lists -/
theorem xif_congr {α : Type} {P Q : Prop} [Decidable P] [Decidable Q] {a b a' b' : α} (h : P ↔ Q) (ha : a = a') (hb : b = b') : (if P then a else b) = (if Q then a' else b') := by
  subst ha
  subst hb
  by_cases p : P
  · rw [if_pos p, if_pos (h.mp p)]
  · rw [if_neg p, if_neg (fun q => p (h.mpr q))]
noncomputable def xvM (M : x_S) (q t : Nat) : Int32 := if q = 54 then bl (¬ M 46 3 ≤ M 62 (3 * t) + M 62 (3 * t + 2)) else M 62 (3 * t + (q - 51))
noncomputable def xLS (M : x_S) (k0 k2 k3 i0 i2 i3 : Nat) : x_S := fun q t => if 51 ≤ q ∧ q ≤ 54 ∧ M 60 0 ≠ 0 ∧ t < i0 ∧ t < k0 then xvM M q t else if 49 ≤ q ∧ q ≤ 50 ∧ M 60 2 ≠ 0 ∧ t < i2 ∧ t < k2 then M 62 (42 + 3 * t + (q - 49)) else if 47 ≤ q ∧ q ≤ 48 ∧ M 60 3 ≠ 0 ∧ t < i3 ∧ t < k3 then M 62 (63 + 3 * t + (q - 47)) else M q t
theorem xLS_o {M : x_S} {k0 k2 k3 i0 i2 i3 q : Nat} (h : q < 47 ∨ 54 < q) : xLS M k0 k2 k3 i0 i2 i3 q = M q := by
  funext t
  unfold xLS
  rw [if_neg (by omega), if_neg (by omega), if_neg (by omega)]
theorem xLS_0 {M : x_S} {k0 k2 k3 : Nat} : xLS M k0 k2 k3 0 0 0 = M := by
  funext q t
  unfold xLS
  rw [if_neg (by omega), if_neg (by omega), if_neg (by omega)]
section
variable {M : x_S} {k0 k2 k3 : Nat} (K : Int32 → x_S → Option (Int32 × x_S))
theorem ls_told {M : x_S} {k0 k2 k3 i0 i2 i3 : Nat} (s i t : Nat) (hs : s < 6) (hi : i < 7) (ht : t < 3) : F_Mod_told (nI s) (nI i) (nI t) (xLS M k0 k2 k3 i0 i2 i3) = some (M 62 (21 * s + 3 * i + t), xLS M k0 k2 k3 i0 i2 i3) := by
  rw [mod_told s i t hs hi ht, xLS_o (by omega)]
theorem ls_marks {i : Nat} (hi : i < 7) (hk : k0 ≤ 7) (h19 : M 46 19 = nI k0) : (if xLS M k0 k2 k3 i i i 60 0 = 0 then F_Mod_lists_173 K (nI i) (xLS M k0 k2 k3 i i i) else if xLS M k0 k2 k3 i i i 46 19 ≤ nI i then F_Mod_lists_173 K (nI i) (xLS M k0 k2 k3 i i i) else x_bind (F_Mod_told 0 (nI i) 0 (xLS M k0 k2 k3 i i i)) (fun r5 c5 => F_Mod_lists_115 K (nI i) (nI i) r5 c5)) = F_Mod_lists_173 K (nI i) (xLS M k0 k2 k3 (i + 1) i i) := by
  rw [xLS_o (by omega), xLS_o (by omega), h19]
  have same : (M 60 0 = 0 ∨ k0 ≤ i) → xLS M k0 k2 k3 (i + 1) i i = xLS M k0 k2 k3 i i i := by
    intro h
    funext q t
    unfold xLS
    exact xif_congr ⟨fun y => ⟨y.1, y.2.1, y.2.2.1, h.elim (fun u => absurd u y.2.2.1) (fun u => by omega), y.2.2.2.2⟩, fun y => ⟨y.1, y.2.1, y.2.2.1, by omega, y.2.2.2.2⟩⟩ rfl rfl
  by_cases c0 : M 60 0 = 0
  · rw [if_pos c0, same (Or.inl c0)]
  rw [if_neg c0]
  by_cases kk : k0 ≤ i
  · rw [if_pos (nI_le kk (by omega)), same (Or.inr kk)]
  rw [if_neg (nI_ge (by omega) (by omega))]
  rw [x_bind_eq (show F_Mod_told 0 (nI i) 0 (xLS M k0 k2 k3 i i i) = some (M 62 (21 * 0 + 3 * i + 0), xLS M k0 k2 k3 i i i) from ls_told 0 i 0 (by omega) (by omega) (by omega))]
  generalize hL : xLS M k0 k2 k3 i i i = L
  have L62 : ∀ j, L 62 j = M 62 j := fun j => by rw [← hL, xLS_o (by omega)]
  have L46 : ∀ j, L 46 j = M 46 j := fun j => by rw [← hL, xLS_o (by omega)]
  have E0 : M 62 (21 * 0 + 3 * i + 0) = M 62 (3 * i) := by congr 1; omega
  have E1 : M 62 (21 * 0 + 3 * i + 1) = M 62 (3 * i + 1) := by congr 1; omega
  have E2 : M 62 (21 * 0 + 3 * i + 2) = M 62 (3 * i + 2) := by congr 1; omega
  rw [E0]
  unfold F_Mod_lists_115
  rw [x_ix_nI hi (by omega)]
  unfold F_Mod_lists_116
  rw [x_bind_eq (show F_Mod_told 0 (nI i) 1 (x_up L 51 i (M 62 (3 * i))) = some (x_up L 51 i (M 62 (3 * i)) 62 (21 * 0 + 3 * i + 1), _) from mod_told 0 i 1 (by omega) (by omega) (by omega)), x_up_ne (show (62 : Nat) ≠ 51 by decide), L62, E1]
  unfold F_Mod_lists_128
  rw [x_ix_nI hi (by omega)]
  unfold F_Mod_lists_129
  rw [x_bind_eq (show F_Mod_told 0 (nI i) 2 (x_up (x_up L 51 i (M 62 (3 * i))) 52 i (M 62 (3 * i + 1))) = some (x_up (x_up L 51 i (M 62 (3 * i))) 52 i (M 62 (3 * i + 1)) 62 (21 * 0 + 3 * i + 2), _) from mod_told 0 i 2 (by omega) (by omega) (by omega)), x_up_ne (show (62 : Nat) ≠ 52 by decide), x_up_ne (show (62 : Nat) ≠ 51 by decide), L62, E2]
  unfold F_Mod_lists_141
  rw [x_ix_nI hi (by omega)]
  unfold F_Mod_lists_142
  rw [x_ix_nI hi (by omega), x_ix_nI hi (by omega)]
  have r1 : x_up (x_up (x_up L 51 i (M 62 (3 * i))) 52 i (M 62 (3 * i + 1))) 53 i (M 62 (3 * i + 2)) 46 3 = M 46 3 := by
    rw [x_up_ne (by decide), x_up_ne (by decide), x_up_ne (by decide), L46]
  have r2 : x_up (x_up (x_up L 51 i (M 62 (3 * i))) 52 i (M 62 (3 * i + 1))) 53 i (M 62 (3 * i + 2)) 51 i = M 62 (3 * i) := by simp [x_upc]
  have r3 : x_up (x_up (x_up L 51 i (M 62 (3 * i))) 52 i (M 62 (3 * i + 1))) 53 i (M 62 (3 * i + 2)) 53 i = M 62 (3 * i + 2) := by simp [x_upc]
  rw [r1, r2, r3, ite01 (fun b => F_Mod_lists_172 K (nI i) (nI i) b (x_up (x_up (x_up L 51 i (M 62 (3 * i))) 52 i (M 62 (3 * i + 1))) 53 i (M 62 (3 * i + 2))))]
  unfold F_Mod_lists_172
  rw [x_ix_nI hi (by omega)]
  unfold x_b01
  rw [if_pos (bl_01 _)]
  congr 1
  rw [← hL]
  funext q t
  rw [x_upc, x_upc, x_upc, x_upc]
  unfold xLS
  by_cases e : t = i
  · subst e
    by_cases q54 : q = 54
    · subst q54
      rw [if_pos ⟨rfl, rfl⟩, if_pos ⟨by omega, by omega, c0, by omega, by omega⟩]
      unfold xvM
      rw [if_pos rfl]
    rw [if_neg (fun y => q54 y.1)]
    by_cases q53 : q = 53
    · subst q53
      rw [if_pos ⟨rfl, rfl⟩, if_pos ⟨by omega, by omega, c0, by omega, by omega⟩]
      unfold xvM
      rw [if_neg (by decide)]
    rw [if_neg (fun y => q53 y.1)]
    by_cases q52 : q = 52
    · subst q52
      rw [if_pos ⟨rfl, rfl⟩, if_pos ⟨by omega, by omega, c0, by omega, by omega⟩]
      unfold xvM
      rw [if_neg (by decide)]
    rw [if_neg (fun y => q52 y.1)]
    by_cases q51 : q = 51
    · subst q51
      rw [if_pos ⟨rfl, rfl⟩, if_pos ⟨by omega, by omega, c0, by omega, by omega⟩]
      unfold xvM
      rw [if_neg (by decide)]
      rfl
    rw [if_neg (fun y => q51 y.1), if_neg (by omega)]
    rw [if_neg (show ¬ (51 ≤ q ∧ q ≤ 54 ∧ M 60 0 ≠ 0 ∧ t < t + 1 ∧ t < k0) by omega)]
  · rw [if_neg (by omega), if_neg (by omega), if_neg (by omega), if_neg (by omega)]
    exact xif_congr ⟨fun y => ⟨y.1, y.2.1, y.2.2.1, by omega, y.2.2.2.2⟩, fun y => ⟨y.1, y.2.1, y.2.2.1, by omega, y.2.2.2.2⟩⟩ rfl rfl
theorem ls_grades {i : Nat} (hi : i < 7) (hk : k2 ≤ 7) (h16 : M 46 16 = nI k2) : F_Mod_lists_173 K (nI i) (xLS M k0 k2 k3 (i + 1) i i) = F_Mod_lists_216 K (nI i) (xLS M k0 k2 k3 (i + 1) (i + 1) i) := by
  unfold F_Mod_lists_173
  rw [x_ix_lit (x := 2) 2 rfl (by omega) (by omega), xLS_o (by omega), xLS_o (by omega), h16]
  have same : (M 60 2 = 0 ∨ k2 ≤ i) → xLS M k0 k2 k3 (i + 1) (i + 1) i = xLS M k0 k2 k3 (i + 1) i i := by
    intro h
    funext q t
    unfold xLS
    exact xif_congr Iff.rfl rfl (xif_congr ⟨fun y => ⟨y.1, y.2.1, y.2.2.1, h.elim (fun u => absurd u y.2.2.1) (fun u => by omega), y.2.2.2.2⟩, fun y => ⟨y.1, y.2.1, y.2.2.1, by omega, y.2.2.2.2⟩⟩ rfl rfl)
  by_cases c0 : M 60 2 = 0
  · rw [if_pos c0, same (Or.inl c0)]
  rw [if_neg c0]
  by_cases kk : k2 ≤ i
  · rw [if_pos (nI_le kk (by omega)), same (Or.inr kk)]
  rw [if_neg (nI_ge (by omega) (by omega))]
  rw [x_bind_eq (show F_Mod_told 2 (nI i) 0 (xLS M k0 k2 k3 (i + 1) i i) = some (M 62 (21 * 2 + 3 * i + 0), xLS M k0 k2 k3 (i + 1) i i) from ls_told 2 i 0 (by omega) (by omega) (by omega))]
  generalize hL : xLS M k0 k2 k3 (i + 1) i i = L
  have L62 : ∀ j, L 62 j = M 62 j := fun j => by rw [← hL, xLS_o (by omega)]
  unfold F_Mod_lists_202
  rw [x_ix_nI hi (by omega)]
  unfold F_Mod_lists_203
  rw [x_bind_eq (show F_Mod_told 2 (nI i) 1 (x_up L 49 i (M 62 (21 * 2 + 3 * i + 0))) = some (x_up L 49 i (M 62 (21 * 2 + 3 * i + 0)) 62 (21 * 2 + 3 * i + 1), _) from mod_told 2 i 1 (by omega) (by omega) (by omega)), x_up_ne (show (62 : Nat) ≠ 49 by decide), L62]
  unfold F_Mod_lists_215
  rw [x_ix_nI hi (by omega)]
  congr 1
  rw [← hL]
  funext q t
  rw [x_upc, x_upc]
  unfold xLS
  by_cases e : t = i
  · subst e
    by_cases q50 : q = 50
    · subst q50
      rw [if_pos ⟨rfl, rfl⟩, if_neg (by omega), if_pos ⟨by omega, by omega, c0, by omega, by omega⟩]
    rw [if_neg (fun y => q50 y.1)]
    by_cases q49 : q = 49
    · subst q49
      rw [if_pos ⟨rfl, rfl⟩, if_neg (by omega), if_pos ⟨by omega, by omega, c0, by omega, by omega⟩]
    rw [if_neg (fun y => q49 y.1)]
    by_cases w : 51 ≤ q ∧ q ≤ 54 ∧ M 60 0 ≠ 0 ∧ t < t + 1 ∧ t < k0
    · rw [if_pos w, if_pos w]
    · rw [if_neg w, if_neg w, if_neg (show ¬ (49 ≤ q ∧ q ≤ 50 ∧ M 60 2 ≠ 0 ∧ t < t ∧ t < k2) by omega), if_neg (show ¬ (49 ≤ q ∧ q ≤ 50 ∧ M 60 2 ≠ 0 ∧ t < t + 1 ∧ t < k2) by omega)]
  · rw [if_neg (by omega), if_neg (by omega)]
    exact xif_congr Iff.rfl rfl (xif_congr ⟨fun y => ⟨y.1, y.2.1, y.2.2.1, by omega, y.2.2.2.2⟩, fun y => ⟨y.1, y.2.1, y.2.2.1, by omega, y.2.2.2.2⟩⟩ rfl rfl)
theorem ls_profile {i : Nat} (hi : i < 7) (hk : k3 ≤ 7) (h13 : M 46 13 = nI k3) : F_Mod_lists_216 K (nI i) (xLS M k0 k2 k3 (i + 1) (i + 1) i) = K (nI (i + 1)) (xLS M k0 k2 k3 (i + 1) (i + 1) (i + 1)) := by
  unfold F_Mod_lists_216 F_Mod_lists_259
  rw [x_ix_lit (x := 3) 3 rfl (by omega) (by omega), xLS_o (by omega), xLS_o (by omega), h13, nI_1]
  have same : (M 60 3 = 0 ∨ k3 ≤ i) → xLS M k0 k2 k3 (i + 1) (i + 1) (i + 1) = xLS M k0 k2 k3 (i + 1) (i + 1) i := by
    intro h
    funext q t
    unfold xLS
    exact xif_congr Iff.rfl rfl (xif_congr Iff.rfl rfl (xif_congr ⟨fun y => ⟨y.1, y.2.1, y.2.2.1, h.elim (fun u => absurd u y.2.2.1) (fun u => by omega), y.2.2.2.2⟩, fun y => ⟨y.1, y.2.1, y.2.2.1, by omega, y.2.2.2.2⟩⟩ rfl rfl))
  by_cases c0 : M 60 3 = 0
  · rw [if_pos c0, same (Or.inl c0)]
  rw [if_neg c0]
  by_cases kk : k3 ≤ i
  · rw [if_pos (nI_le kk (by omega)), same (Or.inr kk)]
  rw [if_neg (nI_ge (by omega) (by omega))]
  rw [x_bind_eq (show F_Mod_told 3 (nI i) 0 (xLS M k0 k2 k3 (i + 1) (i + 1) i) = some (M 62 (21 * 3 + 3 * i + 0), xLS M k0 k2 k3 (i + 1) (i + 1) i) from ls_told 3 i 0 (by omega) (by omega) (by omega))]
  generalize hL : xLS M k0 k2 k3 (i + 1) (i + 1) i = L
  have L62 : ∀ j, L 62 j = M 62 j := fun j => by rw [← hL, xLS_o (by omega)]
  unfold F_Mod_lists_245
  rw [x_ix_nI hi (by omega)]
  unfold F_Mod_lists_246
  rw [x_bind_eq (show F_Mod_told 3 (nI i) 1 (x_up L 47 i (M 62 (21 * 3 + 3 * i + 0))) = some (x_up L 47 i (M 62 (21 * 3 + 3 * i + 0)) 62 (21 * 3 + 3 * i + 1), _) from mod_told 3 i 1 (by omega) (by omega) (by omega)), x_up_ne (show (62 : Nat) ≠ 47 by decide), L62]
  unfold F_Mod_lists_258
  rw [x_ix_nI hi (by omega)]
  unfold F_Mod_lists_259
  rw [nI_1]
  congr 1
  rw [← hL]
  funext q t
  rw [x_upc, x_upc]
  unfold xLS
  by_cases e : t = i
  · subst e
    by_cases q48 : q = 48
    · subst q48
      rw [if_pos ⟨rfl, rfl⟩, if_neg (by omega), if_neg (by omega), if_pos ⟨by omega, by omega, c0, by omega, by omega⟩]
    rw [if_neg (fun y => q48 y.1)]
    by_cases q47 : q = 47
    · subst q47
      rw [if_pos ⟨rfl, rfl⟩, if_neg (by omega), if_neg (by omega), if_pos ⟨by omega, by omega, c0, by omega, by omega⟩]
    rw [if_neg (fun y => q47 y.1)]
    rw [if_neg (show ¬ (47 ≤ q ∧ q ≤ 48 ∧ M 60 3 ≠ 0 ∧ t < t ∧ t < k3) by omega), if_neg (show ¬ (47 ≤ q ∧ q ≤ 48 ∧ M 60 3 ≠ 0 ∧ t < t + 1 ∧ t < k3) by omega)]
  · rw [if_neg (by omega), if_neg (by omega)]
    exact xif_congr Iff.rfl rfl (xif_congr Iff.rfl rfl (xif_congr ⟨fun y => ⟨y.1, y.2.1, y.2.2.1, by omega, y.2.2.2.2⟩, fun y => ⟨y.1, y.2.1, y.2.2.1, by omega, y.2.2.2.2⟩⟩ rfl rfl))
end
theorem ls_loop {M : x_S} {k0 k2 k3 : Nat} (h0 : k0 ≤ 7) (h2 : k2 ≤ 7) (h3 : k3 ≤ 7) (h19 : M 46 19 = nI k0) (h16 : M 46 16 = nI k2) (h13 : M 46 13 = nI k3) : ∀ (j i n : Nat), i + j = 7 → j < n → F_Mod_lists_80 n (nI i) (xLS M k0 k2 k3 i i i) = some (0, xLS M k0 k2 k3 7 7 7) := by
  intro j
  induction j with
  | zero =>
    intro i n h hn
    obtain ⟨n, rfl⟩ : ∃ q, n = q + 1 := ⟨n - 1, by omega⟩
    have e : i = 7 := by omega
    subst e
    rw [F_Mod_lists_80, if_pos (by decide)]
  | succ j ih =>
    intro i n h hn
    obtain ⟨n, rfl⟩ : ∃ q, n = q + 1 := ⟨n - 1, by omega⟩
    rw [F_Mod_lists_80, if_neg (show ¬ (7 : Int32) ≤ nI i from nI_ge (b := 7) (by omega) (by omega)), x_ix_lit (x := 0) 0 rfl (by omega) (by omega), ls_marks _ (by omega) h0 h19, ls_grades _ (by omega) h2 h16, ls_profile _ (by omega) h3 h13]
    exact ih (i + 1) n (by omega) (by omega)
