/-! marks passed -/
/-- the first of those below k, or -1 -/
def First (P : Nat → Prop) (k : Nat) (r : Int32) : Prop := (r = -1 ∧ ∀ i, i < k → ¬ P i) ∨ ∃ i, i < k ∧ r = nI i ∧ P i ∧ ∀ j, j < i → ¬ P j
theorem cls_firstOpen {c : x_S} {k : Nat} (hk : k ≤ 7) (hc : c 17 4 = nI k) (x : Int32) : ∀ (j i n : Nat), i + j = k → j < n → (∀ t, t < i → ¬ (c 21 t = 0 ∧ c 19 t = x)) → ∃ r, F_Mrk_firstOpen_2 17 n x (nI i) c = some (r, c) ∧ First (fun t => c 21 t = 0 ∧ c 19 t = x) k r := by
  intro j
  induction j with
  | zero =>
    intro i n hi hn ht
    obtain ⟨n, rfl⟩ : ∃ q, n = q + 1 := ⟨n - 1, by omega⟩
    refine ⟨-1, ?_, Or.inl ⟨rfl, fun t h => ht t (by omega)⟩⟩
    rw [F_Mrk_firstOpen_2, hc, if_pos (nI_le (by omega) (by omega))]
  | succ j ih =>
    intro i n hi hn ht
    obtain ⟨n, rfl⟩ : ∃ q, n = q + 1 := ⟨n - 1, by omega⟩
    rw [F_Mrk_firstOpen_2, hc, if_neg (nI_ge (by omega) (by omega))]
    simp only [x_ix_nI (show i < 7 by omega) (by omega)]
    unfold F_Mrk_firstOpen_31
    rw [nI_1]
    have step : ¬ (c 21 i = 0 ∧ c 19 i = x) → ∃ r, F_Mrk_firstOpen_2 17 n x (nI (i + 1)) c = some (r, c) ∧ First (fun t => c 21 t = 0 ∧ c 19 t = x) k r := fun hne => ih (i + 1) n (by omega) (by omega) (fun t h => by
      by_cases e : t = i
      · rw [e]; exact hne
      · exact ht t (by omega))
    by_cases g1 : c 21 i = 0
    · rw [if_pos g1]
      by_cases g2 : c 19 i = x
      · rw [if_pos g2]
        exact ⟨nI i, rfl, Or.inr ⟨i, by omega, rfl, ⟨g1, g2⟩, ht⟩⟩
      · rw [if_neg g2]; exact step (fun q => g2 q.2)
    · rw [if_neg g1]; exact step (fun q => g1 q.1)
theorem mod_firstOpen {m : x_S} {k : Nat} (hk : k ≤ 7) (x : Int32) : ∀ (j n : Nat) (it : Int32), j ≤ k → j < n → ((it = -1 ∧ ∀ i, j ≤ i → i < k → ¬ (m 54 i = 0 ∧ m 52 i = x)) ∨ ∃ i, j ≤ i ∧ i < k ∧ it = nI i ∧ (m 54 i = 0 ∧ m 52 i = x) ∧ ∀ t, j ≤ t → t < i → ¬ (m 54 t = 0 ∧ m 52 t = x)) → ∃ r, F_Mod_mark_9 n x it (nI j - 1) m = F_Mod_mark_9 1 x r (-1) m ∧ First (fun t => m 54 t = 0 ∧ m 52 t = x) k r := by
  intro j
  induction j with
  | zero =>
    intro n it _ hn h
    obtain ⟨n, rfl⟩ : ∃ q, n = q + 1 := ⟨n - 1, by omega⟩
    refine ⟨it, ?_, ?_⟩
    · rw [show nI 0 - 1 = (-1 : Int32) by decide, F_Mod_mark_9, F_Mod_mark_9, if_pos (show (-1 : Int32) < 0 by decide), if_pos (show (-1 : Int32) < 0 by decide)]
    · rcases h with ⟨h1, h2⟩ | ⟨i, -, h1, h2, h3, h4⟩
      · exact Or.inl ⟨h1, fun i hi => h2 i (by omega) hi⟩
      · exact Or.inr ⟨i, h1, h2, h3, fun t ht => h4 t (by omega) ht⟩
  | succ j ih =>
    intro n it hj hn h
    obtain ⟨n, rfl⟩ : ∃ q, n = q + 1 := ⟨n - 1, by omega⟩
    rw [nI_pred, F_Mod_mark_9, if_neg (nI_pos (by omega))]
    simp only [x_ix_nI (show j < 7 by omega) (by omega)]
    unfold F_Mod_mark_36 F_Mod_mark_37
    rw [x_m1]
    have keep : ¬ (m 54 j = 0 ∧ m 52 j = x) → ∃ r, F_Mod_mark_9 n x it (nI j - 1) m = F_Mod_mark_9 1 x r (-1) m ∧ First (fun t => m 54 t = 0 ∧ m 52 t = x) k r := fun hne => ih n it (by omega) (by omega) (by
      rcases h with ⟨h1, h2⟩ | ⟨i, h0, h1, h2, h3, h4⟩
      · refine Or.inl ⟨h1, fun i hi hi2 => ?_⟩
        by_cases e : i = j
        · rw [e]; exact hne
        · exact h2 i (by omega) hi2
      · refine Or.inr ⟨i, by omega, h1, h2, h3, fun t ht ht2 => ?_⟩
        by_cases e : t = j
        · rw [e]; exact hne
        · exact h4 t (by omega) ht2)
    by_cases g1 : m 54 j = 0
    · rw [if_pos g1]
      by_cases g2 : m 52 j = x
      · rw [if_pos g2]
        exact ih n (nI j) (by omega) (by omega) (Or.inr ⟨j, by omega, by omega, rfl, ⟨g1, g2⟩, fun t h1 h2 => absurd h2 (by omega)⟩)
      · rw [if_neg g2]; exact keep (fun q => g2 q.2)
    · rw [if_neg g1]; exact keep (fun q => g1 q.1)
theorem cls_anyOpen {c : x_S} {i0 : Nat} (hi : i0 < 7) : ∀ (j i n : Nat), i + j = i0 → j < n → (∀ t, t < i → ¬ c 21 t = 0) → F_Mrk_anyOpenBefore_2 17 n (nI i0) (nI i) c = some (bl (∃ t, t < i0 ∧ c 21 t = 0), c) := by
  intro j
  induction j with
  | zero =>
    intro i n h hn ht
    obtain ⟨n, rfl⟩ : ∃ q, n = q + 1 := ⟨n - 1, by omega⟩
    rw [F_Mrk_anyOpenBefore_2, if_pos (nI_le (by omega) (by omega)), bl_neg]
    rintro ⟨t, h1, h2⟩
    exact ht t (by omega) h2
  | succ j ih =>
    intro i n h hn ht
    obtain ⟨n, rfl⟩ : ∃ q, n = q + 1 := ⟨n - 1, by omega⟩
    rw [F_Mrk_anyOpenBefore_2, if_neg (nI_ge (by omega) (by omega)), x_ix_nI (by omega) (by omega), nI_1]
    by_cases g : c 21 i = 0
    · rw [if_pos g, bl_pos ⟨i, by omega, g⟩]
    · rw [if_neg g]
      exact ih (i + 1) n (by omega) (by omega) (fun t h1 => by
        by_cases e : t = i
        · rw [e]; exact g
        · exact ht t (by omega))
theorem cls_passUpTo {i0 : Nat} (hi : i0 < 7) : ∀ (j i n : Nat) (c : x_S), i + j = i0 + 1 → j < n → ∃ c', F_Mrk_passUpTo_2 17 n (nI i0) (nI i) c = some (0, c') ∧ (∀ p, p ≠ 21 → c' p = c p) ∧ ∀ t, c' 21 t = if i ≤ t ∧ t ≤ i0 then 1 else c 21 t := by
  intro j
  induction j with
  | zero =>
    intro i n c h hn
    obtain ⟨n, rfl⟩ : ∃ q, n = q + 1 := ⟨n - 1, by omega⟩
    refine ⟨c, ?_, fun _ _ => rfl, fun t => by rw [if_neg (by omega)]⟩
    rw [F_Mrk_passUpTo_2, if_pos (nI_lt (by omega) (by omega))]
  | succ j ih =>
    intro i n c h hn
    obtain ⟨n, rfl⟩ : ∃ q, n = q + 1 := ⟨n - 1, by omega⟩
    obtain ⟨c', g1, g2, g3⟩ := ih (i + 1) n (x_up c 21 i 1) (by omega) (by omega)
    refine ⟨c', ?_, fun p hp => by rw [g2 p hp, x_up_ne hp], fun t => ?_⟩
    · rw [F_Mrk_passUpTo_2, if_neg (nI_nlt (by omega) (by omega)), x_ix_nI (by omega) (by omega)]
      unfold F_Mrk_passUpTo_14
      rw [nI_1]
      exact g1
    · rw [g3 t, x_up_at]
      by_cases e : t = i
      · rw [if_neg (by omega), if_pos e, if_pos (by omega)]
      · rw [if_neg e]
        by_cases q : i + 1 ≤ t ∧ t ≤ i0
        · rw [if_pos q, if_pos (by omega)]
        · rw [if_neg q, if_neg (by omega)]
theorem mod_passUpTo {i0 : Nat} (hi : i0 < 7) (x : Int32) : ∀ (j i n : Nat) (A : Prop) (m : x_S), i + j = i0 → j < n → ∃ m', F_Mod_mark_99 n x (nI i0) (bl A) (nI i) m = F_Mod_mark_146 x (nI i0) (bl (A ∨ ∃ t, i ≤ t ∧ t < i0 ∧ m 54 t = 0)) m' ∧ (∀ p, p ≠ 54 → m' p = m p) ∧ ∀ t, m' 54 t = if i ≤ t ∧ t ≤ i0 then 1 else m 54 t := by
  intro j
  induction j with
  | zero =>
    intro i n A m h hn
    obtain ⟨n, rfl⟩ : ∃ q, n = q + 1 := ⟨n - 1, by omega⟩
    have e0 : i = i0 := by omega
    subst e0
    refine ⟨x_up m 54 i 1, ?_, fun p hp => x_up_ne hp, fun t => ?_⟩
    · rw [F_Mod_mark_99, if_pos (nI_le (Nat.le_refl _) (by omega)), x_ix_nI (by omega) (by omega)]
      congr 1
      exact bl_congr ⟨Or.inl, fun q => q.elim id (fun ⟨t, h1, h2, _⟩ => absurd h2 (by omega))⟩
    · rw [x_up_at]
      by_cases e : t = i
      · rw [if_pos e, if_pos (by omega)]
      · rw [if_neg e, if_neg (by omega)]
  | succ j ih =>
    intro i n A m h hn
    obtain ⟨n, rfl⟩ : ∃ q, n = q + 1 := ⟨n - 1, by omega⟩
    obtain ⟨m', g1, g2, g3⟩ := ih (i + 1) n (A ∨ m 54 i = 0) (x_up m 54 i 1) (by omega) (by omega)
    refine ⟨m', ?_, fun p hp => by rw [g2 p hp, x_up_ne hp], fun t => ?_⟩
    · rw [F_Mod_mark_99, if_neg (nI_ge (by omega) (by omega))]
      simp only [x_ix_nI (show i < 7 by omega) (by omega)]
      unfold F_Mod_mark_119 F_Mod_mark_124 F_Mod_mark_133
      simp only [x_ix_nI (show i < 7 by omega) (by omega), nI_1]
      have tail : F_Mod_mark_99 n x (nI i0) (bl (A ∨ m 54 i = 0)) (nI (i + 1)) (x_up m 54 i 1) = F_Mod_mark_146 x (nI i0) (bl (A ∨ ∃ t, i ≤ t ∧ t < i0 ∧ m 54 t = 0)) m' := by
        rw [g1]
        congr 1
        refine bl_congr ⟨fun q => ?_, fun q => ?_⟩
        · rcases q with (q | q) | ⟨t, h1, h2, h3⟩
          · exact Or.inl q
          · exact Or.inr ⟨i, Nat.le_refl _, by omega, q⟩
          · rw [x_up_at, if_neg (by omega)] at h3
            exact Or.inr ⟨t, by omega, h2, h3⟩
        · rcases q with q | ⟨t, h1, h2, h3⟩
          · exact Or.inl (Or.inl q)
          · by_cases e : t = i
            · rw [e] at h3; exact Or.inl (Or.inr h3)
            · exact Or.inr ⟨t, by omega, h2, by rw [x_up_at, if_neg e]; exact h3⟩
      by_cases a : A
      · rw [bl_pos a, if_neg (by decide)]
        rw [bl_pos (Or.inl a : A ∨ m 54 i = 0)] at tail
        exact tail
      · rw [bl_neg a, if_pos rfl]
        by_cases q : m 54 i = 0
        · rw [if_pos q]
          rw [bl_pos (Or.inr q : A ∨ m 54 i = 0)] at tail
          exact tail
        · rw [if_neg q]
          rw [bl_neg (fun z : A ∨ m 54 i = 0 => z.elim a q)] at tail
          exact tail
    · rw [g3 t, x_up_at]
      by_cases e : t = i
      · rw [if_neg (by omega), if_pos e, if_pos (by omega)]
      · rw [if_neg e]
        by_cases q : i + 1 ≤ t ∧ t ≤ i0
        · rw [if_pos q, if_pos (by omega)]
        · rw [if_neg q, if_neg (by omega)]
/-- a fault of marks on both sides -/
theorem sim_faultOfMarks {n : Nat} {c m : x_S} (h : R n c m) : ∃ c' m', F_G_faultOfMarks c = some (0, c') ∧ x_bind (F_Mod_write 6 0 m) (fun _ c7 => F_Mod_mark_166 c7) = some (1, m') ∧ R n c' m' := by
  obtain ⟨c1, m1, w1, w2, hR, f1, f2⟩ := sim_noted h 6 0
  have e7 := hR.1.2.2.2.2.2.2.1
  unfold F_G_faultOfMarks
  rw [x_bind_eq w1, x_bind_eq w2]
  unfold F_G_faultOfMarks_7 F_Mod_mark_166
  rw [x_bind_eq (cls_guided c1), x_bind_eq (mod_guided m1), e7]
  unfold F_G_faultOfMarks_11 F_Mod_mark_170 F_G_faultOfMarks_18 F_Mod_mark_177
  by_cases hg : GD (m1 46 6)
  · rw [bl_pos hg, if_neg (by decide), if_neg (by decide)]
    obtain ⟨c2, m2, t1, t2, t3⟩ := sim_trip hR.1 hR.2.2.1 hR.2.2.2.1.2.2.2.1 hR.2.2.2.1.2.2.2.2 hR.2.2.2.2
    exact ⟨c2, m2, by rw [x_bind_eq t1], by rw [x_bind_eq t2], t3⟩
  · rw [bl_neg hg, if_pos rfl, if_pos rfl]
    exact ⟨c1, m1, rfl, rfl, hR⟩
theorem sim_mark {n : Nat} {c m : x_S} (h : R n c m) (x : Int32) : x_eqv R n (F_G_mark x c) (F_Mod_mark x m) := by
  obtain ⟨hE, hA, hV, hD, hN⟩ := h
  have h : R n c m := ⟨hE, hA, hV, hD, hN⟩
  have hE0 := hE
  obtain ⟨e1, e2, e3, e4, e5, e6, e7, e8, e9, e10, e11, e12, e13, e14, e15, e16, e17, e18, e19, e20, e21, e22, e23⟩ := hE
  obtain ⟨d1, d2, ⟨k, k1, k2, k3⟩, d4, d5⟩ := hD
  have hm19 : m 46 19 = nI k := e22.symm.trans k2
  obtain ⟨r, r1, r2⟩ := cls_firstOpen k1 k2 x k 0 x_fuel (by omega) (by unfold x_fuel; omega) (fun t ht => absurd ht (by omega))
  obtain ⟨r', s1, s2⟩ := mod_firstOpen (m := m) k1 x k x_fuel (-1) (Nat.le_refl _) (by unfold x_fuel; omega) (Or.inl ⟨rfl, fun i h1 h2 => absurd h2 (by omega)⟩)
  have hiff : ∀ t, t < k → ((c 21 t = 0 ∧ c 19 t = x) ↔ (m 54 t = 0 ∧ m 52 t = x)) := fun t ht => by
    obtain ⟨a1, a2, a3, a4, -⟩ := k3 t ht
    rw [a4, a2]
  have hrr : r = r' := by
    rcases r2 with ⟨q1, q2⟩ | ⟨i, q0, q1, q2, q3⟩ <;> rcases s2 with ⟨t1, t2⟩ | ⟨i', t0, t1, t2, t3⟩
    · rw [q1, t1]
    · exact absurd ((hiff i' t0).mpr t2) (q2 i' t0)
    · exact absurd ((hiff i q0).mp q2) (t2 i q0)
    · rcases Nat.lt_trichotomy i i' with w | w | w
      · exact absurd ((hiff i q0).mp q2) (t3 i w)
      · rw [q1, t1, w]
      · exact absurd ((hiff i' t0).mpr t2) (q3 i' w)
  subst hrr
  have cl : F_G_mark x c = F_G_mark_13 x r c := by
    unfold F_G_mark F_Mrk_firstOpen
    rw [x_bind_eq (show F_Mrk_firstOpen_2 17 x_fuel x 0 c = some (r, c) from r1)]
  have mo : F_Mod_mark x m = F_Mod_mark_9 1 x r (-1) m := by
    unfold F_Mod_mark
    rw [hm19]
    exact s1
  rw [cl, mo, F_Mod_mark_9, if_pos (by decide)]
  unfold F_G_mark_13
  rcases r2 with ⟨q1, -⟩ | ⟨i, q0, q1, -, -⟩
  · rw [q1, if_neg (by decide), if_neg (by decide)]
    exact h.ask rfl rfl
  · subst q1
    rw [if_pos (nI_pos' (by omega)), if_pos (nI_pos' (by omega))]
    have i7 : i < 7 := by omega
    obtain ⟨b1, b2, b3, b4, b5, b6, b7, b8⟩ := k3 i q0
    obtain ⟨v1, v2, v3, v4, v5, v6, v7, v8, v9, v10, v11⟩ := hV
    have ea : (m 51 i - m 53 i).toInt = (m 51 i).toInt - (m 53 i).toInt := i_sub (by omega) (by omega)
    have la : (m 51 i + m 53 i).toInt = (m 51 i).toInt + (m 53 i).toInt := i_add (by omega) (by omega)
    -- the fault, as one question
    let W : Prop := (m 46 4 < m 51 i - m 53 i ∨ ¬ m 46 3 ≤ m 51 i + m 53 i) ∨ ∃ t, t < i ∧ m 54 t = 0
    have any := cls_anyOpen (c := c) (i0 := i) i7 i 0 x_fuel (by omega) (by unfold x_fuel; omega) (fun t ht => absurd ht (by omega))
    have hanyiff : (∃ t, t < i ∧ c 21 t = 0) ↔ ∃ t, t < i ∧ m 54 t = 0 := by
      constructor
      · rintro ⟨t, h1, h2⟩; exact ⟨t, h1, by rw [← (k3 t (by omega)).2.2.2.1]; exact h2⟩
      · rintro ⟨t, h1, h2⟩; exact ⟨t, h1, by rw [(k3 t (by omega)).2.2.2.1]; exact h2⟩
    rw [bl_congr hanyiff] at any
    have ear : F_Mrk_earliest 17 (nI i) c = some (m 51 i - m 53 i, c) := by
      unfold F_Mrk_earliest
      simp only [x_ix_nI (show i < 7 by omega) (by omega), b1, b3]
    have lat : F_Mrk_latest 17 (nI i) c = some (m 51 i + m 53 i, c) := by
      unfold F_Mrk_latest
      simp only [x_ix_nI (show i < 7 by omega) (by omega), b1, b3]
    have cw : x_bind (F_Mrk_anyOpenBefore 17 (nI i) c) (fun r2 c2 => F_G_mark_25 x (nI i) r2 c2) = F_G_mark_63 x (nI i) (bl W) c := by
      rw [x_bind_eq (show F_Mrk_anyOpenBefore 17 (nI i) c = _ from any)]
      unfold F_G_mark_25 F_G_mark_58
      by_cases w0 : ∃ t, t < i ∧ m 54 t = 0
      · rw [bl_pos w0, if_neg (by decide), bl_pos (show W from Or.inr w0)]
      · rw [bl_neg w0, if_pos rfl, x_bind_eq ear]
        unfold F_G_mark_40 F_G_mark_58
        rw [e5]
        by_cases w1 : m 46 4 < m 51 i - m 53 i
        · rw [if_pos w1, bl_pos (show W from Or.inl (Or.inl w1))]
        · rw [if_neg w1, x_bind_eq lat]
          unfold F_G_mark_55 F_G_mark_58
          rw [e4]
          by_cases w2 : m 46 3 ≤ m 51 i + m 53 i
          · rw [if_pos w2, bl_neg (show ¬ W from fun z => z.elim (fun y => y.elim w1 (fun u => u w2)) w0)]
          · rw [if_neg w2, bl_pos (show W from Or.inl (Or.inr w2))]
    have mw : (x_ix (nI i) 7 (fun j3 => x_ix (nI i) 7 (fun j4 => if (m 46 4) < ((m 51 j3) - (m 53 j4)) then (F_Mod_mark_90 x (nI i) m) else (x_ix (nI i) 7 (fun j6 => x_ix (nI i) 7 (fun j7 => if (m 46 3) ≤ ((m 51 j6) + (m 53 j7)) then (F_Mod_mark_95 x (nI i) (0 : Int32) m) else (F_Mod_mark_90 x (nI i) m))))))) = F_Mod_mark_99 x_fuel x (nI i) (bl (m 46 4 < m 51 i - m 53 i ∨ ¬ m 46 3 ≤ m 51 i + m 53 i)) 0 m := by
      simp only [x_ix_nI (show i < 7 by omega) (by omega)]
      unfold F_Mod_mark_90 F_Mod_mark_95
      by_cases w1 : m 46 4 < m 51 i - m 53 i
      · rw [if_pos w1, bl_pos (Or.inl w1)]
      · rw [if_neg w1]
        by_cases w2 : m 46 3 ≤ m 51 i + m 53 i
        · rw [if_pos w2, bl_neg (fun z => z.elim w1 (fun u => u w2))]
        · rw [if_neg w2, bl_pos (Or.inr w2)]
    rw [cw, mw]
    -- passing
    obtain ⟨c1, p1, p2, p3⟩ := cls_passUpTo i7 (i + 1) 0 x_fuel c (by omega) (by unfold x_fuel; omega)
    obtain ⟨m1, u1, u2, u3⟩ := mod_passUpTo i7 x i 0 x_fuel (m 46 4 < m 51 i - m 53 i ∨ ¬ m 46 3 ≤ m 51 i + m 53 i) m (by omega) (by unfold x_fuel; omega)
    have hW : ((m 46 4 < m 51 i - m 53 i ∨ ¬ m 46 3 ≤ m 51 i + m 53 i) ∨ ∃ t, 0 ≤ t ∧ t < i ∧ m 54 t = 0) ↔ W := ⟨fun z => z.elim Or.inl (fun ⟨t, _, a, b⟩ => Or.inr ⟨t, a, b⟩), fun z => z.elim Or.inl (fun ⟨t, a, b⟩ => Or.inr ⟨t, by omega, a, b⟩)⟩
    rw [bl_congr hW] at u1
    have hR1 : R n c1 m1 := by
      refine ⟨?_, ?_, ?_, ⟨?_, ?_, ⟨k, k1, ?_, ?_⟩, ?_, ?_⟩, ?_⟩
      · unfold RE at *; simp [p2, u2]; exact hE0
      · unfold RA at *; simp [p2, u2]; exact hA
      · unfold RV; simp [u2]; exact ⟨v1, v2, v3, v4, v5, v6, v7, v8, v9, v10, v11⟩
      · simp [p2, u2]; exact d1
      · simp [p2, u2]; exact d2
      · rw [p2 17 (by decide)]; exact k2
      · intro t ht
        obtain ⟨a1, a2, a3, a4, a5, a6, a7, a8⟩ := k3 t ht
        rw [p2 18 (by decide), p2 19 (by decide), p2 20 (by decide), u2 51 (by decide), u2 52 (by decide), u2 53 (by decide), p3 t, u3 t]
        refine ⟨a1, a2, a3, ?_, a5, a6, a7, a8⟩
        by_cases q : 0 ≤ t ∧ t ≤ i
        · rw [if_pos q, if_pos q]
        · rw [if_neg q, if_neg q]; exact a4
      · simp [p2, u2]; exact d4
      · simp [p2, u2]; exact d5
      · unfold RNn at *; simp [p2, u2]; exact hN
    have cp : F_G_mark_63 x (nI i) (bl W) c = F_G_mark_70 x (nI i) (bl W) c1 := by
      unfold F_G_mark_63 F_Mrk_passUpTo
      rw [x_bind_eq (show F_Mrk_passUpTo_2 17 x_fuel (nI i) 0 c = some (0, c1) from p1)]
    rw [cp, show F_Mod_mark_99 x_fuel x (nI i) (bl (m 46 4 < m 51 i - m 53 i ∨ ¬ m 46 3 ≤ m 51 i + m 53 i)) 0 m = F_Mod_mark_146 x (nI i) (bl W) m1 from u1]
    -- the note of the mark
    obtain ⟨c2, m2, n1, n2, hR2, g1, g2⟩ := sim_noted hR1 5 (x - x / 100 * 100)
    unfold F_G_mark_70 F_Mod_mark_146
    rw [x_bind_eq n1, x_bind_eq n2]
    unfold F_G_mark_79 F_Mod_mark_155
    by_cases hw : W
    · rw [bl_pos hw, if_neg (by decide), if_neg (by decide)]
      obtain ⟨c3, m3, t1, t2, t3⟩ := sim_faultOfMarks hR2
      exact ⟨1, c3, m3, by rw [x_bind_eq t1]; rfl, t2, t3.more⟩
    · rw [bl_neg hw, if_pos rfl, if_pos rfl]
      have c2p : ∀ p, p ≠ 40 → p ≠ 41 → p ≠ 21 → c2 p = c p := fun p h1 h2 h3 => (g1 p h1 h2).trans (p2 p h3)
      have m2p : ∀ p, p ≠ 46 → p ≠ 63 → p ≠ 54 → m2 p = m p := fun p h1 h2 h3 => (g2.1 p h1 h2).trans (u2 p h3)
      have m2s : ∀ j, j ≠ 42 → m2 46 j = m 46 j := fun j hj => (g2.2 j hj).trans (by rw [u2 46 (by decide)])
      have ear2 : F_Mrk_earliest 17 (nI i) c2 = some (m 51 i - m 53 i, c2) := by
        unfold F_Mrk_earliest
        simp only [x_ix_nI (show i < 7 by omega) (by omega)]
        rw [c2p 18 (by decide) (by decide) (by decide), c2p 20 (by decide) (by decide) (by decide), b1, b3]
      have lat2 : F_Mrk_latest 17 (nI i) c2 = some (m 51 i + m 53 i, c2) := by
        unfold F_Mrk_latest
        simp only [x_ix_nI (show i < 7 by omega) (by omega)]
        rw [c2p 18 (by decide) (by decide) (by decide), c2p 20 (by decide) (by decide) (by decide), b1, b3]
      simp only [x_ix_nI (show i < 7 by omega) (by omega)]
      rw [m2p 51 (by decide) (by decide) (by decide), m2p 53 (by decide) (by decide) (by decide), m2s 3 (by decide), x_bind_eq ear2]
      unfold F_G_mark_100
      rw [x_bind_eq lat2]
      unfold F_G_mark_105 F_Frt_narrow
      have lo : ∃ lo', (if m 46 3 < m 51 i - m 53 i then m 51 i - m 53 i else m 46 3) = lo' ∧ (if m 51 i - m 53 i ≤ m 46 3 then m 46 3 else m 51 i - m 53 i) = lo' ∧ x_bd lo' (-400000 - 1000 * n) (400000 + 1000 * n) := by
        have := v4.1
        have := v4.2
        by_cases w : m 46 3 < m 51 i - m 53 i
        · have w2 : ¬ m 51 i - m 53 i ≤ m 46 3 := by rw [Int32.lt_iff_toInt_lt] at w; rw [Int32.le_iff_toInt_le]; omega
          rw [if_pos w, if_neg w2]
          exact ⟨_, rfl, rfl, by unfold x_bd; omega⟩
        · have w2 : m 51 i - m 53 i ≤ m 46 3 := by rw [Int32.lt_iff_toInt_lt] at w; rw [Int32.le_iff_toInt_le]; omega
          rw [if_neg w, if_pos w2]
          exact ⟨_, rfl, rfl, v4⟩
      have hi' : ∃ hi', (if m 51 i + m 53 i < m 46 4 then m 51 i + m 53 i else m 46 4) = hi' ∧ (if m 46 4 ≤ m 51 i + m 53 i then m 46 4 else m 51 i + m 53 i) = hi' ∧ x_bd hi' (-400000 - 1000 * n) (400000 + 1000 * n) := by
        have := v5.1
        have := v5.2
        by_cases w : m 51 i + m 53 i < m 46 4
        · have w2 : ¬ m 46 4 ≤ m 51 i + m 53 i := by rw [Int32.lt_iff_toInt_lt] at w; rw [Int32.le_iff_toInt_le]; omega
          rw [if_pos w, if_neg w2]
          exact ⟨_, rfl, rfl, by unfold x_bd; omega⟩
        · have w2 : m 46 4 ≤ m 51 i + m 53 i := by rw [Int32.lt_iff_toInt_lt] at w; rw [Int32.le_iff_toInt_le]; omega
          rw [if_neg w, if_pos w2]
          exact ⟨_, rfl, rfl, v5⟩
      obtain ⟨lo', lo1, lo2, lo3⟩ := lo
      obtain ⟨hi', hi1, hi2, hi3⟩ := hi'
      have modEnd : (if m 51 i - m 53 i ≤ m 46 3 then F_Mod_mark_228 (m 51 i + m 53 i) (m 46 3) m2 else F_Mod_mark_228 (m 51 i + m 53 i) (m 51 i - m 53 i) m2) = some (1, x_up (x_up m2 46 3 lo') 46 4 hi') := by
        have q : ∀ z, F_Mod_mark_228 (m 51 i + m 53 i) z m2 = some (1, x_up (x_up m2 46 3 z) 46 4 hi') := by
          intro z
          have x4 : x_up m2 46 3 z 46 4 = m 46 4 := by rw [x_up_at, if_neg (show ¬ (4 : Nat) = 3 by decide)]; exact m2s 4 (by decide)
          unfold F_Mod_mark_228 F_Mod_mark_231 F_Mod_mark_250 F_Mod_mark_253
          rw [x4, ← hi2]
          by_cases w : m 46 4 ≤ m 51 i + m 53 i
          · rw [if_pos w, if_pos w]
          · rw [if_neg w, if_neg w]
        rw [q, q, ← lo2]
        by_cases w : m 51 i - m 53 i ≤ m 46 3
        · rw [if_pos w, if_pos w]
        · rw [if_neg w, if_neg w]
      rw [modEnd]
      refine ⟨1, x_up (x_up c2 1 0 lo') 1 1 hi', x_up (x_up m2 46 3 lo') 46 4 hi', ?_, rfl, R.more ?_⟩
      · have c10 : c2 1 0 = m 46 3 := by rw [c2p 1 (by decide) (by decide) (by decide)]; exact e4
        have c11 : c2 1 1 = m 46 4 := by rw [c2p 1 (by decide) (by decide) (by decide)]; exact e5
        have e : F_Frt_narrow (m 51 i - m 53 i) (m 51 i + m 53 i) c2 = some (0, x_up (x_up c2 1 0 lo') 1 1 hi') := by
          unfold F_Frt_narrow F_Frt_narrow_12 F_Frt_narrow_24
          have c11' : ∀ z, x_up c2 1 0 z 1 1 = m 46 4 := fun z => by rw [x_up_at, if_neg (show ¬ (1 : Nat) = 0 by decide)]; exact c11
          rw [c10, lo1, c11', hi1]
        exact x_bind_eq e
      · obtain ⟨hE2, hA2, hV2, hD2, hN2⟩ := hR2
        have hR2 : R n c2 m2 := ⟨hE2, hA2, hV2, hD2, hN2⟩
        obtain ⟨e1, e2, e3, e4, e5, e6, e7, e8, e9, e10, e11, e12, e13, e14, e15, e16, e17, e18, e19, e20, e21, e22, e23⟩ := hE2
        refine hR2.upd (fun p z0 z1 z2 z3 z4 z5 => by rw [x_up_ne z1, x_up_ne z1]) (fun p z0 z1 => by rw [x_up_ne z0, x_up_ne z0]) ?_ ?_ ?_ ?_
        · refine ⟨?_, ?_, ?_, ?_, ?_, ?_, ?_, ?_, ?_, ?_, ?_, ?_, ?_, ?_, ?_, ?_, ?_, ?_, ?_, ?_, ?_, ?_, ?_⟩ <;> simp [x_up_ne, x_up_at, e1, e2, e3, e6, e7, e8, e9, e10, e11, e12, e13, e14, e15, e16, e17, e18, e19, e20, e21, e22, e23]
        · unfold RA at *; simp [x_up_ne, x_up_at]; exact hA2
        · unfold RV at *
          simp [x_up_at]
          obtain ⟨v1, v2, v3, v4, v5, v6, v7, v8, v9, v10, v11⟩ := hV2
          exact ⟨v1, v2, v3, lo3, hi3, v6, v7, v8, v9, v10, v11⟩
        · unfold RNn at *; simp [x_up_ne, x_up_at]; exact hN2
