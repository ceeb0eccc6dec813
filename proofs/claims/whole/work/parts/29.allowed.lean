/-! display: the greatest speed of grade 0 -/
theorem R.fr42 {n : Nat} {c c' m : x_S} (h : R n c m) (f : fr42 c c') : R n c' m := by
  obtain ⟨hE, hA, hV, hD, hN⟩ := h
  have hc : ∀ p, p ≠ 42 → p ≠ 43 → p ≠ 44 → p ≠ 45 → c' p = c p := f.1
  have e0 := f.2 0 (by decide) (by decide) (by decide)
  have e1 := f.2 1 (by decide) (by decide) (by decide)
  refine ⟨?_, ?_, hV, ?_, ?_⟩
  · unfold RE at *; simp [hc, e0, e1]; exact hE
  · unfold RA at *; simp [hc]; exact hA
  · unfold RD at *; simp [hc]; exact hD
  · unfold RNn at *; simp [hc]; exact hN
theorem grF_range {ce v : Int32} {A B C D : Prop} : grF ce v A B C D = 0 ∨ grF ce v A B C D = 1 ∨ grF ce v A B C D = 2 ∨ grF ce v A B C D = 3 ∨ grF ce v A B C D = 4 := by
  unfold grF
  by_cases h1 : ce + 8 < v ∨ A
  · rw [if_pos h1]; decide
  rw [if_neg h1]
  by_cases h2 : ce + 5 < v ∨ B
  · rw [if_pos h2]; decide
  rw [if_neg h2]
  by_cases h3 : ce + 3 < v ∨ C
  · rw [if_pos h3]; decide
  rw [if_neg h3]
  by_cases h4 : ce < v ∨ D
  · rw [if_pos h4]; decide
  · rw [if_neg h4]; decide
theorem sim_gradeEnd {n : Nat} {c m : x_S} (hn : n ≤ 512) (hG : RG c m) (hV : RV n m) (hD : RD c m) (e : Int32) : ∃ g c', F_G_gradeWithEnd e c = some (g, c') ∧ F_Mod_grade (m 46 5) e m = some (g, m) ∧ fr42 c c' ∧ (g = 0 ∨ g = 1 ∨ g = 2 ∨ g = 3 ∨ g = 4) := by
  have e7 := hG.2.2.2.2.2.2.1
  have e6 := hG.2.2.2.2.2.1
  have v6 := hV.2.2.2.2.2.1
  unfold F_G_gradeWithEnd
  rw [x_bind_eq (cls_stopped c), e7]
  unfold F_G_gradeWithEnd_4
  by_cases hs : SP (m 46 6)
  · rw [bl_pos hs, if_neg (by decide)]
    refine ⟨4, c, rfl, ?_, fr42.rfl, by decide⟩
    unfold F_Mod_grade F_Mod_grade_17
    rcases hs with q | q
    · rw [if_pos q]
    · rw [if_neg (by rw [q]; decide), if_pos q]
  · rw [bl_neg hs, if_pos rfl]
    obtain ⟨c', ce, kP, kG, kR, de, ds, l1, l2, l3, l4, l5, l6⟩ := sim_look hn hG hV hD e
    obtain ⟨t1, t2⟩ := x_nat (x := m 46 5) v6.1
    obtain ⟨g, g0, g1, g2⟩ := l6 (m 46 5).toInt.toNat (by have := v6.2; omega)
    rw [← t1] at g1 g2
    refine ⟨g, c', ?_, g2 hs, l2, by unfold Zr at g0; rw [g0]; exact grF_range⟩
    rw [x_bind_eq l1]
    unfold F_G_gradeWithEnd_14
    rw [l2.1 1 (by decide) (by decide) (by decide) (by decide), e6, x_bind_eq g1]
    rfl
theorem wsum_mono {w w' b : Nat} (h : w ≤ w') : ∀ i, wsum w b i ≤ wsum w' b i := by
  intro i
  induction i with
  | zero => exact Nat.le_refl _
  | succ i ih => rw [wsum, wsum]; omega
theorem wsum_up {w b : Nat} : ∀ {i j : Nat}, i ≤ j → wsum w b i ≤ wsum w b j := by
  intro i j
  induction j with
  | zero => intro h; rw [show i = 0 by omega]; exact Nat.le_refl _
  | succ j ih =>
    intro h
    by_cases e : i = j + 1
    · rw [e]; exact Nat.le_refl _
    · rw [wsum]
      have := ih (by omega)
      omega
theorem wway_mono {w w' u b : Nat} (h : w ≤ w') : wway w u b ≤ wway w' u b := by
  unfold wway
  by_cases h1 : w ≤ u
  · rw [if_pos h1]; exact Nat.zero_le _
  · rw [if_neg h1, if_neg (by omega)]
    have h2 : wst w u b ≤ wst w' u b := Nat.div_le_div_right (by omega)
    exact Nat.le_trans (wsum_up h2) (wsum_mono h _)
theorem Past.mono {hg pl : Int} {v v' d k j u fl : Nat} (h : v ≤ v') (hp : Past hg v d k j pl u fl) : Past hg v' d k j pl u fl := by
  obtain ⟨h1, h2⟩ := hp
  have a1 : j * v ≤ j * v' := Nat.mul_le_mul_left _ h
  have a2 : k * v ≤ k * v' := Nat.mul_le_mul_left _ h
  have a3 := wway_mono (w := v + 2 * k) (w' := v' + 2 * k) (u := u) (b := max (d - fl) 1) (by omega)
  exact ⟨by omega, by omega⟩
theorem OV.mono {m : x_S} {kP kR : Nat} {P P' : Int32 → Int32 → Prop} {last : Int32} (h : ∀ a b, P a b → P' a b) (ho : OV m kP kR P last) : OV m kP kR P' last := by
  rcases ho with q | ⟨i, q1, q2, q3⟩ | ⟨i, q1, q2, q3⟩
  · exact Or.inl (h _ _ q)
  · exact Or.inr (Or.inl ⟨i, q1, q2, h _ _ q3⟩)
  · exact Or.inr (Or.inr ⟨i, q1, q2, h _ _ q3⟩)
theorem grF_0 {ce v : Int32} {A B C D : Prop} : grF ce v A B C D = 0 ↔ ¬ (ce + 8 < v ∨ A) ∧ ¬ (ce + 5 < v ∨ B) ∧ ¬ (ce + 3 < v ∨ C) ∧ ¬ (ce < v ∨ D) := by
  unfold grF
  by_cases h1 : ce + 8 < v ∨ A
  · rw [if_pos h1]; exact ⟨fun e => absurd e (by decide), fun e => absurd h1 e.1⟩
  rw [if_neg h1]
  by_cases h2 : ce + 5 < v ∨ B
  · rw [if_pos h2]; exact ⟨fun e => absurd e (by decide), fun e => absurd h2 e.2.1⟩
  rw [if_neg h2]
  by_cases h3 : ce + 3 < v ∨ C
  · rw [if_pos h3]; exact ⟨fun e => absurd e (by decide), fun e => absurd h3 e.2.2.1⟩
  rw [if_neg h3]
  by_cases h4 : ce < v ∨ D
  · rw [if_pos h4]; exact ⟨fun e => absurd e (by decide), fun e => absurd h4 e.2.2.2⟩
  · rw [if_neg h4]; exact ⟨fun _ => ⟨h1, h2, h3, h4⟩, fun _ => rfl⟩
theorem Zr.mono {m : x_S} {kP kG kR de ds v v' : Nat} {e ce g g' : Int32} (hv : v ≤ v') (hv6 : v' ≤ 600) (hc : 0 ≤ ce.toInt ∧ ce.toInt ≤ 600) (h : Zr m kP kG kR de ds v e ce g) (h' : Zr m kP kG kR de ds v' e ce g') (h0 : g' = 0) : g = 0 := by
  unfold Zr at h h'
  rw [h'] at h0
  rw [h]
  rw [grF_0] at h0 ⊢
  have n1 : (nI v).toInt = v := nI_toInt (by omega)
  have n2 : (nI v').toInt = v' := nI_toInt (by omega)
  have lt : ∀ x : Int32, x < nI v → x < nI v' := by
    intro x
    rw [Int32.lt_iff_toInt_lt, Int32.lt_iff_toInt_lt]
    omega
  have pm : ∀ d k j, ∀ a b, PP m kG v d k j a b → PP m kG v' d k j a b := fun d k j a b q => Past.mono hv q
  obtain ⟨h1, h2, h3, h4⟩ := h0
  exact ⟨fun q => h1 (q.elim (fun z => Or.inl (lt _ z)) (fun z => Or.inr ⟨z.1, z.2.mono (pm _ _ _)⟩)), fun q => h2 (q.elim (fun z => Or.inl (lt _ z)) (fun z => Or.inr ⟨z.1, z.2.mono (pm _ _ _)⟩)), fun q => h3 (q.elim (fun z => Or.inl (lt _ z)) (fun z => Or.inr ⟨z.1, z.2.mono (pm _ _ _)⟩)), fun q => h4 (q.elim (fun z => Or.inl (lt _ z)) (fun z => Or.inr ⟨z.1, z.2.mono (pm _ _ _)⟩))⟩
theorem Zr.ceil {m : x_S} {kP kG kR de ds v : Nat} {e ce g : Int32} (hv6 : v ≤ 600) (h : Zr m kP kG kR de ds v e ce g) (h0 : g = 0) : (v : Int) ≤ ce.toInt := by
  unfold Zr at h
  rw [h, grF_0] at h0
  have n1 : (nI v).toInt = v := nI_toInt (by omega)
  have := h0.2.2.2
  rcases Int.lt_or_le ce.toInt v with q | q
  · exact absurd (Or.inl (by rw [Int32.lt_iff_toInt_lt]; omega)) this
  · exact q
/-- the greatest of those up to 600 -/
def IsGr (Z : Nat → Prop) (a : Nat) : Prop := a ≤ 600 ∧ (a = 0 ∨ Z a) ∧ ∀ t, a < t → t ≤ 600 → ¬ Z t
theorem IsGr.uniq {Z : Nat → Prop} {a b : Nat} (ha : IsGr Z a) (hb : IsGr Z b) : a = b := by
  rcases Nat.lt_or_ge a b with h | h
  · rcases hb.2.1 with q | q
    · omega
    · exact absurd q (ha.2.2 b h hb.1)
  · rcases Nat.lt_or_ge b a with h2 | h2
    · rcases ha.2.1 with q | q
      · omega
      · exact absurd q (hb.2.2 a h2 ha.1)
    · omega
theorem mod_allowed {m : x_S} {Z : Nat → Prop} (hg : ∀ v, 1 ≤ v → v ≤ 600 → ∃ g, F_Mod_grade (nI v) (m 46 9) m = some (g, m) ∧ (g = 0 ↔ Z v)) : ∀ (v n : Nat), v ≤ 600 → v < n → (∀ t, v < t → t ≤ 600 → ¬ Z t) → ∃ a, F_Mod_allowed_4 n (nI v) m = some (nI a, m) ∧ IsGr Z a := by
  intro v
  induction v with
  | zero =>
    intro n _ hn ht
    obtain ⟨n, rfl⟩ : ∃ q, n = q + 1 := ⟨n - 1, by omega⟩
    refine ⟨0, ?_, by omega, Or.inl rfl, ht⟩
    rw [F_Mod_allowed_4, if_pos (by decide)]
    rfl
  | succ v ih =>
    intro n hv hn ht
    obtain ⟨n, rfl⟩ : ∃ q, n = q + 1 := ⟨n - 1, by omega⟩
    obtain ⟨g, g1, g2⟩ := hg (v + 1) (by omega) hv
    rw [F_Mod_allowed_4, if_neg (nI_nle (by omega) (by omega)), x_bind_eq g1]
    unfold F_Mod_allowed_17
    by_cases q : g = 0
    · rw [if_pos q]
      exact ⟨v + 1, rfl, hv, Or.inr (g2.mp q), ht⟩
    · rw [if_neg q, pk_m1]
      refine ih n (by omega) (by omega) fun t h1 h2 => ?_
      by_cases e : t = v + 1
      · rw [e]; exact fun z => q (g2.mpr z)
      · exact ht t (by omega) h2
theorem cls_allowed {c : x_S} {Z : Nat → Prop} (hg : ∀ v, 1 ≤ v → v ≤ 600 → ∃ g, F_Cur_gradeOf (nI v) c = some (g, c) ∧ (g = 0 ↔ Z v)) (hm : ∀ v v', 1 ≤ v → v ≤ v' → v' ≤ 600 → Z v' → Z v) : ∀ (k l h i n : Nat), h + 1 - l = k → 1 ≤ l → l ≤ h + 1 → h ≤ 600 → k + i ≤ 600 → k < n → (∀ t, 1 ≤ t → t < l → Z t) → (∀ t, h < t → t ≤ 600 → ¬ Z t) → ∃ a, F_Cur_allowed_12 n (nI (l - 1)) (nI l) (nI h) (nI i) c = some (nI a, c) ∧ IsGr Z a := by
  intro k
  induction k using Nat.strongRecOn with
  | _ k ih =>
    intro l h i n hk hl hlh hh hi hn h1 h2
    obtain ⟨n, rfl⟩ : ∃ q, n = q + 1 := ⟨n - 1, by omega⟩
    rw [F_Cur_allowed_12]
    unfold F_Cur_allowed_63
    have done : h < l → IsGr Z (l - 1) := by
      intro q
      refine ⟨by omega, ?_, fun t t1 t2 => h2 t (by omega) t2⟩
      by_cases e : l = 1
      · exact Or.inl (by omega)
      · exact Or.inr (h1 (l - 1) (by omega) (by omega))
    by_cases q1 : (600 : Int32) ≤ nI i
    · have : 600 ≤ i := (nI_leI (a := 600) (b := i) (by omega) (by omega)).mp q1
      rw [if_pos q1]
      exact ⟨l - 1, rfl, done (by omega)⟩
    rw [if_neg q1]
    by_cases q2 : nI h < nI l
    · rw [if_pos q2]
      exact ⟨l - 1, rfl, done ((nI_ltI (by omega) (by omega)).mp q2)⟩
    · rw [if_neg q2]
      have q3 : l ≤ h := by
        rcases Nat.lt_or_ge h l with z | z
        · exact absurd (nI_lt z (by omega)) q2
        · exact z
      have em : (nI l + nI h) / 2 = nI ((l + h) / 2) := by rw [nI_add]; exact pk_div (d := 2) (by omega) (by omega) (by omega)
      rw [em]
      have m1 : l ≤ (l + h) / 2 := by omega
      have m2 : (l + h) / 2 ≤ h := by omega
      generalize (l + h) / 2 = md at *
      obtain ⟨g, g1, g2⟩ := hg md (by omega) (by omega)
      rw [x_bind_eq g1]
      unfold F_Cur_allowed_38 F_Cur_allowed_57
      by_cases q : g = 0
      · rw [if_pos q, nI_1, nI_1]
        have := ih (h + 1 - (md + 1)) (by omega) (md + 1) h (i + 1) n rfl (by omega) (by omega) hh (by omega) (by omega) (fun t t1 t2 => hm t md t1 (by omega) (by omega) (g2.mp q)) h2
        rw [Nat.add_sub_cancel] at this
        exact this
      · rw [if_neg q, nI_1]
        have e1 : nI md - 1 = nI (md - 1) := by
          obtain ⟨w, rfl⟩ : ∃ w, md = w + 1 := ⟨md - 1, by omega⟩
          exact nI_pred w
        rw [e1]
        exact ih (md - 1 + 1 - l) (by omega) l (md - 1) (i + 1) n rfl hl (by omega) (by omega) (by omega) (by omega) h1 (fun t t1 t2 z => q (g2.mpr (hm md t (by omega) (by omega) t2 z)))
theorem sim_allowed {n : Nat} {c m : x_S} (hn : n ≤ 512) (h : R n c m) (hs : ¬ SP (m 46 6)) : ∃ a c', F_G_allowedNow c = some (a, c') ∧ F_Mod_allowed m = some (a, m) ∧ fr42 c c' := by
  have e7 := h.1.2.2.2.2.2.2.1
  have e10 := h.1.2.2.2.2.2.2.2.2.2.1
  obtain ⟨c', ce, kP, kG, kR, de, ds, l1, l2, l3, l4, l5, l6⟩ := sim_look hn h.1.g h.2.2.1 h.2.2.2.1 (m 46 9)
  let Z : Nat → Prop := fun v => ∃ g, Zr m kP kG kR de ds v (m 46 9) ce g ∧ g = 0
  have zi : ∀ v g, v ≤ 600 → Zr m kP kG kR de ds v (m 46 9) ce g → (g = 0 ↔ Z v) := by
    intro v g hv hz
    constructor
    · intro q; exact ⟨g, hz, q⟩
    · rintro ⟨g', hz', q⟩
      unfold Zr at hz hz'
      rw [hz, ← hz']
      exact q
  have hm : ∀ v v', 1 ≤ v → v ≤ v' → v' ≤ 600 → Z v' → Z v := by
    rintro v v' h1 h2 h3 ⟨g', z', q⟩
    obtain ⟨g, z, -⟩ := l6 v (by omega)
    exact ⟨g, z, Zr.mono h2 h3 ⟨l4, l5⟩ z z' q⟩
  obtain ⟨a, a1, a2⟩ := mod_allowed (m := m) (Z := Z) (fun v h1 h2 => by
    obtain ⟨g, z, -, g2⟩ := l6 v h2
    exact ⟨g, g2 hs, zi v g h2 z⟩) 600 x_fuel (by omega) (by unfold x_fuel; omega) (fun t h1 h2 => absurd h1 (by omega))
  obtain ⟨w1, w2⟩ := x_nat l4
  obtain ⟨b, b1, b2⟩ := cls_allowed (c := c') (Z := Z) (fun v h1 h2 => by
    obtain ⟨g, z, g1, -⟩ := l6 v h2
    exact ⟨g, g1, zi v g h2 z⟩) hm (ce.toInt.toNat + 1 - 1) 1 ce.toInt.toNat 0 x_fuel rfl (by omega) (by omega) (by omega) (by omega) (by unfold x_fuel; omega) (fun t h1 h2 => absurd h2 (by omega)) (fun t h1 h2 z => by
    obtain ⟨g, z1, z2⟩ := z
    have := Zr.ceil h2 z1 z2
    omega)
  have hab := b2.uniq a2
  subst hab
  refine ⟨nI b, c', ?_, a1, l2⟩
  unfold F_G_allowedNow
  rw [x_bind_eq (cls_stopped c), e7]
  unfold F_G_allowedNow_4
  rw [bl_neg hs, if_pos rfl, e10, x_bind_eq l1]
  unfold F_G_allowedNow_20 F_Cur_allowed
  rw [l3, w1, x_bind_eq (show F_Cur_allowed_12 x_fuel 0 1 (nI ce.toInt.toNat) 0 c' = some (nI b, c') from b1)]
  rfl
theorem sim_display {n : Nat} {c m : x_S} (hn : n ≤ 512) (h : R n c m) (x : Int32) : x_eqv R n (F_G_display x c) (F_Mod_display x m) := by
  have hE := h.1
  obtain ⟨e1, e2, e3, e4, e5, e6, e7, e8, e9, e10, e11, e12, e13, e14, e15, e16, e17, e18, e19, e20, e21, e22, e23⟩ := hE
  have model : F_Mod_display x m = F_Mod_display_22 x (bl (SP (m 46 6))) m := by
    unfold F_Mod_display F_Mod_display_17
    by_cases q1 : m 46 6 = 4
    · rw [if_pos q1, bl_pos (P := SP _) (Or.inl q1)]
    rw [if_neg q1]
    by_cases q2 : m 46 6 = 6
    · rw [if_pos q2, bl_pos (P := SP _) (Or.inr q2)]
    · rw [if_neg q2, bl_neg (P := SP _) (fun z => z.elim q1 q2)]
  rw [model]
  unfold F_G_display F_Mod_display_22
  by_cases x0 : x = 0
  · rw [if_pos x0, if_pos x0]
    by_cases hs : SP (m 46 6)
    · rw [bl_pos hs, if_neg (by decide)]
      refine h.ask (r := 0) ?_ rfl
      unfold F_G_allowedNow
      rw [x_bind_eq (cls_stopped c), e7]
      unfold F_G_allowedNow_4
      rw [bl_pos hs]
      rfl
    · rw [bl_neg hs, if_pos rfl]
      obtain ⟨a, c', a1, a2, a3⟩ := sim_allowed hn h hs
      exact ⟨a, c', m, by rw [x_bind_eq a1]; rfl, by rw [x_bind_eq a2]; rfl, (h.fr42 a3).more⟩
  rw [if_neg x0, if_neg x0]
  by_cases x1 : x = 1
  · rw [if_pos x1, if_pos x1]
    obtain ⟨g, c', g1, g2, g3, -⟩ := sim_gradeEnd hn h.1.g h.2.2.1 h.2.2.2.1 (m 46 9)
    refine ⟨g, c', m, ?_, by rw [x_bind_eq g2]; rfl, (h.fr42 g3).more⟩
    unfold F_G_gradeNow
    rw [e10, x_bind_eq (x_bind_eq g1)]
    rfl
  rw [if_neg x1, if_neg x1]
  by_cases x2 : x = 2
  · rw [if_pos x2, if_pos x2, e9, e10, e5]
    unfold F_G_display_75 F_Mod_display_117
    by_cases q : m 46 8 = 0
    · rw [if_pos q, if_pos q]; exact h.ask rfl rfl
    · rw [if_neg q, if_neg q]
      obtain ⟨v1, v2, v3, v4, v5, v6, v7, v8, v9, v10, v11⟩ := h.2.2.1
      have z0 : ((0 : Int32)).toInt = 0 := by decide
      have s1 : (m 46 9 - m 46 4).toInt = (m 46 9).toInt - (m 46 4).toInt := i_sub (by have := v7.1; have := v5.2; omega) (by have := v7.2; have := v5.1; omega)
      by_cases w : m 46 9 ≤ m 46 4
      · rw [if_pos w]
        rw [Int32.le_iff_toInt_le] at w
        by_cases w2 : m 46 9 - m 46 4 < 0
        · rw [if_pos w2]; exact h.ask rfl rfl
        · rw [if_neg w2]
          rw [Int32.lt_iff_toInt_lt, s1] at w2
          have : m 46 9 - m 46 4 = 0 := Int32.toInt_inj.mp (by rw [s1]; omega)
          rw [this]; exact h.ask rfl rfl
      · rw [if_neg w]
        rw [Int32.le_iff_toInt_le] at w
        have w2 : ¬ m 46 9 - m 46 4 < 0 := by rw [Int32.lt_iff_toInt_lt, s1]; omega
        rw [if_neg w2]; exact h.ask rfl rfl
  rw [if_neg x2, if_neg x2]
  by_cases x3 : x = 3
  · rw [if_pos x3, if_pos x3, x_bind_eq (cls_stopped c), e7]
    unfold F_G_display_80 F_G_display_91 F_Mod_display_130
    by_cases hs : SP (m 46 6)
    · rw [bl_pos hs, if_neg (by decide), if_neg (by decide)]; exact h.ask rfl rfl
    · rw [bl_neg hs, if_pos rfl, if_pos rfl]
      obtain ⟨r, r1, r2, -⟩ := sim_ceiling h.1.g h.2.2.2.1
      rw [x_bind_eq r1, x_bind_eq r2]; exact h.ask rfl rfl
  · rw [if_neg x3, if_neg x3]; exact h.ask rfl rfl
