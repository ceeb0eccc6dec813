/-! the grade of danger, both sides -/
theorem cls_em {c m : x_S} {kG N v d : Nat} {T : List (Int32 × Int32)} (ht : TL m kG c T) (hN : T.length = N) (hN15 : N ≤ 15) (hv : v ≤ 600) (hd1 : 2 ≤ d) (hd : d ≤ 40) (he : c 42 0 = nI d) (hh : c 42 7 = m 46 4) (hb : x_bd (m 46 4) (-1000000) 1000000) (hT : ∀ q ∈ T, 0 ≤ q.2.toInt ∧ q.2.toInt ≤ 600) (hf : ∀ pl, 0 ≤ (fallF m kG pl).toInt ∧ (fallF m kG pl).toInt ≤ 63) :
    ∀ (j i n : Nat), i + j = N → j < n → F_Cur_isOverEmergency_2 n (nI v) (nI i) c = some (bl (∃ t q, i ≤ t ∧ T[t]? = some q ∧ PP m kG v d 2 0 q.1 q.2), c) := by
  intro j
  induction j with
  | zero =>
    intro i n hi hn
    obtain ⟨n, rfl⟩ : ∃ q, n = q + 1 := ⟨n - 1, by omega⟩
    rw [F_Cur_isOverEmergency_2, ht.1, if_pos (nI_le (by omega) (by omega)), bl_neg]
    rintro ⟨t, q, h1, h2, -⟩
    have := (List.getElem?_eq_some_iff.mp h2).1
    omega
  | succ j ih =>
    intro i n hi hn
    obtain ⟨n, rfl⟩ : ∃ q, n = q + 1 := ⟨n - 1, by omega⟩
    rw [F_Cur_isOverEmergency_2, ht.1, if_neg (nI_ge (by omega) (by omega)), he]
    obtain ⟨q, hq⟩ : ∃ q, T[i]? = some q := ⟨T[i]'(by omega), List.getElem?_eq_getElem (by omega)⟩
    obtain ⟨t1, t2, t3⟩ := ht.2 i q hq
    have hq2 := hT q (List.mem_of_getElem? hq)
    obtain ⟨u1, u2⟩ := x_nat hq2.1
    obtain ⟨w1, w2⟩ := x_nat (hf q.1).1
    have hp := cls_past (c := c) (i := i) (vn := v) (d := d) (k := 2) (j := 0) (un := q.2.toInt.toNat) (fl := (fallF m kG q.1).toInt.toNat) (by omega) hv hd1 hd (Or.inl rfl) (by omega) (by omega) (by rw [t2]; exact u1) (by rw [t3]; exact w1) (by have := hf q.1; omega) (by rw [hh]; exact hb)
    rw [hh, t1] at hp
    rw [x_bind_eq (show F_Cur_isOver (nI i) (nI v) (nI d) 2 0 c = some (bl (PP m kG v d 2 0 q.1 q.2), c) from hp)]
    unfold F_Cur_isOverEmergency_22
    by_cases g : PP m kG v d 2 0 q.1 q.2
    · rw [bl_pos g, if_neg (by decide), bl_pos ⟨i, q, Nat.le_refl _, hq, g⟩]
    · rw [bl_neg g, if_pos rfl, nI_1, ih (i + 1) n (by omega) (by omega)]
      congr 2
      refine bl_congr ⟨fun ⟨t, q', h1, h2, h3⟩ => ⟨t, q', by omega, h2, h3⟩, fun ⟨t, q', h1, h2, h3⟩ => ?_⟩
      by_cases e : t = i
      · subst e
        rw [hq] at h2
        cases h2
        exact absurd h3 g
      · exact ⟨t, q', by omega, h2, h3⟩
theorem cls_se {c m : x_S} {kG N v d jj : Nat} {T : List (Int32 × Int32)} (ht : TL m kG c T) (hN : T.length = N + 1) (hN15 : N ≤ 14) (hv : v ≤ 600) (hd1 : 2 ≤ d) (hd : d ≤ 40) (hjj : jj ≤ 4) (he : c 42 1 = nI d) (hh : c 42 7 = m 46 4) (hb : x_bd (m 46 4) (-1000000) 1000000) (hT : ∀ q ∈ T, 0 ≤ q.2.toInt ∧ q.2.toInt ≤ 600) (hf : ∀ pl, 0 ≤ (fallF m kG pl).toInt ∧ (fallF m kG pl).toInt ≤ 63) :
    ∀ (j i n : Nat), i + j = N → j < n → F_Cur_isOverService_2 n (nI v) (nI jj) (nI i) c = some (bl (∃ t q, i ≤ t ∧ t < N ∧ T[t]? = some q ∧ PP m kG v d 3 jj q.1 q.2), c) := by
  intro j
  induction j with
  | zero =>
    intro i n hi hn
    obtain ⟨n, rfl⟩ : ∃ q, n = q + 1 := ⟨n - 1, by omega⟩
    rw [F_Cur_isOverService_2, ht.1, hN, nI_pred, if_pos (nI_le (by omega) (by omega)), bl_neg]
    rintro ⟨t, q, h1, h2, -⟩
    omega
  | succ j ih =>
    intro i n hi hn
    obtain ⟨n, rfl⟩ : ∃ q, n = q + 1 := ⟨n - 1, by omega⟩
    rw [F_Cur_isOverService_2, ht.1, hN, nI_pred, if_neg (nI_ge (by omega) (by omega)), he]
    obtain ⟨q, hq⟩ : ∃ q, T[i]? = some q := ⟨T[i]'(by omega), List.getElem?_eq_getElem (by omega)⟩
    obtain ⟨t1, t2, t3⟩ := ht.2 i q hq
    have hq2 := hT q (List.mem_of_getElem? hq)
    obtain ⟨u1, u2⟩ := x_nat hq2.1
    obtain ⟨w1, w2⟩ := x_nat (hf q.1).1
    have hp := cls_past (c := c) (i := i) (vn := v) (d := d) (k := 3) (j := jj) (un := q.2.toInt.toNat) (fl := (fallF m kG q.1).toInt.toNat) (by omega) hv hd1 hd (Or.inr rfl) hjj (by omega) (by rw [t2]; exact u1) (by rw [t3]; exact w1) (by have := hf q.1; omega) (by rw [hh]; exact hb)
    rw [hh, t1] at hp
    rw [x_bind_eq (show F_Cur_isOver (nI i) (nI v) (nI d) 3 (nI jj) c = some (bl (PP m kG v d 3 jj q.1 q.2), c) from hp)]
    unfold F_Cur_isOverService_24
    by_cases g : PP m kG v d 3 jj q.1 q.2
    · rw [bl_pos g, if_neg (by decide), bl_pos ⟨i, q, Nat.le_refl _, by omega, hq, g⟩]
    · rw [bl_neg g, if_pos rfl, nI_1, ih (i + 1) n (by omega) (by omega)]
      congr 2
      refine bl_congr ⟨fun ⟨t, q', h1, h2, h3⟩ => ⟨t, q', by omega, h2, h3⟩, fun ⟨t, q', h1, h4, h2, h3⟩ => ?_⟩
      by_cases e : t = i
      · subst e
        rw [hq] at h2
        cases h2
        exact absurd h3 g
      · exact ⟨t, q', by omega, h4, h2, h3⟩
/-- the grade, out of a ceiling and four questions -/
noncomputable def grF (ce v : Int32) (A B C D : Prop) : Int32 :=
  @ite _ (ce + 8 < v ∨ A) (Classical.propDecidable _) 4 (@ite _ (ce + 5 < v ∨ B) (Classical.propDecidable _) 3 (@ite _ (ce + 3 < v ∨ C) (Classical.propDecidable _) 2 (@ite _ (ce < v ∨ D) (Classical.propDecidable _) 1 0)))
theorem cls_gradeOf {c : x_S} {v : Int32} {A B C D : Prop} (hA : F_Cur_isOverEmergency v c = some (bl A, c)) (hB : F_Cur_isOverService v 0 c = some (bl B, c)) (hC : F_Cur_isOverService v 2 c = some (bl C, c)) (hD : F_Cur_isOverService v 4 c = some (bl D, c)) : F_Cur_gradeOf v c = some (grF (c 42 6) v A B C D, c) := by
  unfold F_Cur_gradeOf F_Cur_gradeOf_19 grF
  by_cases g1 : c 42 6 + 8 < v
  · rw [if_pos g1, if_pos (Or.inl g1)]
  rw [if_neg g1, x_bind_eq hA]
  unfold F_Cur_gradeOf_16 F_Cur_gradeOf_19 F_Cur_gradeOf_40
  by_cases a1 : A
  · rw [bl_pos a1, if_neg (by decide), if_pos (Or.inr a1)]
  rw [bl_neg a1, if_pos rfl, if_neg (show ¬ (c 42 6 + 8 < v ∨ A) from fun q => q.elim g1 a1)]
  by_cases g2 : c 42 6 + 5 < v
  · rw [if_pos g2, if_pos (Or.inl g2)]
  rw [if_neg g2, x_bind_eq hB]
  unfold F_Cur_gradeOf_37 F_Cur_gradeOf_40 F_Cur_gradeOf_61
  by_cases a2 : B
  · rw [bl_pos a2, if_neg (by decide), if_pos (Or.inr a2)]
  rw [bl_neg a2, if_pos rfl, if_neg (show ¬ (c 42 6 + 5 < v ∨ B) from fun q => q.elim g2 a2)]
  by_cases g3 : c 42 6 + 3 < v
  · rw [if_pos g3, if_pos (Or.inl g3)]
  rw [if_neg g3, x_bind_eq hC]
  unfold F_Cur_gradeOf_58 F_Cur_gradeOf_61 F_Cur_gradeOf_80 F_Cur_gradeOf_85
  by_cases a3 : C
  · rw [bl_pos a3, if_neg (by decide), if_pos (Or.inr a3)]
  rw [bl_neg a3, if_pos rfl, if_neg (show ¬ (c 42 6 + 3 < v ∨ C) from fun q => q.elim g3 a3)]
  by_cases g4 : c 42 6 < v
  · rw [if_pos g4, if_pos (Or.inl g4)]
  rw [if_neg g4, x_bind_eq hD]
  unfold F_Cur_gradeOf_77 F_Cur_gradeOf_80 F_Cur_gradeOf_85
  by_cases a4 : D
  · rw [bl_pos a4, if_neg (by decide), if_pos (Or.inr a4)]
  · rw [bl_neg a4, if_pos rfl, if_neg (show ¬ (c 42 6 < v ∨ D) from fun q => q.elim g4 a4)]
theorem mod_gradeOf {m : x_S} {v e ce : Int32} {A B C D : Prop} (hs : ¬ SP (m 46 6)) (hce : F_Mod_ceiling m = some (ce, m)) (hA : F_Mod_over v (m 46 0) 2 0 (e + m 46 10) m = some (bl A, m)) (hB : F_Mod_over v (m 46 1) 3 0 e m = some (bl B, m)) (hC : F_Mod_over v (m 46 1) 3 2 e m = some (bl C, m)) (hD : F_Mod_over v (m 46 1) 3 4 e m = some (bl D, m)) : F_Mod_grade v e m = some (grF ce v A B C D, m) := by
  unfold F_Mod_grade
  rw [if_neg (fun q => hs (Or.inl q)), if_neg (fun q => hs (Or.inr q)), x_bind_eq hce]
  unfold F_Mod_grade_23 F_Mod_grade_52 grF
  by_cases g1 : ce + 8 < v
  · rw [if_pos g1, if_pos (Or.inl g1)]
  rw [if_neg g1, x_bind_eq hA]
  unfold F_Mod_grade_49 F_Mod_grade_52 F_Mod_grade_76
  by_cases a1 : A
  · rw [bl_pos a1, if_neg (by decide), if_pos (Or.inr a1)]
  rw [bl_neg a1, if_pos rfl, if_neg (show ¬ (ce + 8 < v ∨ A) from fun q => q.elim g1 a1)]
  by_cases g2 : ce + 5 < v
  · rw [if_pos g2, if_pos (Or.inl g2)]
  rw [if_neg g2, x_bind_eq hB]
  unfold F_Mod_grade_73 F_Mod_grade_76 F_Mod_grade_100
  by_cases a2 : B
  · rw [bl_pos a2, if_neg (by decide), if_pos (Or.inr a2)]
  rw [bl_neg a2, if_pos rfl, if_neg (show ¬ (ce + 5 < v ∨ B) from fun q => q.elim g2 a2)]
  by_cases g3 : ce + 3 < v
  · rw [if_pos g3, if_pos (Or.inl g3)]
  rw [if_neg g3, x_bind_eq hC]
  unfold F_Mod_grade_97 F_Mod_grade_100 F_Mod_grade_122 F_Mod_grade_127
  by_cases a3 : C
  · rw [bl_pos a3, if_neg (by decide), if_pos (Or.inr a3)]
  rw [bl_neg a3, if_pos rfl, if_neg (show ¬ (ce + 3 < v ∨ C) from fun q => q.elim g3 a3)]
  by_cases g4 : ce < v
  · rw [if_pos g4, if_pos (Or.inl g4)]
  rw [if_neg g4, x_bind_eq hD]
  unfold F_Mod_grade_119 F_Mod_grade_122 F_Mod_grade_127
  by_cases a4 : D
  · rw [bl_pos a4, if_neg (by decide), if_pos (Or.inr a4)]
  · rw [bl_neg a4, if_pos rfl, if_neg (show ¬ (ce < v ∨ D) from fun q => q.elim g4 a4)]
/-- what one look ahead gives: the grade of every speed, on both sides -/
def Zr (m : x_S) (kP kG kR de ds v : Nat) (e : Int32) (ce : Int32) : Int32 → Prop := fun g => g = grF ce (nI v) (GD (m 46 6) ∧ OV m kP kR (PP m kG v de 2 0) (e + m 46 10)) (GD (m 46 6) ∧ OV m kP kR (PP m kG v ds 3 0) e) (GD (m 46 6) ∧ OV m kP kR (PP m kG v ds 3 2) e) (GD (m 46 6) ∧ OV m kP kR (PP m kG v ds 3 4) e)
theorem sim_look {n : Nat} {c m : x_S} (hn : n ≤ 512) (hE : RG c m) (hV : RV n m) (hD : RD c m) (e : Int32) : ∃ (c' : x_S) (ce : Int32) (kP kG kR de ds : Nat), F_G_lookAhead e c = some (0, c') ∧ fr42 c c' ∧ c' 42 6 = ce ∧ 0 ≤ ce.toInt ∧ ce.toInt ≤ 600 ∧ ∀ v, v ≤ 600 → ∃ g, Zr m kP kG kR de ds v e ce g ∧ F_Cur_gradeOf (nI v) c' = some (g, c') ∧ (¬ SP (m 46 6) → F_Mod_grade (nI v) e m = some (g, m)) := by
  obtain ⟨ce, k1, k2, k3, k4⟩ := sim_ceiling hE hD
  have hE' := hE
  obtain ⟨e1, e2, e3, e4, e5, e6, e7, e11, e20, e21, e23⟩ := hE'
  obtain ⟨⟨kP, p1, p2, p3⟩, ⟨kG, g1, g2, g3⟩, -, ⟨kR, r1, r2, ⟨a, b, r3, r4⟩, r5, r6⟩, -⟩ := hD
  obtain ⟨v1, v2, v3, v4, v5, v6, v7, v8, v9, v10, v11⟩ := hV
  have hb : x_bd (m 46 4) (-1000000) 1000000 := ⟨by have := v5.1; omega, by have := v5.2; omega⟩
  have hGR : GR c m kG := ⟨g1, g2, e4, e1, g3⟩
  have hOK : OK m kP kG kR := ⟨p1, g1, r1, e20.symm.trans p2, e21.symm.trans g2, e23.symm.trans r2, fun i hi => ⟨(g3 i hi).2.2.2.2.1, (g3 i hi).2.2.2.2.2.1⟩, fun i hi => ⟨(p3 i hi).2.2.2.2.1, (p3 i hi).2.2.2.2.2.1⟩, fun i hi => ⟨(r5 i hi).2.2.2.2.1, (r5 i hi).2.2.2.2.2⟩, hb⟩
  have hf : ∀ pl, 0 ≤ (fallF m kG pl).toInt ∧ (fallF m kG pl).toInt ≤ 63 := fallF_bd hOK.2.2.2.2.2.2.1
  obtain ⟨d1, d2⟩ := x_nat (x := m 46 0) (by have := v2.1; omega)
  obtain ⟨s1, s2⟩ := x_nat (x := m 46 1) (by have := v3.1; omega)
  generalize hde : (m 46 0).toInt.toNat = de at d1
  generalize hds : (m 46 1).toInt.toNat = ds at s1
  have de1 : 2 ≤ de ∧ de ≤ 40 := by have := v2.1; have := v2.2; omega
  have ds1 : 2 ≤ ds ∧ ds ≤ 40 := by have := v3.1; have := v3.2; omega
  -- the reference's side, for every speed
  have hM : ∀ v, v ≤ 600 → ¬ SP (m 46 6) → F_Mod_grade (nI v) e m = some (grF ce (nI v) (GD (m 46 6) ∧ OV m kP kR (PP m kG v de 2 0) (e + m 46 10)) (GD (m 46 6) ∧ OV m kP kR (PP m kG v ds 3 0) e) (GD (m 46 6) ∧ OV m kP kR (PP m kG v ds 3 2) e) (GD (m 46 6) ∧ OV m kP kR (PP m kG v ds 3 4) e), m) := by
    intro v hv hs
    refine mod_gradeOf hs k2 ?_ ?_ ?_ ?_
    · rw [d1]; exact mod_over (k := 2) (j := 0) hOK hv de1.1 de1.2 (Or.inl rfl) (by omega)
    · rw [s1]; exact mod_over (k := 3) (j := 0) hOK hv ds1.1 ds1.2 (Or.inr rfl) (by omega)
    · rw [s1]; exact mod_over (k := 3) (j := 2) hOK hv ds1.1 ds1.2 (Or.inr rfl) (by omega)
    · rw [s1]; exact mod_over (k := 3) (j := 4) hOK hv ds1.1 ds1.2 (Or.inr rfl) (by omega)
  -- the class's side
  have hbeg : ∃ c0, F_Cur_begin ce (m 46 4) c = some (0, c0) ∧ fr42 c c0 ∧ TL m kG c0 [] ∧ c0 42 6 = ce ∧ c0 42 7 = m 46 4 := by
    refine ⟨x_up (x_up (x_up c 42 6 ce) 42 7 (m 46 4)) 42 5 0, rfl, ⟨fun p q1 q2 q3 q4 => by rw [x_up_ne q1, x_up_ne q1, x_up_ne q1], fun j q1 q2 q3 => by rw [x_up_at, if_neg q1, x_up_at, if_neg q3, x_up_at, if_neg q2]⟩, ⟨by rw [x_up_at, if_pos rfl]; rfl, fun i q hq => by simp at hq⟩, ?_, ?_⟩
    · simp [x_up_at]
    · simp [x_up_at]
  obtain ⟨c0, b1, b2, b3, b4, b5⟩ := hbeg
  have start : F_G_lookAhead e c = F_G_lookAhead_18 e c0 := by
    unfold F_G_lookAhead
    rw [x_bind_eq k1]
    unfold F_G_lookAhead_8
    rw [e5, x_bind_eq b1]
  have m0 : c0 0 8 = m 46 6 := by rw [b2.1 0 (by decide) (by decide) (by decide) (by decide)]; exact e7
  rw [start]
  unfold F_G_lookAhead_18
  rw [x_bind_eq (cls_guided c0), m0]
  unfold F_G_lookAhead_22
  by_cases hg : GD (m 46 6)
  · rw [bl_pos hg, if_neg (by decide)]
    obtain ⟨c1, q1, q2, q3, q4, q5⟩ := cls_addTarget (hGR.fr b2) b3 (by decide) e 0
    have f1 := b2.trans q3
    have at1 : ∀ p, p ≠ 42 → p ≠ 43 → p ≠ 44 → p ≠ 45 → c1 p = c p := f1.1
    have l1 := ahd_len (hi := m 46 4) (f := c 4) (v := c 6) kP 0
    have l2 := ahd_len (hi := m 46 4) (f := c 14) (v := c 16) kR 0
    obtain ⟨c2, w1, w2, w3, w4, w5⟩ := cls_addTargetsOf (m := m) (kG := kG) (p := 3) (Or.inl rfl) (hh := m 46 4) (f := c 4) (v := c 6) p1 kP 0 x_fuel c1 ([] ++ [(e, 0)]) (by omega) (by unfold x_fuel; omega) (hGR.fr f1) q2 (by simp; omega) (by rw [at1 3 (by decide) (by decide) (by decide) (by decide)]; exact p2) (by rw [at1 1 (by decide) (by decide) (by decide) (by decide)]; exact e5) (at1 4 (by decide) (by decide) (by decide) (by decide)) (at1 6 (by decide) (by decide) (by decide) (by decide))
    have f2 := f1.trans w3
    have at2 : ∀ p, p ≠ 42 → p ≠ 43 → p ≠ 44 → p ≠ 45 → c2 p = c p := f2.1
    obtain ⟨c3, x1, x2, x3, x4, x5⟩ := cls_addTargetsOf (m := m) (kG := kG) (p := 13) (Or.inr rfl) (hh := m 46 4) (f := c 14) (v := c 16) (show kR ≤ 7 by omega) kR 0 x_fuel c2 (([] ++ [(e, 0)]) ++ ahd (m 46 4) (c 4) (c 6) 0 kP) (by omega) (by unfold x_fuel; omega) (hGR.fr f2) w2 (by simp; omega) (by rw [at2 13 (by decide) (by decide) (by decide) (by decide)]; exact r2) (by rw [at2 1 (by decide) (by decide) (by decide) (by decide)]; exact e5) (at2 14 (by decide) (by decide) (by decide) (by decide)) (at2 16 (by decide) (by decide) (by decide) (by decide))
    have f3 := f2.trans x3
    have at3 : ∀ p, p ≠ 42 → p ≠ 43 → p ≠ 44 → p ≠ 45 → c3 p = c p := f3.1
    obtain ⟨c4, y1, y2, y3, y4, y5⟩ := cls_addTarget (hGR.fr f3) x2 (by simp; omega) (e + m 46 10) 0
    have f4 := f3.trans y3
    -- the list
    generalize hMid : ahd (m 46 4) (c 4) (c 6) 0 kP ++ ahd (m 46 4) (c 14) (c 16) 0 kR = Mid
    have eT : ([] ++ [(e, (0 : Int32))] ++ ahd (m 46 4) (c 4) (c 6) 0 kP ++ ahd (m 46 4) (c 14) (c 16) 0 kR ++ [(e + m 46 10, 0)]) = ((e, (0 : Int32)) :: Mid) ++ [(e + m 46 10, 0)] := by
      rw [← hMid]; simp
    rw [eT] at y2
    have lM : Mid.length ≤ 13 := by rw [← hMid]; simp; omega
    have memMid : ∀ q, q ∈ Mid ↔ (∃ i, i < kP ∧ m 46 4 < m 47 i ∧ q = (m 47 i, m 48 i)) ∨ (∃ i, i < kR ∧ m 46 4 < m 56 i ∧ q = (m 56 i, m 58 i)) := by
      intro q
      rw [← hMid, List.mem_append, ahd_mem, ahd_mem]
      constructor
      · rintro (⟨t, t1, t2, t3, t4⟩ | ⟨t, t1, t2, t3, t4⟩)
        · have ht : t < kP := by omega
          obtain ⟨z1, z2, -⟩ := p3 t ht
          rw [z1] at t3 t4
          rw [z2] at t4
          exact Or.inl ⟨t, ht, t3, t4⟩
        · have ht : t < kR := by omega
          obtain ⟨z1, z2, z3, z4⟩ := r3 t ht
          obtain ⟨z5, z6, z7, z8⟩ := r4 (b t) z2
          rw [z3] at z6 z8
          rw [z6] at t3 t4
          rw [z8] at t4
          exact Or.inr ⟨b t, z2, t3, t4⟩
      · rintro (⟨i, hi, t3, t4⟩ | ⟨i, hi, t3, t4⟩)
        · obtain ⟨z1, z2, -⟩ := p3 i hi
          exact Or.inl ⟨i, by omega, by omega, by rw [z1]; exact t3, by rw [z1, z2]; exact t4⟩
        · obtain ⟨z5, z6, z7, z8⟩ := r4 i hi
          exact Or.inr ⟨a i, by omega, by have := (r3 i hi).1; omega, by rw [z6]; exact t3, by rw [z6, z8]; exact t4⟩
    have hT : ∀ q ∈ ((e, (0 : Int32)) :: Mid) ++ [(e + m 46 10, 0)], 0 ≤ q.2.toInt ∧ q.2.toInt ≤ 600 := by
      intro q hq
      rcases List.mem_append.mp hq with hq | hq
      · rcases List.mem_cons.mp hq with rfl | hq
        · exact ⟨show 0 ≤ ((0 : Int32)).toInt by decide, show ((0 : Int32)).toInt ≤ 600 by decide⟩
        · rcases (memMid q).mp hq with ⟨i, hi, -, rfl⟩ | ⟨i, hi, -, rfl⟩
          · exact hOK.2.2.2.2.2.2.2.1 i hi
          · exact hOK.2.2.2.2.2.2.2.2.1 i hi
      · rw [List.mem_singleton.mp hq]; exact ⟨show 0 ≤ ((0 : Int32)).toInt by decide, show ((0 : Int32)).toInt ≤ 600 by decide⟩
    have ovMid : ∀ P : Int32 → Int32 → Prop, (∃ q, q ∈ Mid ∧ P q.1 q.2) ↔ ((∃ i, i < kP ∧ m 46 4 < m 47 i ∧ P (m 47 i) (m 48 i)) ∨ (∃ i, i < kR ∧ m 46 4 < m 56 i ∧ P (m 56 i) (m 58 i))) := by
      intro P
      constructor
      · rintro ⟨q, hq, hP⟩
        rcases (memMid q).mp hq with ⟨i, hi, h1, rfl⟩ | ⟨i, hi, h1, rfl⟩
        · exact Or.inl ⟨i, hi, h1, hP⟩
        · exact Or.inr ⟨i, hi, h1, hP⟩
      · rintro (⟨i, hi, h1, hP⟩ | ⟨i, hi, h1, hP⟩)
        · exact ⟨_, (memMid _).mpr (Or.inl ⟨i, hi, h1, rfl⟩), hP⟩
        · exact ⟨_, (memMid _).mpr (Or.inr ⟨i, hi, h1, rfl⟩), hP⟩
    have h42 : c4 42 7 = m 46 4 := y5.trans (x5.trans (w5.trans (q5.trans b5)))
    have h46 : c4 42 6 = ce := y4.trans (x4.trans (w4.trans (q4.trans b4)))
    have hem0 : c4 42 0 = nI de := by rw [f4.2 0 (by decide) (by decide) (by decide), e2]; exact d1
    have hse0 : c4 42 1 = nI ds := by rw [f4.2 1 (by decide) (by decide) (by decide), e3]; exact s1
    have lT : (((e, (0 : Int32)) :: Mid) ++ [(e + m 46 10, 0)]).length = Mid.length + 1 + 1 := by simp
    refine ⟨c4, ce, kP, kG, kR, de, ds, ?_, f4, h46, k3, k4, fun v hv => ⟨_, rfl, ?_, hM v hv⟩⟩
    · rw [x_bind_eq q1]
      unfold F_G_lookAhead_31 F_G_addTargetsOf
      rw [x_bind_eq (show F_G_addTargetsOf_2 3 x_fuel 0 c1 = some (0, c2) from w1)]
      unfold F_G_lookAhead_42 F_G_addTargetsOf
      rw [x_bind_eq (show F_G_addTargetsOf_2 13 x_fuel 0 c2 = some (0, c3) from x1)]
      unfold F_G_lookAhead_56
      rw [at3 2 (by decide) (by decide) (by decide) (by decide), e11, x_bind_eq y1]
      rfl
    · rw [← h46]
      have hem := cls_em (m := m) (kG := kG) y2 lT (by omega) hv de1.1 de1.2 hem0 h42 hb hT hf (Mid.length + 1) 1 x_fuel (by omega) (by unfold x_fuel; omega)
      have hse := fun jj (hjj : jj ≤ 4) => cls_se (m := m) (kG := kG) (jj := jj) y2 lT (by omega) hv ds1.1 ds1.2 hjj hse0 h42 hb hT hf (Mid.length + 1) 0 x_fuel (by omega) (by unfold x_fuel; omega)
      have convE : ∀ P : Int32 → Int32 → Prop, (∃ t q, 1 ≤ t ∧ (((e, (0 : Int32)) :: Mid) ++ [(e + m 46 10, 0)])[t]? = some q ∧ P q.1 q.2) ↔ (GD (m 46 6) ∧ OV m kP kR P (e + m 46 10)) := by
        intro P
        unfold OV
        rw [← ovMid P]
        constructor
        · rintro ⟨t, q, h1, h2, h3⟩
          refine ⟨hg, ?_⟩
          obtain ⟨t, rfl⟩ : ∃ t', t = t' + 1 := ⟨t - 1, by omega⟩
          rw [List.cons_append, List.getElem?_cons_succ] at h2
          rcases List.mem_append.mp (List.mem_of_getElem? h2) with hq | hq
          · exact Or.inr ⟨q, hq, h3⟩
          · rw [List.mem_singleton.mp hq] at h3; exact Or.inl h3
        · rintro ⟨-, h | ⟨q, hq, h⟩⟩
          · obtain ⟨t, ht⟩ := List.getElem?_of_mem (show (e + m 46 10, (0 : Int32)) ∈ Mid ++ [(e + m 46 10, 0)] from List.mem_append_right _ (List.mem_singleton.mpr rfl))
            exact ⟨t + 1, _, by omega, by rw [List.cons_append, List.getElem?_cons_succ]; exact ht, h⟩
          · obtain ⟨t, ht⟩ := List.getElem?_of_mem (show q ∈ Mid ++ [(e + m 46 10, 0)] from List.mem_append_left _ hq)
            exact ⟨t + 1, q, by omega, by rw [List.cons_append, List.getElem?_cons_succ]; exact ht, h⟩
      have convS : ∀ P : Int32 → Int32 → Prop, (∃ t q, 0 ≤ t ∧ t < Mid.length + 1 ∧ (((e, (0 : Int32)) :: Mid) ++ [(e + m 46 10, 0)])[t]? = some q ∧ P q.1 q.2) ↔ (GD (m 46 6) ∧ OV m kP kR P e) := by
        intro P
        unfold OV
        rw [← ovMid P]
        constructor
        · rintro ⟨t, q, -, h1, h2, h3⟩
          refine ⟨hg, ?_⟩
          rw [List.getElem?_append_left (by simp; omega)] at h2
          rcases List.mem_cons.mp (List.mem_of_getElem? h2) with hq | hq
          · rw [hq] at h3; exact Or.inl h3
          · exact Or.inr ⟨q, hq, h3⟩
        · rintro ⟨-, h | ⟨q, hq, h⟩⟩
          · exact ⟨0, _, by omega, by omega, rfl, h⟩
          · obtain ⟨t, ht⟩ := List.getElem?_of_mem hq
            have hl := (List.getElem?_eq_some_iff.mp ht).1
            refine ⟨t + 1, q, by omega, by omega, ?_, h⟩
            rw [List.getElem?_append_left (by simp; omega), List.getElem?_cons_succ]
            exact ht
      refine cls_gradeOf ?_ ?_ ?_ ?_
      · rw [← bl_congr (convE _)]; exact hem
      · rw [← bl_congr (convS _)]; exact hse 0 (by omega)
      · rw [← bl_congr (convS _)]; exact hse 2 (by omega)
      · rw [← bl_congr (convS _)]; exact hse 4 (by omega)
  · rw [bl_neg hg, if_pos rfl]
    refine ⟨c0, ce, kP, kG, kR, de, ds, rfl, b2, b4, k3, k4, fun v hv => ⟨_, rfl, ?_, hM v hv⟩⟩
    have b0 : c0 42 5 = 0 := b3.1
    rw [← b4]
    refine cls_gradeOf ?_ ?_ ?_ ?_
    · rw [bl_neg (fun q => hg q.1)]
      unfold F_Cur_isOverEmergency
      show F_Cur_isOverEmergency_2 (1001 + 1) _ _ _ = _
      rw [F_Cur_isOverEmergency_2, b0, if_pos (by decide)]
    · rw [bl_neg (fun q => hg q.1)]
      unfold F_Cur_isOverService
      show F_Cur_isOverService_2 (1001 + 1) _ _ _ _ = _
      rw [F_Cur_isOverService_2, b0, if_pos (by decide)]
    · rw [bl_neg (fun q => hg q.1)]
      unfold F_Cur_isOverService
      show F_Cur_isOverService_2 (1001 + 1) _ _ _ _ = _
      rw [F_Cur_isOverService_2, b0, if_pos (by decide)]
    · rw [bl_neg (fun q => hg q.1)]
      unfold F_Cur_isOverService
      show F_Cur_isOverService_2 (1001 + 1) _ _ _ _ = _
      rw [F_Cur_isOverService_2, b0, if_pos (by decide)]
