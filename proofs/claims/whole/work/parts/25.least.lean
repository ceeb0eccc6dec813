/-! the most restrictive limit -/
def lfold (st : Nat → Int32 → Int32) : Nat → Int32 → Int32
  | 0, a => a
  | k + 1, a => st k (lfold st k a)
theorem lfold_congr {st st' : Nat → Int32 → Int32} : ∀ (k : Nat) (a : Int32), (∀ i, i < k → ∀ x, st i x = st' i x) → lfold st k a = lfold st' k a := by
  intro k
  induction k with
  | zero => intro a _; rfl
  | succ k ih =>
    intro a h
    rw [lfold, lfold, ih a (fun i hi => h i (by omega)), h k (by omega)]
theorem loop_fold {α : Type} (G : Nat → Int32 → Nat → α) (st : Nat → Int32 → Int32) (k : Nat) (res : Int32 → α) (hs : ∀ n i a, i < k → G (n + 1) a i = G n (st i a) (i + 1)) (he : ∀ n a, G (n + 1) a k = res a) (a : Int32) :
    ∀ (j i n : Nat), i + j = k → j < n → G n (lfold st i a) i = res (lfold st k a) := by
  intro j
  induction j with
  | zero =>
    intro i n hi hn
    obtain ⟨n, rfl⟩ : ∃ q, n = q + 1 := ⟨n - 1, by omega⟩
    have : i = k := by omega
    subst this
    exact he n _
  | succ j ih =>
    intro i n hi hn
    obtain ⟨n, rfl⟩ : ∃ q, n = q + 1 := ⟨n - 1, by omega⟩
    rw [hs n i _ (by omega)]
    exact ih (i + 1) n (by omega) (by omega)
theorem loop_fold0 {α : Type} (G : Nat → Int32 → Nat → α) (st : Nat → Int32 → Int32) (k n : Nat) (res : Int32 → α) (hs : ∀ n i a, i < k → G (n + 1) a i = G n (st i a) (i + 1)) (he : ∀ n a, G (n + 1) a k = res a) (a : Int32) (hn : k < n) : G n a 0 = res (lfold st k a) :=
  loop_fold G st k res hs he a k 0 n (by omega) hn
/-- the least of a and of those that hold -/
def IsMin (r : Int32) (k : Nat) (H : Nat → Prop) (v : Nat → Int32) (a : Int32) : Prop := r.toInt ≤ a.toInt ∧ (∀ i, i < k → H i → r.toInt ≤ (v i).toInt) ∧ (r = a ∨ ∃ i, i < k ∧ H i ∧ r = v i)
theorem IsMin.uniq {r r' : Int32} {k : Nat} {H : Nat → Prop} {v : Nat → Int32} {a : Int32} (h : IsMin r k H v a) (h' : IsMin r' k H v a) : r = r' := by
  apply Int32.toInt_inj.mp
  have g1 : r.toInt ≤ r'.toInt := by
    rcases h'.2.2 with e | ⟨i, hi, hH, e⟩
    · rw [e]; exact h.1
    · rw [e]; exact h.2.1 i hi hH
  have g2 : r'.toInt ≤ r.toInt := by
    rcases h.2.2 with e | ⟨i, hi, hH, e⟩
    · rw [e]; exact h'.1
    · rw [e]; exact h'.2.1 i hi hH
  omega
theorem IsMin.to {r : Int32} {k : Nat} {H H' : Nat → Prop} {v v' : Nat → Int32} {a : Int32} (h : IsMin r k H v a) (f g : Nat → Nat) (hf : ∀ i, i < k → H' i → f i < k ∧ H (f i) ∧ v (f i) = v' i) (hg : ∀ i, i < k → H i → g i < k ∧ H' (g i) ∧ v' (g i) = v i) : IsMin r k H' v' a := by
  refine ⟨h.1, fun i hi hH => ?_, ?_⟩
  · obtain ⟨q1, q2, q3⟩ := hf i hi hH
    rw [← q3]
    exact h.2.1 _ q1 q2
  · rcases h.2.2 with e | ⟨i, hi, hH, e⟩
    · exact Or.inl e
    · obtain ⟨q1, q2, q3⟩ := hg i hi hH
      exact Or.inr ⟨g i, q1, q2, by rw [q3]; exact e⟩
theorem lfold_min {st : Nat → Int32 → Int32} {H : Nat → Prop} {v : Nat → Int32} : ∀ (k : Nat) (a : Int32), (∀ i, i < k → ∀ x, (H i → st i x = if x ≤ v i then x else v i) ∧ (¬ H i → st i x = x)) → IsMin (lfold st k a) k H v a := by
  intro k
  induction k with
  | zero => intro a _; exact ⟨Int.le_refl _, fun i hi => absurd hi (by omega), Or.inl rfl⟩
  | succ k ih =>
    intro a h
    obtain ⟨g1, g2, g3⟩ := ih a (fun i hi => h i (by omega))
    obtain ⟨s1, s2⟩ := h k (by omega) (lfold st k a)
    rw [lfold]
    by_cases hH : H k
    · rw [s1 hH]
      by_cases hc : lfold st k a ≤ v k
      · rw [if_pos hc]
        rw [Int32.le_iff_toInt_le] at hc
        refine ⟨g1, fun i hi hHi => ?_, ?_⟩
        · by_cases e : i = k
          · subst e; exact hc
          · exact g2 i (by omega) hHi
        · rcases g3 with e | ⟨i, hi, q⟩
          · exact Or.inl e
          · exact Or.inr ⟨i, by omega, q⟩
      · rw [if_neg hc]
        rw [Int32.le_iff_toInt_le] at hc
        refine ⟨by omega, fun i hi hHi => ?_, Or.inr ⟨k, by omega, hH, rfl⟩⟩
        by_cases e : i = k
        · subst e; exact Int.le_refl _
        · have := g2 i (by omega) hHi
          omega
    · rw [s2 hH]
      refine ⟨g1, fun i hi hHi => ?_, ?_⟩
      · by_cases e : i = k
        · subst e; exact absurd hHi hH
        · exact g2 i (by omega) hHi
      · rcases g3 with e | ⟨i, hi, q⟩
        · exact Or.inl e
        · exact Or.inr ⟨i, by omega, q⟩
/-- a row's step, on the class's side -/
def stC (x1 x2 : Int32) (f l v : Nat → Int32) (i : Nat) (a : Int32) : Int32 := if x2 < f i then a else if l i < x1 then a else if a ≤ v i then a else v i
theorem spn_least {p k : Nat} {c : x_S} (hk : k ≤ 7) (hc : c p 3 = nI k) (x1 x2 : Int32) : F_Spn_least p x1 x2 c = some (lfold (stC x1 x2 (c (p + 1)) (c (p + 2)) (c (p + 3))) k 600, c) := by
  unfold F_Spn_least
  refine loop_fold0 (fun n a i => F_Spn_least_7 p n x1 x2 a (nI i) c) (stC x1 x2 (c (p + 1)) (c (p + 2)) (c (p + 3))) k x_fuel (fun a => some (a, c)) ?_ ?_ 600 (by unfold x_fuel; omega)
  · intro n i a hi
    show F_Spn_least_7 p (n + 1) x1 x2 a (nI i) c = F_Spn_least_7 p n x1 x2 _ (nI (i + 1)) c
    rw [F_Spn_least_7, hc, if_neg (nI_ge hi (by omega))]
    simp only [x_ix_nI (show i < 7 by omega) (by omega)]
    unfold F_Spn_least_57 stC
    rw [nI_1]
    by_cases h1 : x2 < c (p + 1) i
    · rw [if_pos h1, if_pos h1]
    rw [if_neg h1, if_neg h1]
    by_cases h2 : c (p + 2) i < x1
    · rw [if_pos h2, if_pos h2]
    rw [if_neg h2, if_neg h2]
    by_cases h3 : a ≤ c (p + 3) i
    · rw [if_pos h3, if_pos h3]
    · rw [if_neg h3, if_neg h3]
  · intro n a
    show F_Spn_least_7 p (n + 1) x1 x2 a (nI k) c = _
    rw [F_Spn_least_7, hc, if_pos (nI_le (Nat.le_refl _) (by omega))]
/-- and on the reference's -/
def stM (x1 x2 : Int32) (k : Nat) (p v : Nat → Int32) (i : Nat) (a : Int32) : Int32 := if x2 < p i then a else if i + 1 = k then (if a ≤ v i then a else v i) else if p (i + 1) ≤ x1 then a else (if a ≤ v i then a else v i)
def stR (x1 x2 : Int32) (p l v : Nat → Int32) (i : Nat) (a : Int32) : Int32 := if x2 < p i then a else if p i + l i ≤ x1 then a else (if a ≤ v i then a else v i)
theorem mod_least {k q : Nat} {m : x_S} (hk : k ≤ 7) (hq : q ≤ 6) (h1 : m 46 13 = nI k) (h2 : m 46 24 = nI q) (x1 x2 : Int32) : F_Mod_least x1 x2 m = some (lfold (stR x1 x2 (m 56) (m 57) (m 58)) q (lfold (stM x1 x2 k (m 47) (m 48)) k 600), m) := by
  unfold F_Mod_least
  refine loop_fold0 (fun n a i => F_Mod_least_7 n x1 x2 a (nI i) m) (stM x1 x2 k (m 47) (m 48)) k x_fuel (fun a => some (lfold (stR x1 x2 (m 56) (m 57) (m 58)) q a, m)) ?_ ?_ 600 (by unfold x_fuel; omega)
  · intro n i a hi
    show F_Mod_least_7 (n + 1) x1 x2 a (nI i) m = F_Mod_least_7 n x1 x2 _ (nI (i + 1)) m
    rw [F_Mod_least_7, h1, if_neg (nI_ge hi (by omega))]
    simp only [x_ix_nI (show i < 7 by omega) (by omega), nI_1]
    unfold F_Mod_least_55 F_Mod_least_51 F_Mod_least_56 F_Mod_least_84 F_Mod_least_85 stM
    rw [if_pos (rfl : (0 : Int32) = 0), if_neg (by decide : ¬ (1 : Int32) = 0)]
    simp only [x_ix_nI (show i < 7 by omega) (by omega), nI_1]
    by_cases g1 : x2 < m 47 i
    · rw [if_pos g1, if_pos g1]
    rw [if_neg g1, if_neg g1]
    by_cases g2 : i + 1 = k
    · rw [if_pos g2, if_pos (congrArg nI g2)]
      by_cases g3 : a ≤ m 48 i
      · rw [if_pos g3, if_pos g3]
      · rw [if_neg g3, if_neg g3]
    · rw [if_neg g2, if_neg (fun e => g2 ((nI_eq (by omega) (by omega)).mp e))]
      simp only [x_ix_nI (show i + 1 < 7 by omega) (by omega)]
      by_cases g3 : m 47 (i + 1) ≤ x1
      · rw [if_pos g3, if_pos g3]
      rw [if_neg g3, if_neg g3]
      by_cases g4 : a ≤ m 48 i
      · rw [if_pos g4, if_pos g4]
      · rw [if_neg g4, if_neg g4]
  · intro n a
    show F_Mod_least_7 (n + 1) x1 x2 a (nI k) m = _
    rw [F_Mod_least_7, h1, if_pos (nI_le (Nat.le_refl _) (by omega))]
    refine loop_fold0 (fun n a i => F_Mod_least_95 n x1 x2 a (nI i) m) (stR x1 x2 (m 56) (m 57) (m 58)) q x_fuel (fun a => some (a, m)) ?_ ?_ a (by unfold x_fuel; omega)
    · intro n i a hi
      show F_Mod_least_95 (n + 1) x1 x2 a (nI i) m = F_Mod_least_95 n x1 x2 _ (nI (i + 1)) m
      rw [F_Mod_least_95, h2, if_neg (nI_ge hi (by omega))]
      simp only [x_ix_nI (show i < 6 by omega) (by omega)]
      unfold F_Mod_least_138 F_Mod_least_139 F_Mod_least_167 F_Mod_least_168 stR
      rw [if_pos (rfl : (0 : Int32) = 0), if_neg (by decide : ¬ (1 : Int32) = 0)]
      simp only [x_ix_nI (show i < 6 by omega) (by omega), nI_1]
      by_cases g1 : x2 < m 56 i
      · rw [if_pos g1, if_pos g1]
      rw [if_neg g1, if_neg g1]
      by_cases g2 : m 56 i + m 57 i ≤ x1
      · rw [if_pos g2, if_pos g2]
      rw [if_neg g2, if_neg g2]
      by_cases g3 : a ≤ m 58 i
      · rw [if_pos g3, if_pos g3]
      · rw [if_neg g3, if_neg g3]
    · intro n a
      show F_Mod_least_95 (n + 1) x1 x2 a (nI q) m = _
      rw [F_Mod_least_95, h2, if_pos (nI_le (Nat.le_refl _) (by omega))]
/-- where a span ends -/
theorem last_lt {k i : Nat} {l p2 : Nat → Int32} {x1 : Int32} (hi : i < k) (hb : ∀ i, i < k → 0 ≤ (p2 i).toInt ∧ (p2 i).toInt ≤ 327670) (hl : l i = if i + 1 < k then p2 (i + 1) - 1 else 2147483647) : l i < x1 ↔ (i + 1 ≠ k ∧ p2 (i + 1) ≤ x1) := by
  rw [hl]
  have z1 : ((1 : Int32)).toInt = 1 := by decide
  by_cases h : i + 1 < k
  · rw [if_pos h, Int32.lt_iff_toInt_lt, Int32.le_iff_toInt_le, i_sub (by have := hb _ h; omega) (by have := hb _ h; omega), z1]
    constructor
    · intro q; exact ⟨by omega, by omega⟩
    · intro q; omega
  · rw [if_neg h, Int32.lt_iff_toInt_lt]
    have z : ((2147483647 : Int32)).toInt = 2147483647 := by decide
    have := Int32.toInt_lt x1
    constructor
    · intro q; omega
    · intro q; exact absurd q.1 (by omega)
theorem prof_fold {k : Nat} {f l v p2 v2 : Nat → Int32} {vm : Int} (x1 x2 a : Int32) (h : ∀ i, i < k → f i = p2 i ∧ v i = v2 i ∧ 0 ≤ (p2 i).toInt ∧ (p2 i).toInt ≤ 327670 ∧ 0 ≤ (v2 i).toInt ∧ (v2 i).toInt ≤ vm ∧ l i = if i + 1 < k then p2 (i + 1) - 1 else 2147483647) : lfold (stC x1 x2 f l v) k a = lfold (stM x1 x2 k p2 v2) k a := by
  refine lfold_congr k a fun i hi x => ?_
  obtain ⟨h1, h2, h3, h4, h5, h6, h7⟩ := h i hi
  have hb : ∀ i, i < k → 0 ≤ (p2 i).toInt ∧ (p2 i).toInt ≤ 327670 := fun i hi => ⟨(h i hi).2.2.1, (h i hi).2.2.2.1⟩
  unfold stC stM
  rw [h1, h2]
  by_cases g1 : x2 < p2 i
  · rw [if_pos g1, if_pos g1]
  rw [if_neg g1, if_neg g1]
  have e := last_lt (x1 := x1) hi hb h7
  by_cases g2 : i + 1 = k
  · rw [if_pos g2, if_neg (fun q => (e.mp q).1 g2)]
  · rw [if_neg g2]
    by_cases g3 : p2 (i + 1) ≤ x1
    · rw [if_pos g3, if_pos (e.mpr ⟨g2, g3⟩)]
    · rw [if_neg g3, if_neg (fun q => g3 (e.mp q).2)]
theorem sim_least {c m : x_S} (hD : RD c m) (e20 : c 3 3 = m 46 13) (e23 : c 13 3 = m 46 24) (x1 x2 : Int32) : ∃ r, F_Trk_leastLimit x1 x2 c = some (r, c) ∧ F_Mod_least x1 x2 m = some (r, m) ∧ 0 ≤ r.toInt ∧ r.toInt ≤ 600 := by
  obtain ⟨⟨k, hk, k1, k2⟩, -, -, ⟨q, hq, q1, ⟨a, b, q2, q3⟩, q4, q5⟩, -⟩ := hD
  have z600 : ((600 : Int32)).toInt = 600 := by decide
  have p1 := prof_fold x1 x2 600 k2
  have m1 := mod_least hk hq (e20.symm.trans k1) (e23.symm.trans q1) x1 x2
  have c1 := spn_least hk k1 x1 x2
  have c2 := spn_least (p := 13) (show q ≤ 7 by omega) q1 x1 x2
  -- the profile's part
  have hP : IsMin (lfold (stM x1 x2 k (m 47) (m 48)) k 600) k (fun i => ¬ x2 < m 47 i ∧ (i + 1 = k ∨ ¬ m 47 (i + 1) ≤ x1)) (m 48) 600 := by
    refine lfold_min k 600 fun i hi x => ⟨fun hH => ?_, fun hH => ?_⟩
    · unfold stM
      rw [if_neg hH.1]
      by_cases g : i + 1 = k
      · rw [if_pos g]
      · rw [if_neg g, if_neg (hH.2.resolve_left g)]
    · unfold stM
      by_cases g1 : x2 < m 47 i
      · rw [if_pos g1]
      · rw [if_neg g1]
        by_cases g2 : i + 1 = k
        · exact absurd ⟨g1, Or.inl g2⟩ hH
        · rw [if_neg g2]
          by_cases g3 : m 47 (i + 1) ≤ x1
          · rw [if_pos g3]
          · exact absurd ⟨g1, Or.inr g3⟩ hH
  -- the restrictions, on both sides
  have hM : ∀ a0, IsMin (lfold (stR x1 x2 (m 56) (m 57) (m 58)) q a0) q (fun i => ¬ x2 < m 56 i ∧ ¬ m 56 i + m 57 i ≤ x1) (m 58) a0 := by
    intro a0
    refine lfold_min q a0 fun i hi x => ⟨fun hH => ?_, fun hH => ?_⟩
    · unfold stR
      rw [if_neg hH.1, if_neg hH.2]
    · unfold stR
      by_cases g1 : x2 < m 56 i
      · rw [if_pos g1]
      · rw [if_neg g1]
        by_cases g2 : m 56 i + m 57 i ≤ x1
        · rw [if_pos g2]
        · exact absurd ⟨g1, g2⟩ hH
  have hC : IsMin (lfold (stC x1 x2 (c 14) (c 15) (c 16)) q 600) q (fun i => ¬ x2 < c 14 i ∧ ¬ c 15 i < x1) (c 16) 600 := by
    refine lfold_min q 600 fun i hi x => ⟨fun hH => ?_, fun hH => ?_⟩
    · unfold stC
      rw [if_neg hH.1, if_neg hH.2]
    · unfold stC
      by_cases g1 : x2 < c 14 i
      · rw [if_pos g1]
      · rw [if_neg g1]
        by_cases g2 : c 15 i < x1
        · rw [if_pos g2]
        · exact absurd ⟨g1, g2⟩ hH
  have key : ∀ i, i < q → ((¬ x2 < c 14 (a i) ∧ ¬ c 15 (a i) < x1) ↔ (¬ x2 < m 56 i ∧ ¬ m 56 i + m 57 i ≤ x1)) := by
    intro i hi
    obtain ⟨g1, g2, g3, g4⟩ := q3 i hi
    obtain ⟨b1, b2, b3, b4, b5, b6⟩ := q4 i hi
    have z1 : ((1 : Int32)).toInt = 1 := by decide
    rw [g2, g3, Int32.lt_iff_toInt_lt, Int32.lt_iff_toInt_lt, Int32.le_iff_toInt_le, i_sub (by rw [i_add] <;> omega) (by rw [i_add] <;> omega), z1]
    constructor
    · intro ⟨w1, w2⟩; exact ⟨w1, by omega⟩
    · intro ⟨w1, w2⟩; exact ⟨w1, by omega⟩
  have hC2 : IsMin (lfold (stC x1 x2 (c 14) (c 15) (c 16)) q 600) q (fun i => ¬ x2 < m 56 i ∧ ¬ m 56 i + m 57 i ≤ x1) (m 58) 600 := by
    refine hC.to a b (fun i hi hH => ⟨(q2 i hi).1, (key i hi).mpr hH, (q3 i hi).2.2.2⟩) (fun i hi hH => ?_)
    obtain ⟨w1, w2, w3, w4⟩ := q2 i hi
    have hk2 := key (b i) w2
    have hv := (q3 (b i) w2).2.2.2
    rw [w3] at hk2 hv
    exact ⟨w2, hk2.mp hH, hv.symm⟩
  generalize hr1 : lfold (stM x1 x2 k (m 47) (m 48)) k 600 = r1 at *
  generalize hr2 : lfold (stC x1 x2 (c 14) (c 15) (c 16)) q 600 = r2 at *
  have hres : IsMin (if r2 < r1 then r2 else r1) q (fun i => ¬ x2 < m 56 i ∧ ¬ m 56 i + m 57 i ≤ x1) (m 58) r1 := by
    have l1 : r1.toInt ≤ 600 := by have := hP.1; omega
    by_cases g : r2 < r1
    · rw [if_pos g]
      rw [Int32.lt_iff_toInt_lt] at g
      refine ⟨by omega, hC2.2.1, ?_⟩
      rcases hC2.2.2 with e | w
      · rw [e] at g; omega
      · exact Or.inr w
    · rw [if_neg g]
      rw [Int32.lt_iff_toInt_lt] at g
      exact ⟨Int.le_refl _, fun i hi hH => by have := hC2.2.1 i hi hH; omega, Or.inl rfl⟩
  have heq := (hM r1).uniq hres
  refine ⟨if r2 < r1 then r2 else r1, ?_, ?_, ?_, ?_⟩
  · unfold F_Trk_leastLimit F_Trk_leastLimit_9 F_Trk_leastLimit_21
    rw [x_bind_eq c1, x_bind_eq c2, p1]
  · rw [m1, heq]
  · rcases hres.2.2 with e | ⟨i, hi, -, e⟩
    · rw [e]
      rcases hP.2.2 with e | ⟨i, hi, -, e⟩
      · rw [e]; decide
      · rw [e]; exact (k2 i hi).2.2.2.2.1
    · rw [e]; exact (q4 i hi).2.2.2.2.1
  · have := hres.1
    have := hP.1
    omega
theorem sim_limit {n : Nat} {c m : x_S} (h : R n c m) (x : Int32) : x_eqv R n (F_G_limit x c) (F_Mod_limit x m) := by
  obtain ⟨e1, e2, e3, e4, e5, e6, e7, e8, e9, e10, e11, e12, e13, e14, e15, e16, e17, e18, e19, e20, e21, e22, e23⟩ := h.1
  obtain ⟨r, g1, g2, -⟩ := sim_least h.2.2.2.1 e20 e23 x x
  unfold F_G_limit F_Mod_limit F_G_limit_19 F_Mod_limit_16
  by_cases hx : 0 ≤ x
  · rw [if_pos hx, if_pos hx, x_bind_eq g1, x_bind_eq g2]; exact h.ask rfl rfl
  · rw [if_neg hx, if_neg hx]; exact h.ask rfl rfl
