/-! over a curve: the targets -/
theorem x_nat {x : Int32} (h : 0 ≤ x.toInt) : x = nI x.toInt.toNat ∧ x.toInt.toNat < 2 ^ 31 := by
  have z0 : ((0 : Int32)).toInt = 0 := by decide
  obtain ⟨j, hj, rfl⟩ := nI_of (x := x) (by rw [Int32.lt_iff_toInt_lt]; omega)
  rw [nI_toInt hj]
  exact ⟨rfl, hj⟩
def PP (m : x_S) (kG v d k j : Nat) (pl u : Int32) : Prop := Past (m 46 4).toInt v d k j pl.toInt u.toInt.toNat (fallF m kG pl).toInt.toNat
def OV (m : x_S) (kP kR : Nat) (P : Int32 → Int32 → Prop) (last : Int32) : Prop := P last 0 ∨ (∃ i, i < kP ∧ m 46 4 < m 47 i ∧ P (m 47 i) (m 48 i)) ∨ (∃ i, i < kR ∧ m 46 4 < m 56 i ∧ P (m 56 i) (m 58 i))
/-- what the curves need of the reference's state -/
def OK (m : x_S) (kP kG kR : Nat) : Prop := kP ≤ 7 ∧ kG ≤ 7 ∧ kR ≤ 6 ∧ m 46 13 = nI kP ∧ m 46 16 = nI kG ∧ m 46 24 = nI kR ∧ (∀ i, i < kG → 0 ≤ (m 50 i).toInt ∧ (m 50 i).toInt ≤ 63) ∧ (∀ i, i < kP → 0 ≤ (m 48 i).toInt ∧ (m 48 i).toInt ≤ 600) ∧ (∀ i, i < kR → 0 ≤ (m 58 i).toInt ∧ (m 58 i).toInt ≤ 600) ∧ x_bd (m 46 4) (-1000000) 1000000
theorem mod_past' {m : x_S} {kP kG kR v d k j : Nat} {pl u : Int32} (ho : OK m kP kG kR) (hv : v ≤ 600) (hd1 : 2 ≤ d) (hd : d ≤ 40) (hk : k = 2 ∨ k = 3) (hj : j ≤ 4) (hu : 0 ≤ u.toInt ∧ u.toInt ≤ 600) : F_Mod_past (nI v) (nI d) (nI k) (nI j) pl u m = some (bl (PP m kG v d k j pl u), m) := by
  obtain ⟨o1, o2, o3, o4, o5, o6, o7, o8, o9, o10⟩ := ho
  have hf := fallF_bd o7 pl
  obtain ⟨f1, f2⟩ := x_nat hf.1
  obtain ⟨u1, u2⟩ := x_nat hu.1
  have hm := mod_fall o2 o5 pl
  rw [f1] at hm
  have h := mod_past (m := m) (vn := v) (d := d) (k := k) (j := j) (un := u.toInt.toNat) (fl := (fallF m kG pl).toInt.toNat) (pl := pl) hv hd1 hd hk hj (by omega) hm (by omega) o10
  rw [← u1] at h
  exact h
theorem lfold_or {st : Nat → Int32 → Int32} {Q : Nat → Prop} {A : Prop} : ∀ k, (∀ i, i < k → ∀ a, st i a = if a = 0 then bl (Q i) else 1) → lfold st k (bl A) = bl (A ∨ ∃ i, i < k ∧ Q i) := by
  intro k
  induction k with
  | zero => intro _; exact bl_congr ⟨Or.inl, fun h => h.elim id (fun ⟨i, hi, _⟩ => absurd hi (by omega))⟩
  | succ k ih =>
    intro h
    rw [lfold, ih (fun i hi => h i (by omega)), h k (by omega)]
    by_cases q : A ∨ ∃ i, i < k ∧ Q i
    · rw [bl_pos q, if_neg (by decide), bl_pos]
      exact q.elim Or.inl (fun ⟨i, hi, hq⟩ => Or.inr ⟨i, by omega, hq⟩)
    · rw [bl_neg q, if_pos rfl]
      refine bl_congr ⟨fun hq => Or.inr ⟨k, by omega, hq⟩, fun hq => ?_⟩
      rcases hq with hq | ⟨i, hi, hq⟩
      · exact absurd (Or.inl hq) q
      · by_cases e : i = k
        · subst e; exact hq
        · exact absurd (Or.inr ⟨i, by omega, hq⟩) q
theorem mod_over {m : x_S} {kP kG kR v d k j : Nat} {last : Int32} (ho : OK m kP kG kR) (hv : v ≤ 600) (hd1 : 2 ≤ d) (hd : d ≤ 40) (hk : k = 2 ∨ k = 3) (hj : j ≤ 4) : F_Mod_over (nI v) (nI d) (nI k) (nI j) last m = some (bl (GD (m 46 6) ∧ OV m kP kR (PP m kG v d k j) last), m) := by
  have ho' := ho
  obtain ⟨o1, o2, o3, o4, o5, o6, o7, o8, o9, o10⟩ := ho'
  unfold F_Mod_over
  rw [x_bind_eq (mod_guided m)]
  unfold F_Mod_over_4
  by_cases hg : GD (m 46 6)
  · rw [bl_pos hg, if_neg (by decide), x_bind_eq (mod_past' ho hv hd1 hd hk hj (u := 0) ⟨by decide, by decide⟩)]
    unfold F_Mod_over_21
    let st1 : Nat → Int32 → Int32 := fun i a => if a = 0 then bl (m 46 4 < m 47 i ∧ PP m kG v d k j (m 47 i) (m 48 i)) else 1
    let st2 : Nat → Int32 → Int32 := fun i a => if a = 0 then bl (m 46 4 < m 56 i ∧ PP m kG v d k j (m 56 i) (m 58 i)) else 1
    have h1 := loop_fold0 (fun n a i => F_Mod_over_26 n (nI v) (nI d) (nI k) (nI j) a (nI i) m) st1 kP x_fuel (fun a => F_Mod_over_96 x_fuel (nI v) (nI d) (nI k) (nI j) a 0 m) (by
      intro n i a hi
      show F_Mod_over_26 (n + 1) (nI v) (nI d) (nI k) (nI j) a (nI i) m = F_Mod_over_26 n (nI v) (nI d) (nI k) (nI j) (if a = 0 then _ else 1) (nI (i + 1)) m
      rw [F_Mod_over_26, o4, if_neg (nI_ge hi (by omega))]
      simp only [x_ix_nI (show i < 7 by omega) (by omega)]
      unfold F_Mod_over_84 F_Mod_over_80 F_Mod_over_85
      rw [nI_1]
      by_cases g1 : a = 0
      · rw [if_pos g1, if_pos g1]
        by_cases g2 : m 47 i ≤ m 46 4
        · rw [if_pos g2, bl_neg (fun q => by rw [Int32.lt_iff_toInt_lt] at q; rw [Int32.le_iff_toInt_le] at g2; omega)]
        · have g3 : m 46 4 < m 47 i := by rw [Int32.lt_iff_toInt_lt]; rw [Int32.le_iff_toInt_le] at g2; omega
          rw [if_neg g2, x_bind_eq (mod_past' ho hv hd1 hd hk hj (o8 i hi))]
          unfold F_Mod_over_77 F_Mod_over_84 F_Mod_over_80 F_Mod_over_85
          rw [nI_1]
          by_cases g4 : PP m kG v d k j (m 47 i) (m 48 i)
          · rw [bl_pos g4, if_neg (by decide), bl_pos ⟨g3, g4⟩]
          · rw [bl_neg g4, if_pos rfl, bl_neg (fun q => g4 q.2)]
      · rw [if_neg g1, if_neg g1]) (by
      intro n a
      show F_Mod_over_26 (n + 1) (nI v) (nI d) (nI k) (nI j) a (nI kP) m = _
      rw [F_Mod_over_26, o4, if_pos (nI_le (Nat.le_refl _) (by omega))]) (bl (PP m kG v d k j last 0)) (by unfold x_fuel; omega)
    have h2 : ∀ a, F_Mod_over_96 x_fuel (nI v) (nI d) (nI k) (nI j) a 0 m = (fun a => x_b01 a (some (a, m))) (lfold st2 kR a) := fun a => loop_fold0 (fun n a i => F_Mod_over_96 n (nI v) (nI d) (nI k) (nI j) a (nI i) m) st2 kR x_fuel (fun a => x_b01 a (some (a, m))) (by
      intro n i a hi
      show F_Mod_over_96 (n + 1) (nI v) (nI d) (nI k) (nI j) a (nI i) m = F_Mod_over_96 n (nI v) (nI d) (nI k) (nI j) (if a = 0 then _ else 1) (nI (i + 1)) m
      rw [F_Mod_over_96, o6, if_neg (nI_ge hi (by omega))]
      simp only [x_ix_nI (show i < 6 by omega) (by omega)]
      unfold F_Mod_over_154 F_Mod_over_150 F_Mod_over_155
      rw [nI_1]
      by_cases g1 : a = 0
      · rw [if_pos g1, if_pos g1]
        by_cases g2 : m 56 i ≤ m 46 4
        · rw [if_pos g2, bl_neg (fun q => by rw [Int32.lt_iff_toInt_lt] at q; rw [Int32.le_iff_toInt_le] at g2; omega)]
        · have g3 : m 46 4 < m 56 i := by rw [Int32.lt_iff_toInt_lt]; rw [Int32.le_iff_toInt_le] at g2; omega
          rw [if_neg g2, x_bind_eq (mod_past' ho hv hd1 hd hk hj (o9 i hi))]
          unfold F_Mod_over_147 F_Mod_over_154 F_Mod_over_150 F_Mod_over_155
          rw [nI_1]
          by_cases g4 : PP m kG v d k j (m 56 i) (m 58 i)
          · rw [bl_pos g4, if_neg (by decide), bl_pos ⟨g3, g4⟩]
          · rw [bl_neg g4, if_pos rfl, bl_neg (fun q => g4 q.2)]
      · rw [if_neg g1, if_neg g1]) (by
      intro n a
      show F_Mod_over_96 (n + 1) (nI v) (nI d) (nI k) (nI j) a (nI kR) m = _
      rw [F_Mod_over_96, o6, if_pos (nI_le (Nat.le_refl _) (by omega))]) a (by unfold x_fuel; omega)
    rw [show F_Mod_over_26 x_fuel (nI v) (nI d) (nI k) (nI j) (bl (PP m kG v d k j last 0)) 0 m = _ from h1, h2, lfold_or kP (fun i _ a => rfl), lfold_or kR (fun i _ a => rfl)]
    show x_b01 _ _ = _
    unfold x_b01
    rw [if_pos (bl_01 _)]
    congr 2
    refine bl_congr ⟨fun q => ⟨hg, ?_⟩, fun q => ?_⟩
    · rcases q with (q | ⟨i, q⟩) | ⟨i, q⟩
      · exact Or.inl q
      · exact Or.inr (Or.inl ⟨i, q⟩)
      · exact Or.inr (Or.inr ⟨i, q⟩)
    · rcases q.2 with q | ⟨i, q⟩ | ⟨i, q⟩
      · exact Or.inl (Or.inl q)
      · exact Or.inl (Or.inr ⟨i, q⟩)
      · exact Or.inr ⟨i, q⟩
  · rw [bl_neg hg, if_pos rfl, bl_neg (fun q => hg q.1)]
/-! the class's row of targets -/
def TL (m : x_S) (kG : Nat) (c : x_S) (T : List (Int32 × Int32)) : Prop := c 42 5 = nI T.length ∧ ∀ (i : Nat) (q : Int32 × Int32), T[i]? = some q → c 43 i = q.1 ∧ c 44 i = q.2 ∧ c 45 i = fallF m kG q.1
def fr42 (c c' : x_S) : Prop := (∀ p, p ≠ 42 → p ≠ 43 → p ≠ 44 → p ≠ 45 → c' p = c p) ∧ ∀ j, j ≠ 5 → j ≠ 6 → j ≠ 7 → c' 42 j = c 42 j
theorem fr42.rfl {c : x_S} : fr42 c c := ⟨fun _ _ _ _ _ => Eq.refl _, fun _ _ _ _ => Eq.refl _⟩
theorem fr42.trans {c c1 c2 : x_S} (h : fr42 c c1) (h' : fr42 c1 c2) : fr42 c c2 := ⟨fun p a1 a2 a3 a4 => (h'.1 p a1 a2 a3 a4).trans (h.1 p a1 a2 a3 a4), fun j a1 a2 a3 => (h'.2 j a1 a2 a3).trans (h.2 j a1 a2 a3)⟩
/-- what the class's falls are out of -/
def GR (c m : x_S) (kG : Nat) : Prop := kG ≤ 7 ∧ c 7 3 = nI kG ∧ c 1 0 = m 46 3 ∧ c 0 0 = m 46 2 ∧ ∀ i, i < kG → c 8 i = m 49 i ∧ c 10 i = m 50 i ∧ 0 ≤ (m 49 i).toInt ∧ (m 49 i).toInt ≤ 327670 ∧ 0 ≤ (m 50 i).toInt ∧ (m 50 i).toInt ≤ 63 ∧ c 9 i = if i + 1 < kG then m 49 (i + 1) - 1 else 2147483647
theorem GR.fr {c c' m : x_S} {kG : Nat} (h : GR c m kG) (f : fr42 c c') : GR c' m kG := by
  unfold GR at *
  simp only [f.1 7 (by decide) (by decide) (by decide) (by decide), f.1 1 (by decide) (by decide) (by decide) (by decide), f.1 0 (by decide) (by decide) (by decide) (by decide), f.1 8 (by decide) (by decide) (by decide) (by decide), f.1 9 (by decide) (by decide) (by decide) (by decide), f.1 10 (by decide) (by decide) (by decide) (by decide)]
  exact h
theorem cls_addTarget {c m : x_S} {kG : Nat} {T : List (Int32 × Int32)} (hg : GR c m kG) (ht : TL m kG c T) (hl : T.length < 15) (pl sp : Int32) : ∃ c', F_G_addTarget pl sp c = some (0, c') ∧ TL m kG c' (T ++ [(pl, sp)]) ∧ fr42 c c' ∧ c' 42 6 = c 42 6 ∧ c' 42 7 = c 42 7 := by
  obtain ⟨g1, g2, g3, g4, g5⟩ := hg
  obtain ⟨t1, t2⟩ := ht
  refine ⟨x_up (x_up (x_up (x_up c 43 T.length pl) 44 T.length sp) 45 T.length (fallF m kG pl)) 42 5 (nI (T.length + 1)), ?_, ⟨?_, fun i q hq => ?_⟩, ⟨fun p a1 a2 a3 a4 => ?_, fun j a1 a2 a3 => ?_⟩, ?_, ?_⟩
  · unfold F_G_addTarget
    rw [g3, g4, x_bind_eq (cls_fall g1 g2 g5 pl)]
    unfold F_G_addTarget_29
    have e : F_Cur_add pl sp (fallF m kG pl) c = some (0, x_up (x_up (x_up (x_up c 43 T.length pl) 44 T.length sp) 45 T.length (fallF m kG pl)) 42 5 (nI (T.length + 1))) := by
      unfold F_Cur_add F_Cur_add_19 F_Cur_add_29 F_Cur_add_39 F_Cur_add_49
      rw [t1, if_neg (show ¬ (15 : Int32) ≤ nI T.length from nI_ge (b := 15) hl (by omega))]
      simp only [x_up_ne (show (42 : Nat) ≠ 43 by decide), x_up_ne (show (42 : Nat) ≠ 44 by decide), x_up_ne (show (42 : Nat) ≠ 45 by decide), t1, x_ix_nI hl (show 15 < 2 ^ 31 by omega), nI_1]
    rw [x_bind_eq e]
    rfl
  · rw [x_up_at, if_pos rfl, List.length_append]
    rfl
  · simp only [x_up_ne (show (43 : Nat) ≠ 42 by decide), x_up_ne (show (43 : Nat) ≠ 44 by decide), x_up_ne (show (43 : Nat) ≠ 45 by decide), x_up_ne (show (44 : Nat) ≠ 42 by decide), x_up_ne (show (44 : Nat) ≠ 43 by decide), x_up_ne (show (44 : Nat) ≠ 45 by decide), x_up_ne (show (45 : Nat) ≠ 42 by decide), x_up_ne (show (45 : Nat) ≠ 43 by decide), x_up_ne (show (45 : Nat) ≠ 44 by decide), x_up_at]
    by_cases hi : i < T.length
    · rw [List.getElem?_append_left hi] at hq
      have hne : ¬ i = T.length := by omega
      simp only [if_neg hne]
      exact t2 i q hq
    · rw [List.getElem?_append_right (by omega)] at hq
      have hz : i - T.length < 1 := (List.getElem?_eq_some_iff.mp hq).1
      have he : i = T.length := by omega
      subst he
      rw [Nat.sub_self] at hq
      cases hq
      exact ⟨if_pos rfl, if_pos rfl, if_pos rfl⟩
  · rw [x_up_ne a1, x_up_ne a4, x_up_ne a3, x_up_ne a2]
  · rw [x_up_at, if_neg a1, x_up_ne (by decide), x_up_ne (by decide), x_up_ne (by decide)]
  · rw [x_up_at, if_neg (by decide), x_up_ne (by decide), x_up_ne (by decide), x_up_ne (by decide)]
  · rw [x_up_at, if_neg (by decide), x_up_ne (by decide), x_up_ne (by decide), x_up_ne (by decide)]
def ahd (hi : Int32) (f v : Nat → Int32) : Nat → Nat → List (Int32 × Int32)
  | _, 0 => []
  | i, j + 1 => (if f i ≤ hi then [] else [(f i, v i)]) ++ ahd hi f v (i + 1) j
theorem ahd_len {hi : Int32} {f v : Nat → Int32} : ∀ j i, (ahd hi f v i j).length ≤ j := by
  intro j
  induction j with
  | zero => intro i; exact Nat.le_refl _
  | succ j ih =>
    intro i
    have := ih (i + 1)
    rw [ahd]
    split
    · simp; omega
    · simp; omega
theorem ahd_mem {hi : Int32} {f v : Nat → Int32} {q : Int32 × Int32} : ∀ j i, q ∈ ahd hi f v i j ↔ ∃ t, i ≤ t ∧ t < i + j ∧ hi < f t ∧ q = (f t, v t) := by
  intro j
  induction j with
  | zero => intro i; exact ⟨fun h => absurd h List.not_mem_nil, fun ⟨t, h1, h2, _⟩ => absurd h2 (by omega)⟩
  | succ j ih =>
    intro i
    rw [ahd, List.mem_append, ih (i + 1)]
    constructor
    · rintro (h | ⟨t, h1, h2, h3, h4⟩)
      · by_cases g : f i ≤ hi
        · rw [if_pos g] at h; exact absurd h List.not_mem_nil
        · rw [if_neg g] at h
          refine ⟨i, Nat.le_refl _, by omega, ?_, List.mem_singleton.mp h⟩
          rw [Int32.lt_iff_toInt_lt]; rw [Int32.le_iff_toInt_le] at g; omega
      · exact ⟨t, by omega, by omega, h3, h4⟩
    · rintro ⟨t, h1, h2, h3, h4⟩
      by_cases e : t = i
      · subst e
        left
        rw [if_neg (fun g => by rw [Int32.lt_iff_toInt_lt] at h3; rw [Int32.le_iff_toInt_le] at g; omega)]
        exact List.mem_singleton.mpr h4
      · exact Or.inr ⟨t, by omega, by omega, h3, h4⟩
theorem cls_addTargetsOf {m : x_S} {kG p : Nat} (hp : p = 3 ∨ p = 13) {hh : Int32} {f v : Nat → Int32} {k : Nat} (hk : k ≤ 7) : ∀ (j i n : Nat) (c : x_S) (T : List (Int32 × Int32)), i + j = k → j < n → GR c m kG → TL m kG c T → T.length + j < 15 → c p 3 = nI k → c 1 1 = hh → c (p + 1) = f → c (p + 3) = v →
    ∃ c', F_G_addTargetsOf_2 p n (nI i) c = some (0, c') ∧ TL m kG c' (T ++ ahd hh f v i j) ∧ fr42 c c' ∧ c' 42 6 = c 42 6 ∧ c' 42 7 = c 42 7 := by
  intro j
  induction j with
  | zero =>
    intro i n c T hi hn hg ht hl h1 h2 h3 h4
    obtain ⟨n, rfl⟩ : ∃ q, n = q + 1 := ⟨n - 1, by omega⟩
    refine ⟨c, ?_, by rw [ahd, List.append_nil]; exact ht, fr42.rfl, rfl, rfl⟩
    rw [F_G_addTargetsOf_2, h1, if_pos (nI_le (by omega) (by omega))]
  | succ j ih =>
    intro i n c T hi hn hg ht hl h1 h2 h3 h4
    obtain ⟨n, rfl⟩ : ∃ q, n = q + 1 := ⟨n - 1, by omega⟩
    rw [F_G_addTargetsOf_2, h1, if_neg (nI_ge (by omega) (by omega))]
    simp only [x_ix_nI (show i < 7 by omega) (by omega)]
    unfold F_G_addTargetsOf_42
    rw [nI_1, h2, h3, h4, ahd]
    by_cases g : f i ≤ hh
    · rw [if_pos g, if_pos g, List.nil_append]
      exact ih (i + 1) n c T (by omega) (by omega) hg ht (by omega) h1 h2 h3 h4
    · rw [if_neg g, if_neg g]
      obtain ⟨c1, e1, t1, f1, s1, s2⟩ := cls_addTarget hg ht (by omega) (f i) (v i)
      rw [x_bind_eq e1]
      have fp : ∀ q, q ≠ 42 → q ≠ 43 → q ≠ 44 → q ≠ 45 → c1 q = c q := f1.1
      obtain ⟨c2, e2, t2, f2, s3, s4⟩ := ih (i + 1) n c1 (T ++ [(f i, v i)]) (by omega) (by omega) (hg.fr f1) t1 (by simp; omega) (by rw [fp p (by omega) (by omega) (by omega) (by omega)]; exact h1) (by rw [fp 1 (by decide) (by decide) (by decide) (by decide)]; exact h2) (by rw [fp (p + 1) (by omega) (by omega) (by omega) (by omega)]; exact h3) (by rw [fp (p + 3) (by omega) (by omega) (by omega) (by omega)]; exact h4)
      refine ⟨c2, e2, ?_, f1.trans f2, s3.trans s1, s4.trans s2⟩
      rw [← List.append_assoc]
      exact t2
