/-! guided, ceiling, fall, past a curve -/
noncomputable def bl (P : Prop) : Int32 := @ite _ P (Classical.propDecidable P) 1 0
theorem bl_pos {P : Prop} (h : P) : bl P = 1 := if_pos h
theorem bl_neg {P : Prop} (h : ¬ P) : bl P = 0 := if_neg h
theorem bl_0 {P : Prop} : bl P = 0 ↔ ¬ P := by
  by_cases h : P
  · rw [bl_pos h]; exact ⟨fun e => absurd e (by decide), fun e => absurd h e⟩
  · rw [bl_neg h]; exact ⟨fun _ => h, fun _ => rfl⟩
theorem bl_01 (P : Prop) : bl P = 0 ∨ bl P = 1 := by
  by_cases h : P
  · exact Or.inr (bl_pos h)
  · exact Or.inl (bl_neg h)
theorem bl_congr {P Q : Prop} (h : P ↔ Q) : bl P = bl Q := by rw [propext h]
def GD (x : Int32) : Prop := x = 2 ∨ x = 3
theorem cls_guided (c : x_S) : F_G_isGuided c = some (bl (GD (c 0 8)), c) := by
  unfold F_G_isGuided F_G_isGuided_16 F_G_isGuided_21
  rw [x_b01_1, x_b01_0]
  by_cases h1 : c 0 8 = 2
  · rw [if_pos h1, bl_pos (P := GD _) (Or.inl h1)]
  rw [if_neg h1]
  by_cases h2 : c 0 8 = 3
  · rw [if_pos h2, bl_pos (P := GD _) (Or.inr h2)]
  · rw [if_neg h2, bl_neg (fun q => q.elim h1 h2)]
theorem mod_guided (m : x_S) : F_Mod_watched m = some (bl (GD (m 46 6)), m) := by
  unfold F_Mod_watched F_Mod_watched_16 F_Mod_watched_21
  rw [x_b01_1, x_b01_0]
  by_cases h1 : m 46 6 = 2
  · rw [if_pos h1, bl_pos (P := GD _) (Or.inl h1)]
  rw [if_neg h1]
  by_cases h2 : m 46 6 = 3
  · rw [if_pos h2, bl_pos (P := GD _) (Or.inr h2)]
  · rw [if_neg h2, bl_neg (fun q => q.elim h1 h2)]
def SP (x : Int32) : Prop := x = 4 ∨ x = 6
theorem cls_stopped (c : x_S) : F_G_isStopped c = some (bl (SP (c 0 8)), c) := by
  unfold F_G_isStopped F_G_isStopped_17 F_G_isStopped_22
  rw [x_b01_1, x_b01_0]
  by_cases h1 : c 0 8 = 4
  · rw [if_pos h1, bl_pos (P := SP _) (Or.inl h1)]
  rw [if_neg h1]
  by_cases h2 : c 0 8 = 6
  · rw [if_pos h2, bl_pos (P := SP _) (Or.inr h2)]
  · rw [if_neg h2, bl_neg (fun q => q.elim h1 h2)]
/-- the equations that the grade rests on -/
def RG (c m : x_S) : Prop := c 0 0 = m 46 2 ∧ c 42 0 = m 46 0 ∧ c 42 1 = m 46 1 ∧ c 1 0 = m 46 3 ∧ c 1 1 = m 46 4 ∧ c 1 2 = m 46 5 ∧ c 0 8 = m 46 6 ∧ c 2 6 = m 46 10 ∧ c 3 3 = m 46 13 ∧ c 7 3 = m 46 16 ∧ c 13 3 = m 46 24
theorem RE.g {c m : x_S} (h : RE c m) : RG c m := by
  obtain ⟨e1, e2, e3, e4, e5, e6, e7, e8, e9, e10, e11, e12, e13, e14, e15, e16, e17, e18, e19, e20, e21, e22, e23⟩ := h
  exact ⟨e1, e2, e3, e4, e5, e6, e7, e11, e20, e21, e23⟩
theorem sim_ceiling {c m : x_S} (hE : RG c m) (hD : RD c m) : ∃ r, F_G_ceilingNow c = some (r, c) ∧ F_Mod_ceiling m = some (r, m) ∧ 0 ≤ r.toInt ∧ r.toInt ≤ 600 := by
  obtain ⟨e1, e2, e3, e4, e5, e6, e7, e11, e20, e21, e23⟩ := hE
  obtain ⟨r, g1, g2, g3, g4⟩ := sim_least hD e20 e23 (m 46 3 - m 46 2) (m 46 4)
  unfold F_G_ceilingNow F_Mod_ceiling
  rw [x_bind_eq (cls_guided c), x_bind_eq (mod_guided m)]
  unfold F_G_ceilingNow_4 F_Mod_ceiling_4 F_G_ceilingNow_67 F_Mod_ceiling_21
  rw [e7]
  by_cases hg : GD (m 46 6)
  · rw [bl_pos hg, if_neg (by decide), if_neg (by decide), e4, e1, e5, x_bind_eq g1, x_bind_eq g2]
    unfold F_G_ceilingNow_33 F_G_ceilingNow_52 F_Mod_ceiling_39 F_Mod_ceiling_59 F_Mod_ceiling_60
    rw [e7]
    by_cases h3 : m 46 6 = 3
    · rw [if_pos h3, if_pos h3]
      have z60 : ((60 : Int32)).toInt = 60 := by decide
      by_cases h4 : r ≤ 60
      · have h5 : ¬ (60 : Int32) < r := by rw [Int32.lt_iff_toInt_lt]; rw [Int32.le_iff_toInt_le] at h4; omega
        rw [if_pos h4, if_neg h5]
        exact ⟨r, rfl, rfl, g3, g4⟩
      · have h5 : (60 : Int32) < r := by rw [Int32.lt_iff_toInt_lt]; rw [Int32.le_iff_toInt_le] at h4; omega
        rw [if_neg h4, if_pos h5]
        exact ⟨60, rfl, rfl, by decide, by decide⟩
    · rw [if_neg h3, if_neg h3]
      exact ⟨r, rfl, rfl, g3, g4⟩
  · rw [bl_neg hg, if_pos rfl, if_pos rfl]
    by_cases h1 : m 46 6 = 1
    · rw [if_pos h1, if_pos h1]; exact ⟨80, rfl, rfl, by decide, by decide⟩
    · rw [if_neg h1, if_neg h1]; exact ⟨0, rfl, rfl, by decide, by decide⟩
/-! the fall on the way to a place -/
def sgC (x1 x2 : Int32) (f l v : Nat → Int32) (i : Nat) (a : Int32) : Int32 := if x2 < f i then a else if l i < x1 then a else if v i ≤ a then a else v i
def sgM (x1 x2 : Int32) (k : Nat) (p v : Nat → Int32) (i : Nat) (a : Int32) : Int32 := if x2 < p i then a else if i + 1 = k then (if v i ≤ a then a else v i) else if p (i + 1) ≤ x1 then a else (if v i ≤ a then a else v i)
/-- the fall that holds at a place, out of the reference's row -/
def fallF (m : x_S) (k : Nat) (pl : Int32) : Int32 := if m 46 3 - m 46 2 ≤ pl then lfold (sgM (m 46 3 - m 46 2) pl k (m 49) (m 50)) k 0 else 0
theorem mod_fall {k : Nat} {m : x_S} (hk : k ≤ 7) (h1 : m 46 16 = nI k) (pl : Int32) : F_Mod_fall pl m = some (fallF m k pl, m) := by
  unfold F_Mod_fall fallF
  rw [show (some (if m 46 3 - m 46 2 ≤ pl then lfold (sgM (m 46 3 - m 46 2) pl k (m 49) (m 50)) k 0 else 0, m) : Option (Int32 × x_S)) = (fun a => if m 46 3 - m 46 2 ≤ pl then some (a, m) else some (0, m)) (lfold (sgM (m 46 3 - m 46 2) pl k (m 49) (m 50)) k 0) from by
    by_cases q : m 46 3 - m 46 2 ≤ pl
    · simp only [if_pos q]
    · simp only [if_neg q]]
  refine loop_fold0 (fun n a i => F_Mod_fall_4 n pl a (nI i) m) (sgM (m 46 3 - m 46 2) pl k (m 49) (m 50)) k x_fuel (fun a => if m 46 3 - m 46 2 ≤ pl then some (a, m) else some (0, m)) ?_ ?_ 0 (by unfold x_fuel; omega)
  · intro n i a hi
    show F_Mod_fall_4 (n + 1) pl a (nI i) m = F_Mod_fall_4 n pl _ (nI (i + 1)) m
    rw [F_Mod_fall_4, h1, if_neg (nI_ge hi (by omega))]
    simp only [x_ix_nI (show i < 7 by omega) (by omega), nI_1]
    unfold F_Mod_fall_56 F_Mod_fall_52 F_Mod_fall_57 F_Mod_fall_83 F_Mod_fall_84 sgM
    rw [if_pos (rfl : (0 : Int32) = 0), if_neg (by decide : ¬ (1 : Int32) = 0)]
    simp only [x_ix_nI (show i < 7 by omega) (by omega), nI_1]
    by_cases g1 : pl < m 49 i
    · rw [if_pos g1, if_pos g1]
    rw [if_neg g1, if_neg g1]
    by_cases g2 : i + 1 = k
    · rw [if_pos g2, if_pos (congrArg nI g2)]
      by_cases g3 : m 50 i ≤ a
      · rw [if_pos g3, if_pos g3]
      · rw [if_neg g3, if_neg g3]
    · rw [if_neg g2, if_neg (fun e => g2 ((nI_eq (by omega) (by omega)).mp e))]
      simp only [x_ix_nI (show i + 1 < 7 by omega) (by omega)]
      by_cases g3 : m 49 (i + 1) ≤ m 46 3 - m 46 2
      · rw [if_pos g3, if_pos g3]
      rw [if_neg g3, if_neg g3]
      by_cases g4 : m 50 i ≤ a
      · rw [if_pos g4, if_pos g4]
      · rw [if_neg g4, if_neg g4]
  · intro n a
    show F_Mod_fall_4 (n + 1) pl a (nI k) m = _
    rw [F_Mod_fall_4, h1, if_pos (nI_le (Nat.le_refl _) (by omega))]
    rfl
theorem cls_fall {k : Nat} {c m : x_S} (hk : k ≤ 7) (hc : c 7 3 = nI k) (h : ∀ i, i < k → c 8 i = m 49 i ∧ c 10 i = m 50 i ∧ 0 ≤ (m 49 i).toInt ∧ (m 49 i).toInt ≤ 327670 ∧ 0 ≤ (m 50 i).toInt ∧ (m 50 i).toInt ≤ 63 ∧ c 9 i = if i + 1 < k then m 49 (i + 1) - 1 else 2147483647) (pl : Int32) : F_Spn_greatest 7 (m 46 3 - m 46 2) pl c = some (fallF m k pl, c) := by
  unfold F_Spn_greatest fallF
  by_cases q : m 46 3 - m 46 2 ≤ pl
  · rw [if_pos q, if_pos q]
    have e : lfold (sgM (m 46 3 - m 46 2) pl k (m 49) (m 50)) k 0 = lfold (sgC (m 46 3 - m 46 2) pl (c 8) (c 9) (c 10)) k 0 := by
      refine lfold_congr k 0 fun i hi x => ?_
      obtain ⟨h1, h2, h3, h4, h5, h6, h7⟩ := h i hi
      have hb : ∀ i, i < k → 0 ≤ (m 49 i).toInt ∧ (m 49 i).toInt ≤ 327670 := fun i hi => ⟨(h i hi).2.2.1, (h i hi).2.2.2.1⟩
      unfold sgC sgM
      rw [h1, h2]
      by_cases g1 : pl < m 49 i
      · rw [if_pos g1, if_pos g1]
      rw [if_neg g1, if_neg g1]
      have e := last_lt (x1 := m 46 3 - m 46 2) hi hb h7
      by_cases g2 : i + 1 = k
      · rw [if_pos g2, if_neg (fun q => (e.mp q).1 g2)]
      · rw [if_neg g2]
        by_cases g3 : m 49 (i + 1) ≤ m 46 3 - m 46 2
        · rw [if_pos g3, if_pos (e.mpr ⟨g2, g3⟩)]
        · rw [if_neg g3, if_neg (fun q => g3 (e.mp q).2)]
    rw [e]
    refine loop_fold0 (fun n a i => F_Spn_greatest_12 7 n (m 46 3 - m 46 2) pl a (nI i) c) (sgC (m 46 3 - m 46 2) pl (c 8) (c 9) (c 10)) k x_fuel (fun a => some (a, c)) ?_ ?_ 0 (by unfold x_fuel; omega)
    · intro n i a hi
      show F_Spn_greatest_12 7 (n + 1) _ pl a (nI i) c = F_Spn_greatest_12 7 n _ pl _ (nI (i + 1)) c
      rw [F_Spn_greatest_12, hc, if_neg (nI_ge hi (by omega))]
      simp only [x_ix_nI (show i < 7 by omega) (by omega)]
      unfold F_Spn_greatest_62 sgC
      rw [nI_1]
      by_cases h1 : pl < c 8 i
      · rw [if_pos h1, if_pos h1]
      rw [if_neg h1, if_neg h1]
      by_cases h2 : c 9 i < m 46 3 - m 46 2
      · rw [if_pos h2, if_pos h2]
      rw [if_neg h2, if_neg h2]
      by_cases h3 : c 10 i ≤ a
      · rw [if_pos h3, if_pos h3]
      · rw [if_neg h3, if_neg h3]
    · intro n a
      show F_Spn_greatest_12 7 (n + 1) _ pl a (nI k) c = _
      rw [F_Spn_greatest_12, hc, if_pos (nI_le (Nat.le_refl _) (by omega))]
  · rw [if_neg q, if_neg q]
theorem fallF_bd {k : Nat} {m : x_S} (h : ∀ i, i < k → 0 ≤ (m 50 i).toInt ∧ (m 50 i).toInt ≤ 63) (pl : Int32) : 0 ≤ (fallF m k pl).toInt ∧ (fallF m k pl).toInt ≤ 63 := by
  have key : ∀ j, j ≤ k → 0 ≤ (lfold (sgM (m 46 3 - m 46 2) pl k (m 49) (m 50)) j 0).toInt ∧ (lfold (sgM (m 46 3 - m 46 2) pl k (m 49) (m 50)) j 0).toInt ≤ 63 := by
    intro j
    induction j with
    | zero => intro _; exact ⟨show 0 ≤ ((0 : Int32)).toInt by decide, show ((0 : Int32)).toInt ≤ 63 by decide⟩
    | succ j ih =>
      intro hj
      have h1 := ih (by omega)
      have h2 := h j (by omega)
      rw [lfold]
      unfold sgM
      split
      · exact h1
      · split
        · split
          · exact h1
          · exact h2
        · split
          · exact h1
          · split
            · exact h1
            · exact h2
  unfold fallF
  split
  · exact key k (Nat.le_refl _)
  · exact ⟨by decide, by decide⟩
/-! past a curve -/
def Past (hg : Int) (v d k j : Nat) (pl : Int) (u fl : Nat) : Prop := u < v + 2 * k ∧ pl < hg + ((j * v + wway (v + 2 * k) u (max (d - fl) 1) + (k * v + k * (k + 1)) : Nat) : Int)
theorem wway_le {w u b : Nat} (hb : 1 ≤ b) (hw : w ≤ 700) : wway w u b ≤ 490000 := by
  unfold wway
  split
  · omega
  · rename_i h
    have hs := wst_spec hb (Nat.not_le.mp h)
    have h1 := wsum_le (w := w) (b := b) (wst w u b)
    have h2 : wst w u b * w ≤ 700 * 700 := Nat.mul_le_mul (by omega) hw
    omega
theorem bl_if {P : Prop} {m : x_S} {x y : Int32} (h : ¬ x ≤ y ↔ P) : (if x ≤ y then (some ((0 : Int32), m) : Option (Int32 × x_S)) else some (1, m)) = some (bl P, m) := by
  by_cases q : x ≤ y
  · rw [if_pos q, bl_neg (fun z => (h.mpr z) q)]
  · rw [if_neg q, bl_pos (h.mp q)]
theorem mod_past {m : x_S} {vn d k j un fl : Nat} {pl : Int32} (hv : vn ≤ 600) (hd1 : 2 ≤ d) (hd : d ≤ 40) (hk : k = 2 ∨ k = 3) (hj : j ≤ 4) (hu : un ≤ 600) (hf : F_Mod_fall pl m = some (nI fl, m)) (hfl : fl ≤ 63) (hh : x_bd (m 46 4) (-1000000) 1000000) : F_Mod_past (nI vn) (nI d) (nI k) (nI j) pl (nI un) m = some (bl (Past (m 46 4).toInt vn d k j pl.toInt un fl), m) := by
  unfold F_Mod_past
  have hjv : j * vn ≤ 4 * 600 := Nat.mul_le_mul hj hv
  rw [show (2 : Int32) * nI k = nI (2 * k) from pk_mul 2 k, nI_add]
  by_cases h1 : un < vn + 2 * k
  · rw [if_pos (nI_lt h1 (by omega)), x_bind_eq hf]
    unfold F_Mod_past_23 F_Mod_past_46
    have hb : ∃ b : Nat, b = max (d - fl) 1 ∧ 1 ≤ b ∧ b ≤ 40 := ⟨_, rfl, by omega, by omega⟩
    obtain ⟨b, hbe, hb1, hb40⟩ := hb
    have hbr := mod_braking (w := vn + 2 * k) (u := un) (b := b) (by omega) (by omega) hb1 hb40 m
    have hle := wway_le (w := vn + 2 * k) (u := un) hb1 (by omega)
    have sel : (if (1 : Int32) ≤ nI d - nI fl then x_bind (F_Mod_braking (nI (vn + 2 * k)) (nI un) (nI d - nI fl) m) (fun r1 c1 => F_Mod_past_49 (nI vn) (nI k) pl (nI j * nI vn) r1 c1) else x_bind (F_Mod_braking (nI (vn + 2 * k)) (nI un) 1 m) (fun r1 c1 => F_Mod_past_49 (nI vn) (nI k) pl (nI j * nI vn) r1 c1)) = x_bind (F_Mod_braking (nI (vn + 2 * k)) (nI un) (nI b) m) (fun r1 c1 => F_Mod_past_49 (nI vn) (nI k) pl (nI j * nI vn) r1 c1) := by
      have z1 : ((1 : Int32)).toInt = 1 := by decide
      by_cases q : (1 : Int32) ≤ nI d - nI fl
      · rw [if_pos q]
        rw [Int32.le_iff_toInt_le, z1, pk_sub_toInt (by omega) (by omega)] at q
        rw [pk_sub (by omega), show d - fl = b by omega]
      · rw [if_neg q]
        rw [Int32.le_iff_toInt_le, z1, pk_sub_toInt (by omega) (by omega)] at q
        rw [show b = 1 by omega]
        rfl
    rw [sel, x_bind_eq hbr]
    unfold F_Mod_past_49
    rw [pk_mul, nI_add]
    unfold Past
    rw [← hbe]
    generalize wway (vn + 2 * k) un b = B at *
    have fin : ∀ T : Nat, T = j * vn + B + (k * vn + k * (k + 1)) → T ≤ 600000 → (if (m 46 4) + nI T ≤ pl then (some ((0 : Int32), m) : Option (Int32 × x_S)) else some (1, m)) = some (bl (un < vn + 2 * k ∧ pl.toInt < (m 46 4).toInt + ((j * vn + B + (k * vn + k * (k + 1)) : Nat) : Int)), m) := by
      intro T hT hT2
      refine bl_if ?_
      have q1 := hh.1
      have q2 := hh.2
      have e2 : (nI T).toInt = T := nI_toInt (by omega)
      rw [Int32.le_iff_toInt_le, i_add (by omega) (by omega), e2, ← hT]
      constructor
      · intro q; exact ⟨h1, by omega⟩
      · intro q; have := q.2; omega
    rcases hk with rfl | rfl
    · have st : F_Mod_past_55 x_fuel (nI vn) (nI 2) pl (nI (j * vn + B)) 1 m = F_Mod_past_55 (999 + 3) (nI vn) (nI 2) pl (nI (j * vn + B)) 1 m := rfl
      rw [st, F_Mod_past_55, if_neg (by decide), F_Mod_past_55, if_neg (by decide), F_Mod_past_55, if_pos (by decide)]
      unfold F_Mod_past_95
      rw [x_b01_0, x_b01_1]
      rw [show (nI (j * vn + B) + (nI vn + 2 * 1) + (nI vn + 2 * (1 + 1)) : Int32) = nI (j * vn + B + (vn + 2) + (vn + 4)) from by
        rw [show (nI vn + 2 * 1 : Int32) = nI (vn + 2) from nI_add vn 2, show (nI vn + 2 * (1 + 1) : Int32) = nI (vn + 4) from nI_add vn 4, nI_add, nI_add]]
      exact fin _ (by omega) (by omega)
    · have st : F_Mod_past_55 x_fuel (nI vn) (nI 3) pl (nI (j * vn + B)) 1 m = F_Mod_past_55 (998 + 4) (nI vn) (nI 3) pl (nI (j * vn + B)) 1 m := rfl
      rw [st, F_Mod_past_55, if_neg (by decide), F_Mod_past_55, if_neg (by decide), F_Mod_past_55, if_neg (by decide), F_Mod_past_55, if_pos (by decide)]
      unfold F_Mod_past_95
      rw [x_b01_0, x_b01_1]
      rw [show (nI (j * vn + B) + (nI vn + 2 * 1) + (nI vn + 2 * (1 + 1)) + (nI vn + 2 * (1 + 1 + 1)) : Int32) = nI (j * vn + B + (vn + 2) + (vn + 4) + (vn + 6)) from by
        rw [show (nI vn + 2 * 1 : Int32) = nI (vn + 2) from nI_add vn 2, show (nI vn + 2 * (1 + 1) : Int32) = nI (vn + 4) from nI_add vn 4, show (nI vn + 2 * (1 + 1 + 1) : Int32) = nI (vn + 6) from nI_add vn 6, nI_add, nI_add, nI_add]]
      exact fin _ (by omega) (by omega)
  · rw [if_neg (nI_nlt (by omega) (by omega))]
    rw [bl_neg (fun q => h1 q.1)]
theorem cls_past {c : x_S} {i vn d k j un fl : Nat} (hi : i < 15) (hv : vn ≤ 600) (hd1 : 2 ≤ d) (hd : d ≤ 40) (hk : k = 2 ∨ k = 3) (hj : j ≤ 4) (hu : un ≤ 600) (hs : c 44 i = nI un) (hf : c 45 i = nI fl) (hfl : fl ≤ 63) (hh : x_bd (c 42 7) (-1000000) 1000000) : F_Cur_isOver (nI i) (nI vn) (nI d) (nI k) (nI j) c = some (bl (Past (c 42 7).toInt vn d k j (c 43 i).toInt un fl), c) := by
  unfold F_Cur_isOver
  have hjv : j * vn ≤ 4 * 600 := Nat.mul_le_mul hj hv
  have hkv : k * vn ≤ 3 * 600 := Nat.mul_le_mul (by omega) hv
  have hkk : k * (k + 1) ≤ 3 * 4 := Nat.mul_le_mul (by omega) (by omega)
  simp only [x_ix_nI (show i < 15 from hi) (by omega)]
  rw [show (2 : Int32) * nI k = nI (2 * k) from pk_mul 2 k, nI_add, hs, hf]
  by_cases h1 : un < vn + 2 * k
  · rw [if_pos (nI_lt h1 (by omega))]
    unfold F_Cur_isOver_77
    have hb : ∃ b : Nat, b = max (d - fl) 1 ∧ 1 ≤ b ∧ b ≤ 40 := ⟨_, rfl, by omega, by omega⟩
    obtain ⟨b, hbe, hb1, hb40⟩ := hb
    have hbr := cls_braking (w := vn + 2 * k) (u := un) (b := b) (by omega) (by omega) hb1 hb40 c
    have hle := wway_le (w := vn + 2 * k) (u := un) hb1 (by omega)
    have z1 : ((1 : Int32)).toInt = 1 := by decide
    have ng : (nI k * nI vn) + (nI k * (nI k + 1)) = nI (k * vn + k * (k + 1)) := by rw [nI_1, pk_mul, pk_mul, nI_add]
    rw [ng, pk_mul]
    have sel : (if nI d - nI fl ≤ (1 : Int32) then x_bind (F_G_brakingWay (nI (vn + 2 * k)) (nI un) 1 c) (fun r1 c1 => F_Cur_isOver_80 (nI i) ((c 42 7 + nI (k * vn + k * (k + 1))) + nI (j * vn)) r1 c1) else x_bind (F_G_brakingWay (nI (vn + 2 * k)) (nI un) (nI d - nI fl) c) (fun r1 c1 => F_Cur_isOver_80 (nI i) ((c 42 7 + nI (k * vn + k * (k + 1))) + nI (j * vn)) r1 c1)) = x_bind (F_G_brakingWay (nI (vn + 2 * k)) (nI un) (nI b) c) (fun r1 c1 => F_Cur_isOver_80 (nI i) ((c 42 7 + nI (k * vn + k * (k + 1))) + nI (j * vn)) r1 c1) := by
      by_cases q : nI d - nI fl ≤ (1 : Int32)
      · rw [if_pos q]
        rw [Int32.le_iff_toInt_le, z1, pk_sub_toInt (by omega) (by omega)] at q
        rw [show b = 1 by omega]
        rfl
      · rw [if_neg q]
        rw [Int32.le_iff_toInt_le, z1, pk_sub_toInt (by omega) (by omega)] at q
        rw [pk_sub (by omega), show d - fl = b by omega]
    rw [sel, x_bind_eq hbr]
    unfold F_Cur_isOver_80 F_Cur_isOver_95 Past
    rw [x_ix_nI hi (by omega), x_b01_0, x_b01_1, ← hbe]
    generalize wway (vn + 2 * k) un b = B at *
    refine bl_if ?_
    have q1 := hh.1
    have q2 := hh.2
    have t1 : (nI (k * vn + k * (k + 1))).toInt = ((k * vn + k * (k + 1) : Nat) : Int) := nI_toInt (by omega)
    have t2 : (nI (j * vn)).toInt = ((j * vn : Nat) : Int) := nI_toInt (by omega)
    have t3 : (nI B).toInt = (B : Int) := nI_toInt (by omega)
    have s1 : (c 42 7 + nI (k * vn + k * (k + 1))).toInt = (c 42 7).toInt + ((k * vn + k * (k + 1) : Nat) : Int) := by rw [i_add] <;> omega
    have s2 : (c 42 7 + nI (k * vn + k * (k + 1)) + nI (j * vn)).toInt = (c 42 7).toInt + ((k * vn + k * (k + 1) : Nat) : Int) + ((j * vn : Nat) : Int) := by rw [i_add] <;> omega
    rw [Int32.le_iff_toInt_le, i_add (by omega) (by omega), s2, t3]
    constructor
    · intro q; exact ⟨h1, by omega⟩
    · intro q; have := q.2; omega
  · rw [if_neg (nI_nlt (by omega) (by omega))]
    rw [bl_neg (fun q => h1 q.1)]
