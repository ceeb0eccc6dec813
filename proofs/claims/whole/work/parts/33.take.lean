/-! reading bits -/
def Fr (S : Nat → Nat → Prop) (c c' : x_S) : Prop := ∀ q j, ¬ S q j → c' q j = c q j
theorem Fr.rfl {S : Nat → Nat → Prop} {c : x_S} : Fr S c c := fun _ _ _ => Eq.refl _
theorem Fr.trans {S : Nat → Nat → Prop} {c c1 c2 : x_S} (h : Fr S c c1) (h' : Fr S c1 c2) : Fr S c c2 := fun q j hn => (h' q j hn).trans (h q j hn)
theorem Fr.mono {S T : Nat → Nat → Prop} {c c1 : x_S} (h : Fr S c c1) (hs : ∀ q j, S q j → T q j) : Fr T c c1 := fun q j hn => h q j (fun z => hn (hs q j z))
theorem x_upc {c : x_S} {P k q j : Nat} {v : Int32} : x_up c P k v q j = if q = P ∧ j = k then v else c q j := by
  simp [x_up]
theorem Fr.up {S : Nat → Nat → Prop} {c : x_S} {P k : Nat} {v : Int32} (h : S P k) : Fr S c (x_up c P k v) := fun q j hn => by
  rw [x_upc, if_neg]
  rintro ⟨rfl, rfl⟩
  exact hn h
def bP (q j : Nat) : Prop := q = 22 ∧ (j = 2 ∨ j = 3)
def bQ (q j : Nat) : Prop := q = 46 ∧ (j = 37 ∨ j = 38)
def PB (z p : Nat) (c m : x_S) : Prop := z ≤ 600 ∧ p ≤ z ∧ c 22 1 = nI z ∧ m 46 35 = nI z ∧ c 22 2 = nI p ∧ m 46 37 = nI p ∧ c 22 3 = m 46 38 ∧ ∀ i, i < z → c 23 i = m 59 i ∧ (m 59 i = 0 ∨ m 59 i = 1)
theorem PB.fr {S T : Nat → Nat → Prop} {z p : Nat} {c m c' m' : x_S} (h : PB z p c m) (f : Fr S c c') (g : Fr T m m') (hS : ∀ q j, S q j → q ≠ 22 ∧ q ≠ 23) (hT : ∀ q j, T q j → q ≠ 46 ∧ q ≠ 59) : PB z p c' m' := by
  obtain ⟨h1, h2, h3, h4, h5, h6, h7, h8⟩ := h
  have a : ∀ j, c' 22 j = c 22 j := fun j => f 22 j (fun z => (hS _ _ z).1 rfl)
  have a' : ∀ j, c' 23 j = c 23 j := fun j => f 23 j (fun z => (hS _ _ z).2 rfl)
  have b : ∀ j, m' 46 j = m 46 j := fun j => g 46 j (fun z => (hT _ _ z).1 rfl)
  have b' : ∀ j, m' 59 j = m 59 j := fun j => g 59 j (fun z => (hT _ _ z).2 rfl)
  refine ⟨h1, h2, ?_, ?_, ?_, ?_, ?_, fun i hi => ?_⟩
  · rw [a]; exact h3
  · rw [b]; exact h4
  · rw [a]; exact h5
  · rw [b]; exact h6
  · rw [a, b]; exact h7
  · rw [a', b']; exact h8 i hi
theorem take_loop {z k : Nat} (hk : k ≤ 16) : ∀ (j i n v p : Nat) (c m : x_S), i + j = k → j < n → p + j ≤ z → v < 2 ^ i → PB z p c m → ∃ v' c' m', F_Bit_take_38 n (nI k) (nI v) (nI i) c = some (nI v', c') ∧ F_Mod_read_38 n (nI k) (nI v) (nI i) m = some (nI v', m') ∧ v' < 2 ^ k ∧ Fr bP c c' ∧ Fr bQ m m' ∧ PB z (p + j) c' m' ∧ m' 46 38 = m 46 38 := by
  intro j
  induction j with
  | zero =>
    intro i n v p c m h hn hp hv hb
    obtain ⟨n, rfl⟩ : ∃ q, n = q + 1 := ⟨n - 1, by omega⟩
    have e : i = k := by omega
    subst e
    refine ⟨v, c, m, ?_, ?_, hv, Fr.rfl, Fr.rfl, hb, rfl⟩
    · rw [F_Bit_take_38, if_pos (nI_le (Nat.le_refl _) (by omega))]
    · rw [F_Mod_read_38, if_pos (nI_le (Nat.le_refl _) (by omega))]
  | succ j ih =>
    intro i n v p c m h hn hp hv hb
    obtain ⟨n, rfl⟩ : ∃ q, n = q + 1 := ⟨n - 1, by omega⟩
    obtain ⟨h1, h2, h3, h4, h5, h6, h7, h8⟩ := hb
    obtain ⟨b1, b2⟩ := h8 p (by omega)
    obtain ⟨b, hb1, hb2⟩ : ∃ b : Nat, b ≤ 1 ∧ m 59 p = nI b := by
      rcases b2 with q | q
      · exact ⟨0, by omega, q⟩
      · exact ⟨1, by omega, q⟩
    have ev : (2 : Int32) * nI v + nI b = nI (2 * v + b) := by
      rw [show (2 : Int32) * nI v = nI (2 * v) from pk_mul 2 v, nI_add]
    obtain ⟨v', c', m', g1, g2, g3, g4, g5, g6, g7⟩ := ih (i + 1) n (2 * v + b) (p + 1) (x_up c 22 2 (nI (p + 1))) (x_up m 46 37 (nI (p + 1))) (by omega) (by omega) (by omega) (by rw [Nat.pow_succ]; omega) ⟨h1, by omega, by simp [x_up_at]; exact h3, by simp [x_up_at]; exact h4, by simp [x_up_at], by simp [x_up_at], by simp [x_up_at]; exact h7, fun i hi => by rw [x_up_ne (by decide), x_up_ne (by decide)]; exact h8 i hi⟩
    refine ⟨v', c', m', ?_, ?_, g3, Fr.trans (Fr.up ⟨rfl, Or.inl rfl⟩) g4, Fr.trans (Fr.up ⟨rfl, Or.inl rfl⟩) g5, ?_, ?_⟩
    · rw [F_Bit_take_38, if_neg (nI_ge (by omega) (by omega)), h5, x_ix_nI (by omega) (by omega)]
      unfold F_Bit_take_67
      rw [nI_1, nI_1, b1, hb2, ev]
      exact g1
    · rw [F_Mod_read_38, if_neg (nI_ge (by omega) (by omega)), h6, x_ix_nI (by omega) (by omega)]
      unfold F_Mod_read_67
      rw [nI_1, nI_1, hb2, ev]
      exact g2
    · rw [show p + (j + 1) = p + 1 + j by omega]; exact g6
    · rw [g7]; simp [x_up_at]
theorem sim_take {z p : Nat} {c m : x_S} (h : PB z p c m) (k : Nat) (hk : k ≤ 16) : ∃ p' v c' m', F_Bit_take (nI k) c = some (nI v, c') ∧ F_Mod_read (nI k) m = some (nI v, m') ∧ v < 2 ^ k ∧ Fr bP c c' ∧ Fr bQ m m' ∧ PB z p' c' m' ∧ (m' 46 38 = 0 → m 46 38 = 0 ∧ p' = p + k) := by
  have hb := h
  obtain ⟨h1, h2, h3, h4, h5, h6, h7, h8⟩ := h
  unfold F_Bit_take F_Mod_read F_Bit_take_25 F_Mod_read_25
  rw [h7]
  by_cases q : m 46 38 = 0
  · simp only [if_pos q]
    have e1 : c 22 1 - c 22 2 = nI (z - p) := by rw [h3, h5]; exact pk_sub h2
    have e2 : m 46 37 + nI k = nI (p + k) := by rw [h6, nI_add]
    rw [e1, e2, h4]
    by_cases w : p + k ≤ z
    · rw [if_pos (nI_le (show k ≤ z - p by omega) (by omega)), if_pos (nI_le w (by omega))]
      obtain ⟨v', c', m', g1, g2, g3, g4, g5, g6, g7⟩ := take_loop hk k 0 x_fuel 0 p c m (by omega) (by unfold x_fuel; omega) w (by decide) hb
      exact ⟨p + k, v', c', m', g1, g2, g3, g4, g5, g6, fun _ => ⟨q, rfl⟩⟩
    · rw [if_neg (nI_ge (show z - p < k by omega) (by omega)), if_neg (nI_ge (show z < p + k by omega) (by omega))]
      have n2 : ¬ (2 : Int32) = 0 := by decide
      have x1 : x_up c 22 3 2 22 3 = 2 := by simp [x_up_at]
      have x2 : x_up m 46 38 2 46 38 = 2 := by simp [x_up_at]
      rw [x1, x2, if_neg n2, if_neg n2]
      refine ⟨p, 0, x_up c 22 3 2, x_up m 46 38 2, rfl, rfl, Nat.two_pow_pos k, Fr.up ⟨rfl, Or.inr rfl⟩, Fr.up ⟨rfl, Or.inr rfl⟩, ⟨h1, h2, by simp [x_up_at]; exact h3, by simp [x_up_at]; exact h4, by simp [x_up_at]; exact h5, by simp [x_up_at]; exact h6, x1.trans x2.symm, fun i hi => by rw [x_up_ne (by decide), x_up_ne (by decide)]; exact h8 i hi⟩, fun z => ?_⟩
      rw [x2] at z
      exact absurd z n2
  · rw [if_neg q, if_neg q, if_neg q, if_neg q]
    exact ⟨p, 0, c, m, rfl, rfl, Nat.two_pow_pos k, Fr.rfl, Fr.rfl, hb, fun z => absurd z q⟩
theorem sim_need {z p : Nat} {c m : x_S} (h : PB z p c m) (b x : Int32) (hx : x ≠ 0) : ∃ c' m', F_Bit_need b x c = some (0, c') ∧ F_Mod_check b x m = some (0, m') ∧ Fr bP c c' ∧ Fr bQ m m' ∧ PB z p c' m' ∧ (m' 46 38 = 0 → m 46 38 = 0 ∧ b ≠ 0) := by
  have hb := h
  obtain ⟨h1, h2, h3, h4, h5, h6, h7, h8⟩ := h
  unfold F_Bit_need F_Mod_check F_Bit_need_16 F_Mod_check_16
  rw [h7]
  by_cases q : m 46 38 = 0
  · rw [if_pos q, if_pos q]
    by_cases w : b = 0
    · rw [if_pos w, if_pos w]
      refine ⟨_, _, rfl, rfl, Fr.up ⟨rfl, Or.inr rfl⟩, Fr.up ⟨rfl, Or.inr rfl⟩, ⟨h1, h2, by simp [x_up_at]; exact h3, by simp [x_up_at]; exact h4, by simp [x_up_at]; exact h5, by simp [x_up_at]; exact h6, by simp [x_up_at], fun i hi => by rw [x_up_ne (by decide), x_up_ne (by decide)]; exact h8 i hi⟩, fun z => ?_⟩
      simp [x_up_at] at z
      exact absurd z hx
    · rw [if_neg w, if_neg w]
      exact ⟨c, m, rfl, rfl, Fr.rfl, Fr.rfl, hb, fun _ => ⟨q, w⟩⟩
  · rw [if_neg q, if_neg q]
    exact ⟨c, m, rfl, rfl, Fr.rfl, Fr.rfl, hb, fun z => absurd z q⟩
theorem cls_sound (c : x_S) : F_Bit_isSound c = some (bl (c 22 3 = 0), c) := by
  unfold F_Bit_isSound F_Bit_isSound_12
  rw [x_b01_0, x_b01_1]
  by_cases q : c 22 3 = 0
  · rw [if_pos q, bl_pos q]
  · rw [if_neg q, bl_neg q]
theorem ite01 {α : Type} {P : Prop} [Decidable P] (F : Int32 → α) : (if P then F 0 else F 1) = F (bl (¬ P)) := by
  by_cases q : P
  · rw [if_pos q, bl_neg (fun z => z q)]
  · rw [if_neg q, bl_pos q]
theorem ite10 {α : Type} {P : Prop} [Decidable P] (F : Int32 → α) : (if P then F 1 else F 0) = F (bl P) := by
  by_cases q : P
  · rw [if_pos q, bl_pos q]
  · rw [if_neg q, bl_neg q]
theorem bl_ne {P : Prop} : bl P ≠ 0 ↔ P := by
  rw [ne_eq, bl_0, Classical.not_not]
theorem told_ix {s i t : Nat} : (((21 : Int32) * nI s) + ((3 : Int32) * nI i)) + nI t = nI (21 * s + 3 * i + t) := by
  rw [show (21 : Int32) * nI s = nI (21 * s) from pk_mul 21 s, show (3 : Int32) * nI i = nI (3 * i) from pk_mul 3 i, nI_add, nI_add]
theorem mod_told {m : x_S} (s i t : Nat) (hs : s < 6) (hi : i < 7) (ht : t < 3) : F_Mod_told (nI s) (nI i) (nI t) m = some (m 62 (21 * s + 3 * i + t), m) := by
  unfold F_Mod_told
  rw [told_ix, x_ix_nI (by omega) (by omega)]
theorem mod_tell {m : x_S} (s i t : Nat) (v : Int32) (hs : s < 6) (hi : i < 7) (ht : t < 3) : F_Mod_tell (nI s) (nI i) (nI t) v m = some (0, x_up m 62 (21 * s + 3 * i + t) v) := by
  unfold F_Mod_tell F_Mod_tell_17
  rw [told_ix, x_ix_nI (by omega) (by omega)]
