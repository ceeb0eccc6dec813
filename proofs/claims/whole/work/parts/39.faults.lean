/-! faults of a message that was read -/
theorem R.frG {n : Nat} {c m c' m' : x_S} (h : R n c m) (fc : Fr GC c c') (fm : Fr gM m m') : R n c' m' := by
  have hc : ∀ q, q ≠ 22 → ¬ (24 ≤ q ∧ q ≤ 38) → c' q = c q := fun q h1 h2 => funext fun j => fc q j (by unfold GC bP; omega)
  have h22 : c' 22 1 = c 22 1 := fc 22 1 (by unfold GC bP; omega)
  have hm : ∀ q, q ≠ 46 → q ≠ 60 → q ≠ 61 → q ≠ 62 → m' q = m q := fun q h1 h2 h3 h4 => funext fun j => fm q j (by unfold gM bQ; omega)
  have h46 : ∀ j, j ≠ 37 → j ≠ 38 → m' 46 j = m 46 j := fun j h1 h2 => fm 46 j (by unfold gM bQ; omega)
  obtain ⟨hE, hA, hV, hD, hN⟩ := h
  refine ⟨?_, ?_, ?_, ?_, ?_⟩
  · unfold RE at *; simp [hc, h22, h46]; exact hE
  · unfold RA at *; simp [hc, h46]; exact hA
  · unfold RV at *; simp [h46]; exact hV
  · unfold RD at *; simp [hc, h22, hm]; exact hD
  · unfold RNn at *; simp [hc, h46, hm]; exact hN
theorem x_ix_lit {α : Type} {x : Int32} {N : Nat} {k : Nat → Option α} (n : Nat) (hx : x = nI n) (h : n < N) (hN : N < 2 ^ 31) : x_ix x N k = k n := by
  rw [hx]; exact x_ix_nI h hN
theorem fits_44 {i : Nat} {m : x_S} (hi : i < 6) (K : Int32 → Int32 → Int32 → x_S → Option (Int32 × x_S)) (a : Nat) (A Kp : Prop) : F_Mod_fits_44 K (nI a) (bl A) (nI i) (bl Kp) m = K (nI a + bl Kp) (bl (A ∨ (Kp ∧ m 55 i = m 62 84))) (nI (i + 1)) m := by
  have hn : nI i + 1 = nI (i + 1) := nI_1 i
  unfold F_Mod_fits_44 F_Mod_fits_57 F_Mod_fits_84 F_Mod_fits_88 F_Mod_fits_89
  rw [hn]
  by_cases kp : Kp
  · rw [bl_pos kp, if_neg (show ¬ (1 : Int32) = 0 by decide)]
    by_cases ha : A
    · rw [bl_pos ha, if_neg (show ¬ (1 : Int32) = 0 by decide), bl_pos (Or.inl ha)]
    · rw [bl_neg ha, if_pos rfl, if_neg (show ¬ (1 : Int32) = 0 by decide), x_ix_nI hi (by omega), x_bind_eq (show F_Mod_told 4 0 0 m = some (m 62 84, m) from mod_told 4 0 0 (by omega) (by omega) (by omega))]
      unfold F_Mod_fits_81 F_Mod_fits_84 F_Mod_fits_88 F_Mod_fits_89
      rw [hn]
      by_cases e : m 55 i = m 62 84
      · rw [if_pos e, bl_pos (Or.inr ⟨kp, e⟩)]
      · rw [if_neg e, bl_neg (fun y => y.elim ha (fun u => e u.2))]
  · rw [bl_neg kp, if_pos rfl]
    by_cases ha : A
    · rw [bl_pos ha, if_neg (show ¬ (1 : Int32) = 0 by decide), bl_pos (Or.inl ha)]
    · rw [bl_neg ha, if_pos rfl, if_pos rfl, bl_neg (fun y => y.elim ha (fun u => kp u.1))]
def kept (m : x_S) (t : Nat) : Prop := ¬ (m 60 5 ≠ 0 ∧ m 55 t = m 62 105)
def Room (k : Nat) (m : x_S) : Prop := k < 6 ∨ (∃ i, i < k ∧ m 55 i = m 62 84) ∨ (m 60 5 ≠ 0 ∧ ∃ i, i < k ∧ m 55 i = m 62 105)
theorem fits_loop {k : Nat} {m : x_S} (hk : k ≤ 6) (h : m 46 24 = nI k) : ∀ (j i n a : Nat) (A : Prop), i + j = k → j < n → a ≤ i → (a = i ↔ ∀ t, t < i → kept m t) → (A ↔ ∃ t, t < i ∧ kept m t ∧ m 55 t = m 62 84) → F_Mod_fits_6 n (nI a) (bl A) (nI i) m = some (bl (Room k m), m) := by
  intro j
  induction j with
  | zero =>
    intro i n a A hi hn ha h1 h2
    obtain ⟨n, rfl⟩ : ∃ q, n = q + 1 := ⟨n - 1, by omega⟩
    have e : i = k := by omega
    subst e
    rw [F_Mod_fits_6, h, if_pos (nI_le (Nat.le_refl _) (by omega))]
    unfold F_Mod_fits_106 F_Mod_fits_111
    rw [x_b01_0, x_b01_1]
    by_cases w : A
    · rw [bl_pos w, if_neg (show ¬ (1 : Int32) = 0 by decide)]
      obtain ⟨t, t1, t2, t3⟩ := h2.mp w
      rw [bl_pos (show Room i m from Or.inr (Or.inl ⟨t, t1, t3⟩))]
    · rw [bl_neg w, if_pos rfl]
      by_cases y : a = 6
      · rw [if_pos (by rw [y]; decide), bl_neg]
        rintro (u | ⟨t, t1, t2⟩ | ⟨u1, t, t1, t2⟩)
        · omega
        · exact w (h2.mpr ⟨t, t1, (h1.mp (by omega)) t t1, t2⟩)
        · exact (h1.mp (by omega)) t t1 ⟨u1, t2⟩
      · rw [if_neg (show ¬ (6 : Int32) ≤ nI a from nI_ge (b := 6) (by omega) (by omega)), bl_pos]
        by_cases u : i < 6
        · exact Or.inl u
        · have : ¬ ∀ t, t < i → kept m t := fun v => by have := h1.mpr v; omega
          refine Or.inr (Or.inr ?_)
          apply Classical.byContradiction
          intro v
          exact this (fun t t1 t2 => v ⟨t2.1, t, t1, t2.2⟩)
  | succ j ih =>
    intro i n a A hi hn ha h1 h2
    obtain ⟨n, rfl⟩ : ∃ q, n = q + 1 := ⟨n - 1, by omega⟩
    rw [F_Mod_fits_6, h, if_neg (nI_ge (by omega) (by omega)), x_ix_lit (x := 5) 5 rfl (by omega) (by omega)]
    have body : (if m 60 5 = 0 then F_Mod_fits_39 (F_Mod_fits_6 n) (nI a) (bl A) (nI i) m else x_ix (nI i) 6 (fun j6 => x_bind (F_Mod_told 5 0 0 m) (fun r7 c7 => F_Mod_fits_36 (F_Mod_fits_6 n) (nI a) (bl A) (nI i) (m 55 j6) r7 c7))) = F_Mod_fits_44 (F_Mod_fits_6 n) (nI a) (bl A) (nI i) (bl (kept m i)) m := by
      by_cases w : m 60 5 = 0
      · rw [if_pos w, bl_pos (show kept m i from fun y => y.1 w)]
        rfl
      · rw [if_neg w, x_ix_nI (by omega) (by omega), x_bind_eq (show F_Mod_told 5 0 0 m = some (m 62 105, m) from mod_told 5 0 0 (by omega) (by omega) (by omega))]
        unfold F_Mod_fits_36 F_Mod_fits_39
        by_cases e : m 55 i = m 62 105
        · rw [if_pos e, bl_neg (fun y : kept m i => y ⟨w, e⟩)]
        · rw [if_neg e, bl_pos (show kept m i from fun y => e y.2)]
    rw [body, fits_44 (by omega)]
    by_cases w : kept m i
    · rw [bl_pos w, nI_1]
      refine ih (i + 1) n (a + 1) _ (by omega) (by omega) (by omega) ⟨fun y t t1 => ?_, fun y => ?_⟩ ⟨fun y => ?_, fun y => ?_⟩
      · by_cases e : t = i
        · rw [e]; exact w
        · exact (h1.mp (by omega)) t (by omega)
      · have := h1.mpr (fun t t1 => y t (by omega))
        omega
      · rcases y with y | y
        · obtain ⟨t, t1, t2⟩ := h2.mp y
          exact ⟨t, by omega, t2⟩
        · exact ⟨i, by omega, y⟩
      · obtain ⟨t, t1, t2⟩ := y
        by_cases e : t = i
        · rw [e] at t2; exact Or.inr t2
        · exact Or.inl (h2.mpr ⟨t, by omega, t2⟩)
    · rw [bl_neg w, Int32.add_zero]
      refine ih (i + 1) n a _ (by omega) (by omega) (by omega) ⟨fun y => by omega, fun y => absurd (y i (by omega)) w⟩ ⟨fun y => ?_, fun y => ?_⟩
      · rcases y with y | y
        · obtain ⟨t, t1, t2⟩ := h2.mp y
          exact ⟨t, by omega, t2⟩
        · exact absurd y.1 w
      · obtain ⟨t, t1, t2⟩ := y
        by_cases e : t = i
        · rw [e] at t2; exact absurd t2.1 w
        · exact Or.inl (h2.mpr ⟨t, by omega, t2⟩)
theorem mod_fits {k : Nat} {m : x_S} (hk : k ≤ 6) (h : m 46 24 = nI k) : F_Mod_fits m = some (bl (Room k m), m) := by
  have := fits_loop hk h k 0 x_fuel 0 False (by omega) (by unfold x_fuel; omega) (by omega) ⟨fun _ t ht => absurd ht (by omega), fun _ => rfl⟩ ⟨fun y => y.elim, fun ⟨t, ht, _⟩ => absurd ht (by omega)⟩
  rw [bl_neg id] at this
  exact this
theorem cls_indexOf {c : x_S} {k : Nat} (hk : k ≤ 6) (hc : c 13 3 = nI k) (x : Int32) : ∀ (j i n : Nat), i + j = k → j < n → (∀ t, t < i → ¬ c 12 t = x) → ∃ r, F_Res_indexOf_2 n x (nI i) c = some (r, c) ∧ First (fun t => c 12 t = x) k r := by
  intro j
  induction j with
  | zero =>
    intro i n hi hn ht
    obtain ⟨n, rfl⟩ : ∃ q, n = q + 1 := ⟨n - 1, by omega⟩
    refine ⟨-1, ?_, Or.inl ⟨rfl, fun t h => ht t (by omega)⟩⟩
    rw [F_Res_indexOf_2, hc]
    unfold F_Res_indexOf_37
    rw [if_pos (nI_le (show k ≤ i by omega) (by omega)), ite_self]
  | succ j ih =>
    intro i n hi hn ht
    obtain ⟨n, rfl⟩ : ∃ q, n = q + 1 := ⟨n - 1, by omega⟩
    rw [F_Res_indexOf_2, hc, if_neg (show ¬ (6 : Int32) ≤ nI i from nI_ge (b := 6) (by omega) (by omega)), if_neg (nI_ge (by omega) (by omega)), x_ix_nI (by omega) (by omega), nI_1]
    by_cases g : c 12 i = x
    · rw [if_pos g]
      exact ⟨nI i, rfl, Or.inr ⟨i, by omega, rfl, g, ht⟩⟩
    · rw [if_neg g]
      exact ih (i + 1) n (by omega) (by omega) (fun t h => by
        by_cases e : t = i
        · rw [e]; exact g
        · exact ht t (by omega))
theorem cls_index {c : x_S} {k : Nat} (hk : k ≤ 6) (hc : c 13 3 = nI k) (x : Int32) : ∃ r, F_Res_indexOf x c = some (r, c) ∧ First (fun t => c 12 t = x) k r :=
  cls_indexOf hk hc x k 0 x_fuel (by omega) (by unfold x_fuel; omega) (fun t ht => absurd ht (by omega))
theorem First.neg {P : Nat → Prop} {k : Nat} {r : Int32} (hk : k ≤ 6) (h : First P k r) : r < 0 ↔ ¬ ∃ i, i < k ∧ P i := by
  rcases h with ⟨h1, h2⟩ | ⟨i, h0, h1, h2, h3⟩
  · rw [h1]
    exact ⟨fun _ ⟨i, y1, y2⟩ => h2 i y1 y2, fun _ => by decide⟩
  · rw [h1]
    exact ⟨fun y => absurd y (nI_pos (by omega)), fun y => absurd ⟨i, h0, h2⟩ y⟩
theorem cls_hasRoom {c : x_S} {k : Nat} (hk : k ≤ 6) (hc : c 13 3 = nI k) (x1 x2 : Int32) : F_Res_hasRoom x1 x2 c = some (bl (k < 6 ∨ (∃ i, i < k ∧ c 12 i = x1) ∨ ∃ i, i < k ∧ c 12 i = x2), c) := by
  obtain ⟨r1, a1, a2⟩ := cls_index hk hc x1
  obtain ⟨r2, b1, b2⟩ := cls_index hk hc x2
  unfold F_Res_hasRoom F_Res_hasRoom_28 F_Res_hasRoom_33
  rw [x_b01_1, hc]
  by_cases q : k < 6
  · rw [if_pos (show nI k < (6 : Int32) from nI_lt (b := 6) q (by omega)), bl_pos (Or.inl q)]
  · rw [if_neg (show ¬ nI k < (6 : Int32) from nI_nlt (b := 6) (by omega) (by omega)), x_bind_eq a1]
    unfold F_Res_hasRoom_17 F_Res_hasRoom_28 F_Res_hasRoom_33
    rw [x_b01_1]
    by_cases w : r1 < 0
    · have n1 := (a2.neg hk).mp w
      rw [if_neg (show ¬ 0 ≤ r1 by rw [Int32.lt_iff_toInt_lt] at w; rw [Int32.le_iff_toInt_le]; omega), x_bind_eq b1]
      unfold F_Res_hasRoom_25 F_Res_hasRoom_28 F_Res_hasRoom_33
      rw [x_b01_0, x_b01_1]
      by_cases y : r2 < 0
      · rw [if_pos y, bl_neg (fun u => u.elim q (fun u => u.elim n1 ((b2.neg hk).mp y)))]
      · rw [if_neg y, bl_pos (Or.inr (Or.inr (Classical.byContradiction fun u => y ((b2.neg hk).mpr u))))]
    · rw [if_pos (show 0 ≤ r1 by rw [Int32.lt_iff_toInt_lt] at w; rw [Int32.le_iff_toInt_le]; omega), bl_pos (Or.inr (Or.inl (Classical.byContradiction fun u => w ((a2.neg hk).mpr u))))]
/-! a model that has a fault looks no further -/
section
variable {m : x_S} (h : m 46 38 ≠ 0) (x1 x3 x4 : Int32)
theorem f361 (h : m 46 38 ≠ 0) : F_Mod_message_361 x1 x3 x4 m = F_Mod_message_387 x1 x3 x4 m := by
  unfold F_Mod_message_361
  rw [if_neg h]
theorem f296 (h : m 46 38 ≠ 0) : F_Mod_message_296 x1 x3 x4 m = F_Mod_message_387 x1 x3 x4 m := by
  unfold F_Mod_message_296
  rw [if_neg h]
  exact f361 x1 x3 x4 h
theorem f272 (h : m 46 38 ≠ 0) : F_Mod_message_272 x1 x3 x4 m = F_Mod_message_387 x1 x3 x4 m := by
  unfold F_Mod_message_272 F_Mod_message_286 F_Mod_message_291
  simp only [x_bind_eq (mod_checkF h 0 10), x_bind_eq (mod_checkF h 1 10), ite_self]
  exact f296 x1 x3 x4 h
theorem f238 (h : m 46 38 ≠ 0) : F_Mod_message_238 x1 x3 x4 m = F_Mod_message_387 x1 x3 x4 m := by
  unfold F_Mod_message_238 F_Mod_message_262 F_Mod_message_266 F_Mod_message_267
  simp only [x_bind_eq (mod_checkF h 0 9), x_bind_eq (mod_checkF h 1 9), ite_self]
  exact f272 x1 x3 x4 h
theorem f212 (h : m 46 38 ≠ 0) : F_Mod_message_212 x1 x3 x4 m = F_Mod_message_387 x1 x3 x4 m := by
  unfold F_Mod_message_212 F_Mod_message_228 F_Mod_message_233
  simp only [x_bind_eq (mod_checkF h 0 8), x_bind_eq (mod_checkF h 1 8), x_ix_lit (x := 1) (N := 6) 1 rfl (by omega) (by omega), ite_self]
  exact f238 x1 x3 x4 h
theorem f187 (h : m 46 38 ≠ 0) : F_Mod_message_187 x1 x3 x4 m = F_Mod_message_387 x1 x3 x4 m := by
  unfold F_Mod_message_187 F_Mod_message_202 F_Mod_message_207
  simp only [x_bind_eq (mod_checkF h 0 8), x_bind_eq (mod_checkF h 1 8), x_ix_lit (x := 1) (N := 6) 1 rfl (by omega) (by omega), ite_self]
  exact f212 x1 x3 x4 h
end
theorem mod_check0 {m : x_S} (h : m 46 38 = 0) (x : Int32) : F_Mod_check 0 x m = some (0, x_up m 46 38 x) := by
  unfold F_Mod_check F_Mod_check_16
  rw [if_pos h, if_pos rfl]
theorem x_up_same {m : x_S} {P k : Nat} {v : Int32} (h : m P k = v) : x_up m P k v = m := by
  funext q j
  rw [x_upc]
  by_cases e : q = P ∧ j = k
  · rw [if_pos e, e.1, e.2, h]
  · rw [if_neg e]
theorem up38 {m : x_S} {x : Int32} (h : x ≠ 0) : x_up m 46 38 x 46 38 ≠ 0 := by
  rw [x_up_at, if_pos rfl]; exact h
theorem R.up38 {n : Nat} {c m : x_S} (h : R n c m) (x : Int32) : R n c (x_up m 46 38 x) := h.frG Fr.rfl (Fr.up (Or.inl ⟨rfl, Or.inr rfl⟩))
theorem RR.mem {k : Nat} {cnt : Int32} {nu f l v mnu mp ml mv : Nat → Int32} (h : RR cnt nu f l v mnu mp ml mv) (hk : cnt = nI k) (hk6 : k ≤ 6) (x : Int32) : (∃ i, i < k ∧ nu i = x) ↔ ∃ i, i < k ∧ mnu i = x := by
  obtain ⟨k', k1, k2, ⟨a, b, h1, h2⟩, -⟩ := h
  have e : k' = k := (nI_eq (by omega) (by omega)).mp (k2.symm.trans hk)
  subst e
  constructor
  · rintro ⟨i, i1, i2⟩
    obtain ⟨y1, y2, y3, y4⟩ := h1 i i1
    refine ⟨b i, y2, ?_⟩
    rw [← (h2 (b i) y2).1, y3]
    exact i2
  · rintro ⟨i, i1, i2⟩
    obtain ⟨y1, y2, y3, y4⟩ := h1 i i1
    exact ⟨a i, y1, by rw [(h2 i i1).1]; exact i2⟩
theorem sim_faults {n z p : Nat} {c m : x_S} {kd tm pl : Int32} (hn : n ≤ 512) (hR : R n c m) (hP : PI z p c m) (q0 : m 46 38 = 0) (k4 : c 24 4 = kd) (k6 : kd = 9 → c 24 6 = pl) : ∃ r c', F_G_faultOfReceived (x_up c 22 1 0) = some (r, c') ∧ F_Mod_message_187 kd tm pl m = F_Mod_message_387 kd tm pl (x_up m 46 38 r) ∧ fr42 (x_up c 22 1 0) c' ∧ (r = 0 → (kd = 3 → m 60 1 ≠ 0) ∧ (m 60 4 ≠ 0 → ∀ k, k ≤ 6 → m 46 24 = nI k → Room k m)) := by
  obtain ⟨hb, hcame, hDT⟩ := hP
  have hE := hR.1
  obtain ⟨e1, e2, e3, e4, e5, e6, e7, e8, e9, e10, e11, e12, e13, e14, e15, e16, e17, e18, e19, e20, e21, e22, e23⟩ := hE
  have hG : ∀ x, RG (x_up c 22 1 0) (x_up m 46 38 x) := fun x => by
    unfold RG
    simp [x_up_ne, x_up_at]
    exact ⟨e1, e2, e3, e4, e5, e6, e7, e11, e20, e21, e23⟩
  have hD : ∀ x, RD (x_up c 22 1 0) (x_up m 46 38 x) := fun x => by
    obtain ⟨d1, d2, d3, d4, d5⟩ := hR.2.2.2.1
    refine ⟨?_, ?_, ?_, ?_, ⟨0, by omega, by simp [x_upc]; rfl, fun i hi => absurd hi (by omega)⟩⟩
    · simp [x_up_ne]; exact d1
    · simp [x_up_ne]; exact d2
    · simp [x_up_ne]; exact d3
    · simp [x_up_ne]; exact d4
  have hV : ∀ x, RV n (x_up m 46 38 x) := fun x => (hR.up38 x).2.2.1
  have m0 : x_up m 46 38 0 = m := x_up_same q0
  generalize hC : x_up c 22 1 0 = C at *
  have Cn : ∀ q, q ≠ 22 → C q = c q := fun q hq => by rw [← hC, x_up_ne hq]
  have C4 : C 24 4 = kd := by rw [Cn 24 (by decide)]; exact k4
  have C25 : ∀ s, s < 6 → C 25 s = m 60 s := fun s hs => by rw [Cn 25 (by decide)]; exact hcame s hs
  have C8 : C 0 8 = m 46 6 := by rw [Cn 0 (by decide)]; exact e7
  have C24 : C 2 4 = m 46 8 := by rw [Cn 2 (by decide)]; exact e9
  have C25e : C 2 5 = m 46 9 := by rw [Cn 2 (by decide)]; exact e10
  unfold F_G_faultOfReceived F_Mod_message_187
  rw [x_ix_lit (x := 1) 1 rfl (by omega) (by omega), x_ix_lit (x := 1) 1 rfl (by omega) (by omega), C4, C25 1 (by omega)]
  -- 1
  by_cases s1 : kd = 3 ∧ m 60 1 = 0
  · rw [if_pos s1.1, if_pos s1.2, if_pos s1.1, if_pos s1.2]
    refine ⟨8, C, rfl, ?_, fr42.rfl, fun y => absurd y (by decide)⟩
    unfold F_Mod_message_207
    rw [x_bind_eq (mod_check0 q0 8)]
    exact f212 _ _ _ (up38 (by decide))
  have c1 : (if kd = 3 then (if m 60 1 = 0 then F_G_faultOfReceived_41 C else F_G_faultOfReceived_25 (m 60 1) C) else F_G_faultOfReceived_25 (m 60 1) C) = F_G_faultOfReceived_25 (m 60 1) C := by
    by_cases w : kd = 3
    · rw [if_pos w, if_neg (fun y => s1 ⟨w, y⟩)]
    · rw [if_neg w]
  have o1 : (if kd = 3 then (if m 60 1 = 0 then F_Mod_message_207 kd tm pl 0 m else F_Mod_message_202 kd tm pl m) else F_Mod_message_202 kd tm pl m) = F_Mod_message_212 kd tm pl m := by
    have : F_Mod_message_202 kd tm pl m = F_Mod_message_212 kd tm pl m := by
      unfold F_Mod_message_202 F_Mod_message_207
      rw [x_bind_eq (mod_check1 8 m)]
    rw [this]
    by_cases w : kd = 3
    · rw [if_pos w, if_neg (fun y => s1 ⟨w, y⟩)]
    · rw [if_neg w]
  rw [c1, o1]
  -- 2
  unfold F_G_faultOfReceived_25 F_Mod_message_212
  rw [x_ix_lit (x := 1) 1 rfl (by omega) (by omega), C4]
  by_cases s2 : kd = 24 ∧ m 60 1 ≠ 0
  · rw [if_pos s2.1, if_neg s2.2, if_pos s2.1, if_neg s2.2]
    refine ⟨8, C, rfl, ?_, fr42.rfl, fun y => absurd y (by decide)⟩
    unfold F_Mod_message_233
    rw [x_bind_eq (mod_check0 q0 8)]
    exact f238 _ _ _ (up38 (by decide))
  have c2 : (if kd = 24 then (if m 60 1 = 0 then F_G_faultOfReceived_44 C else F_G_faultOfReceived_41 C) else F_G_faultOfReceived_44 C) = F_G_faultOfReceived_44 C := by
    by_cases w : kd = 24
    · rw [if_pos w, if_pos (Classical.byContradiction fun y => s2 ⟨w, y⟩)]
    · rw [if_neg w]
  have o2 : (if kd = 24 then (if m 60 1 = 0 then F_Mod_message_228 kd tm pl m else F_Mod_message_233 kd tm pl 0 m) else F_Mod_message_228 kd tm pl m) = F_Mod_message_238 kd tm pl m := by
    have : F_Mod_message_228 kd tm pl m = F_Mod_message_238 kd tm pl m := by
      unfold F_Mod_message_228 F_Mod_message_233
      rw [x_bind_eq (mod_check1 8 m)]
    rw [this]
    by_cases w : kd = 24
    · rw [if_pos w, if_pos (Classical.byContradiction fun y => s2 ⟨w, y⟩)]
    · rw [if_neg w]
  rw [c2, o2]
  -- 3
  have t3 : ((m 46 6 = 6 ∨ (m 46 6 = 4 ∧ kd ≠ 16)) ∧ F_G_faultOfReceived_44 C = some (9, C) ∧ F_Mod_message_238 kd tm pl m = F_Mod_message_387 kd tm pl (x_up m 46 38 9)) ∨ (F_G_faultOfReceived_44 C = F_G_faultOfReceived_76 C ∧ F_Mod_message_238 kd tm pl m = F_Mod_message_272 kd tm pl m) := by
    unfold F_G_faultOfReceived_44 F_Mod_message_238
    rw [C8, C4]
    have a1 : F_Mod_message_262 kd tm pl m = F_Mod_message_272 kd tm pl m := by
      unfold F_Mod_message_262 F_Mod_message_267
      rw [x_bind_eq (mod_check1 9 m)]
    have a2 : F_Mod_message_266 kd tm pl m = F_Mod_message_387 kd tm pl (x_up m 46 38 9) := by
      unfold F_Mod_message_266 F_Mod_message_267
      rw [x_bind_eq (mod_check0 q0 9)]
      exact f272 _ _ _ (up38 (by decide))
    rw [a1, a2]
    by_cases w6 : m 46 6 = 6
    · rw [if_pos w6, if_pos w6]; exact Or.inl ⟨Or.inl w6, rfl, rfl⟩
    · rw [if_neg w6, if_neg w6]
      by_cases w4 : m 46 6 = 4
      · rw [if_pos w4, if_pos w4]
        by_cases w : kd = 16
        · rw [if_pos w, if_pos w]; exact Or.inr ⟨rfl, rfl⟩
        · rw [if_neg w, if_neg w]; exact Or.inl ⟨Or.inr ⟨w4, w⟩, rfl, rfl⟩
      · rw [if_neg w4, if_neg w4]; exact Or.inr ⟨rfl, rfl⟩
  rcases t3 with ⟨-, t1, t2⟩ | ⟨t1, t2⟩
  · exact ⟨9, C, t1, t2, fr42.rfl, fun y => absurd y (by decide)⟩
  rw [t1, t2]
  -- the end: restrictions
  have tail : ∀ C', fr42 C C' → ∃ r c', F_G_faultOfReceived_155 C' = some (r, c') ∧ F_Mod_message_361 kd tm pl m = F_Mod_message_387 kd tm pl (x_up m 46 38 r) ∧ fr42 C c' ∧ (r = 0 → (m 60 4 ≠ 0 → ∀ k, k ≤ 6 → m 46 24 = nI k → Room k m)) := by
    intro C' hf
    have Cn' : ∀ q, q ≠ 22 → q ≠ 42 → q ≠ 43 → q ≠ 44 → q ≠ 45 → C' q = c q := fun q y1 y2 y3 y4 y5 => by rw [hf.1 q y2 y3 y4 y5, Cn q y1]
    have D25 : ∀ s, s < 6 → C' 25 s = m 60 s := fun s hs => by rw [Cn' 25 (by decide) (by decide) (by decide) (by decide) (by decide)]; exact hcame s hs
    unfold F_G_faultOfReceived_155 F_Mod_message_361
    rw [x_ix_lit (x := 4) 4 rfl (by omega) (by omega), x_ix_lit (x := 4) 4 rfl (by omega) (by omega), D25 4 (by omega), if_pos q0]
    by_cases w4 : m 60 4 = 0
    · rw [if_pos w4, if_pos w4]
      exact ⟨0, C', rfl, by rw [m0], hf, fun _ y => absurd w4 y⟩
    · rw [if_neg w4, if_neg w4]
      have hRR := hR.2.2.2.1.2.2.2.1
      obtain ⟨k, kk1, kk2, kk3, kk4, kk5⟩ := hRR
      have hRR := hR.2.2.2.1.2.2.2.1
      have hm24 : m 46 24 = nI k := e23.symm.trans kk2
      have d13 : C' 13 3 = nI k := by rw [Cn' 13 (by decide) (by decide) (by decide) (by decide) (by decide)]; exact kk2
      have dt4 : D4 c m := hDT q0 4 (by omega) w4
      rw [x_bind_eq (mod_fits kk1 hm24)]
      obtain ⟨en, en1, en2⟩ : ∃ en, F_Msg_endedNumber C' = some (en, C') ∧ ((∃ i, i < k ∧ m 55 i = en) ↔ (m 60 5 ≠ 0 ∧ ∃ i, i < k ∧ m 55 i = m 62 105)) := by
        unfold F_Msg_endedNumber F_Msg_endedNumber_17
        rw [x_ix_lit (x := 5) 5 rfl (by omega) (by omega), D25 5 (by omega)]
        by_cases w5 : m 60 5 = 0
        · rw [if_pos w5]
          refine ⟨-1, rfl, ⟨fun ⟨i, i1, i2⟩ => ?_, fun y => absurd w5 y.1⟩⟩
          have := (kk5 i i i1 i1).1
          rw [i2] at this
          exact absurd this (by decide)
        · rw [if_neg w5]
          refine ⟨_, rfl, ?_⟩
          have : C' 24 13 = m 62 105 := by
            rw [Cn' 24 (by decide) (by decide) (by decide) (by decide) (by decide)]
            exact hDT q0 5 (by omega) w5
          rw [this]
          exact ⟨fun y => ⟨w5, y⟩, fun y => y.2⟩
      rw [x_bind_eq en1]
      unfold F_G_faultOfReceived_188
      have room : F_Res_hasRoom (C' 24 9) en C' = some (bl (Room k m), C') := by
        rw [cls_hasRoom kk1 d13, Cn' 12 (by decide) (by decide) (by decide) (by decide) (by decide), Cn' 24 (by decide) (by decide) (by decide) (by decide) (by decide), dt4.1]
        congr 2
        apply bl_congr
        unfold Room
        rw [hRR.mem kk2 kk1, hRR.mem kk2 kk1, en2]
      rw [x_bind_eq room]
      unfold F_G_faultOfReceived_191 F_G_faultOfReceived_194 F_G_faultOfReceived_199 F_G_faultOfReceived_210 F_Mod_message_382
      by_cases w : Room k m
      · rw [bl_pos w, if_neg (by decide), if_neg (by decide), x_bind_eq (mod_check1 12 m)]
        refine ⟨0, C', rfl, by rw [m0], hf, fun _ _ k' y1 y2 => ?_⟩
        have : k' = k := (nI_eq (by omega) (by omega)).mp (y2.symm.trans hm24)
        rw [this]; exact w
      · rw [bl_neg w, if_pos rfl, if_pos rfl, x_bind_eq (mod_check0 q0 12)]
        exact ⟨12, C', rfl, rfl, hf, fun y => absurd y (by decide)⟩
  -- 4
  unfold F_G_faultOfReceived_76 F_Mod_message_272
  rw [C4, C24]
  have h286 : F_Mod_message_286 kd tm pl m = F_Mod_message_296 kd tm pl m := by
    unfold F_Mod_message_286 F_Mod_message_291
    rw [x_bind_eq (mod_check1 10 m)]
  rw [h286]
  by_cases k9 : kd = 9
  · rw [if_pos k9, if_pos k9]
    by_cases w8 : m 46 8 = 0
    · rw [if_pos w8, if_pos w8]
      refine ⟨10, C, rfl, ?_, fr42.rfl, fun y => absurd y (by decide)⟩
      unfold F_Mod_message_291
      rw [x_bind_eq (mod_check0 q0 10)]
      exact f296 _ _ _ (up38 (by decide))
    · rw [if_neg w8, if_neg w8]
      unfold F_G_faultOfReceived_101 F_Mod_message_296
      have C246 : C 24 6 = pl := by rw [Cn 24 (by decide)]; exact k6 k9
      rw [C4, if_pos k9, C25e, C246, if_pos q0, if_pos k9]
      by_cases w : m 46 9 < pl
      · rw [if_pos w, if_pos w]
        refine ⟨11, C, rfl, ?_, fr42.rfl, fun y => absurd y (by decide)⟩
        have u := up38 (m := m) (x := 11) (by decide)
        unfold F_Mod_message_324
        rw [x_bind_eq (mod_check0 q0 11)]
        unfold F_Mod_message_329
        rw [x_bind_eq (mod_guided _)]
        obtain ⟨g, c', g1, g2, g3, g4⟩ := sim_gradeEnd hn (hG 11) (hV 11) (hD 11) pl
        unfold F_Mod_message_334
        rw [x_bind_eq g2]
        unfold F_Mod_message_347 F_Mod_message_351 F_Mod_message_356
        rw [x_bind_eq (mod_checkF u 0 11), x_bind_eq (mod_checkF u 1 11), ite_self, ite_self]
        exact f361 _ _ _ u
      · rw [if_neg w, if_neg w]
        unfold F_Mod_message_324
        rw [x_bind_eq (mod_check1 11 m)]
        unfold F_Mod_message_329
        rw [x_bind_eq (mod_guided m), x_bind_eq (cls_guided C), C8]
        unfold F_Mod_message_334 F_G_faultOfReceived_134
        have h351 : F_Mod_message_351 kd tm pl m = F_Mod_message_361 kd tm pl m := by
          unfold F_Mod_message_351 F_Mod_message_356
          rw [x_bind_eq (mod_check1 11 m)]
        by_cases gd : GD (m 46 6)
        · rw [bl_pos gd, if_neg (by decide), if_neg (by decide), C246]
          obtain ⟨g, c', g1, g2, g3, g4⟩ := sim_gradeEnd hn (by have := hG 0; rw [m0] at this; exact this) (by have := hV 0; rw [m0] at this; exact this) (by have := hD 0; rw [m0] at this; exact this) pl
          rw [x_bind_eq g1, x_bind_eq g2]
          unfold F_G_faultOfReceived_148 F_Mod_message_347
          have g34 : g < 3 ↔ ¬ 3 ≤ g := by
            rcases g4 with rfl | rfl | rfl | rfl | rfl <;> decide
          by_cases y : g < 3
          · rw [if_pos y, if_neg (g34.mp y), h351]
            obtain ⟨r, c'', x1, x2, x3, x4⟩ := tail c' g3
            exact ⟨r, c'', x1, x2, x3, fun r0 => ⟨fun k3 => absurd (k3.symm.trans k9) (by decide), x4 r0⟩⟩
          · rw [if_neg y, if_pos (Classical.byContradiction fun u => y (g34.mpr u))]
            refine ⟨11, c', rfl, ?_, g3, fun y => absurd y (by decide)⟩
            unfold F_Mod_message_356
            rw [x_bind_eq (mod_check0 q0 11)]
            exact f361 _ _ _ (up38 (by decide))
        · rw [bl_neg gd, if_pos rfl, if_pos rfl, h351]
          obtain ⟨r, c'', x1, x2, x3, x4⟩ := tail C fr42.rfl
          exact ⟨r, c'', x1, x2, x3, fun r0 => ⟨fun k3 => absurd (k3.symm.trans k9) (by decide), x4 r0⟩⟩
  · rw [if_neg k9, if_neg k9]
    unfold F_G_faultOfReceived_101 F_Mod_message_296
    rw [C4, if_neg k9, if_pos q0, if_neg k9]
    obtain ⟨r, c'', x1, x2, x3, x4⟩ := tail C fr42.rfl
    exact ⟨r, c'', x1, x2, x3, fun r0 => ⟨fun k3 w => s1 ⟨k3, w⟩, x4 r0⟩⟩
