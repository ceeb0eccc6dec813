/-! help for the printed functions -/
def x_fuel : Nat := 1002
def x_ix {α : Type} (i : Int32) (n : Nat) (k : Nat → Option α) : Option α := if i < 0 ∨ n ≤ i.toNatClampNeg then none else k i.toNatClampNeg
theorem x_ix_some {α : Type} {i : Int32} {n : Nat} {k : Nat → Option α} {v : α} (h : x_ix i n k = some v) : ∃ j, vp_in i n ∧ i.toNatClampNeg = j ∧ k j = some v := by
  unfold x_ix at h
  by_cases hc : i < 0 ∨ n ≤ i.toNatClampNeg
  · rw [if_pos hc] at h; cases h
  · rw [if_neg hc] at h; exact ⟨_, hc, rfl, h⟩
def x_nz {α : Type} (y : Int32) (k : Option α) : Option α := if y = 0 then none else k
theorem x_nz_some {α : Type} {y : Int32} {k : Option α} {v : α} (h : x_nz y k = some v) : ¬ y = 0 ∧ k = some v := by
  unfold x_nz at h
  by_cases hc : y = 0
  · rw [if_pos hc] at h; cases h
  · rw [if_neg hc] at h; exact ⟨hc, h⟩
def x_b01 {α : Type} (y : Int32) (k : Option α) : Option α := if y = 0 ∨ y = 1 then k else none
theorem x_b01_some {α : Type} {y : Int32} {k : Option α} {v : α} (h : x_b01 y k = some v) : (y = 0 ∨ y = 1) ∧ k = some v := by
  unfold x_b01 at h
  by_cases hc : y = 0 ∨ y = 1
  · rw [if_pos hc] at h; exact ⟨hc, h⟩
  · rw [if_neg hc] at h; cases h
def x_bind {α : Type} (f : Option (Int32 × x_S)) (k : Int32 → x_S → Option α) : Option α := match f with
  | none => none
  | some q => k q.1 q.2
theorem x_bind_some {α : Type} {f : Option (Int32 × x_S)} {k : Int32 → x_S → Option α} {v : α} (h : x_bind f k = some v) : ∃ r c, f = some (r, c) ∧ k r c = some v := by
  cases f with
  | none => cases h
  | some q => exact ⟨q.1, q.2, rfl, h⟩
section
variable {E : x_E} {M : x_M} {a b pc : Nat} {L : List (Option Value)} {st : List Value} {c o : x_S} {Q : Int32 → x_H → Prop}
theorem x_idsld {h : x_H} {i : Int32} {j : Nat} (hd : decode M.2.1 pc = .ok (.iaload, 1)) (hi : vp_in i 6) (hj : i.toNatClampNeg = j) (kk : Ev E M a b (pc + 1) L (.int (x_ids j) :: st) h Q) : Ev E M a b pc L (.int i :: .ref 1001 :: st) h Q := by
  subst hj
  exact Ev_idsld hd hi kk

theorem Ec_iald {P n j : Nat} {i : Int32} (hd : decode M.2.1 pc = .ok (.iaload, 1)) (hP : P < 46) (hs : x_SH[P]? = some (.inr (0, n))) (hi : vp_in i n) (hj : i.toNatClampNeg = j) (kk : Ev E M a b (pc + 1) L (.int (c P j) :: st) (hpk c o) Q) : Ev E M a b pc L (.int i :: .ref P :: st) (hpk c o) Q := by
  subst hj
  exact Ev_iald hd (Nat.lt_of_lt_of_le hP (by decide)) hs hi (by rw [hpk_c hP]; exact kk)
theorem Ec_bald {P n j : Nat} {i : Int32} (hd : decode M.2.1 pc = .ok (.baload, 1)) (hP : P < 46) (hs : x_SH[P]? = some (.inr (1, n))) (hi : vp_in i n) (hj : i.toNatClampNeg = j) (kk : Ev E M a b (pc + 1) L (.int (c P j) :: st) (hpk c o) Q) : Ev E M a b pc L (.int i :: .ref P :: st) (hpk c o) Q := by
  subst hj
  exact Ev_bald hd (Nat.lt_of_lt_of_le hP (by decide)) hs hi (by rw [hpk_c hP]; exact kk)
theorem Ec_zald {P n j : Nat} {i : Int32} (hd : decode M.2.1 pc = .ok (.baload, 1)) (hP : P < 46) (hs : x_SH[P]? = some (.inr (2, n))) (hi : vp_in i n) (hj : i.toNatClampNeg = j) (kk : Ev E M a b (pc + 1) L (.int (c P j) :: st) (hpk c o) Q) : Ev E M a b pc L (.int i :: .ref P :: st) (hpk c o) Q := by
  subst hj
  exact Ev_zald hd (Nat.lt_of_lt_of_le hP (by decide)) hs hi (by rw [hpk_c hP]; exact kk)
theorem Ec_iast {P n j : Nat} {i x : Int32} (hd : decode M.2.1 pc = .ok (.iastore, 1)) (hP : P < 46) (hs : x_SH[P]? = some (.inr (0, n))) (hi : vp_in i n) (hj : i.toNatClampNeg = j) (kk : Ev E M a b (pc + 1) L st (hpk (x_up c P j x) o) Q) : Ev E M a b pc L (.int x :: .int i :: .ref P :: st) (hpk c o) Q := by
  subst hj
  exact Ev_iast hd (Nat.lt_of_lt_of_le hP (by decide)) hs hi (by rw [hpk_upc hP]; exact kk)
theorem Ec_bast {P n j : Nat} {i x : Int32} (hd : decode M.2.1 pc = .ok (.bastore, 1)) (hP : P < 46) (hs : x_SH[P]? = some (.inr (1, n))) (hi : vp_in i n) (hj : i.toNatClampNeg = j) (kk : Ev E M a b (pc + 1) L st (hpk (x_up c P j x.toInt8.toInt32) o) Q) : Ev E M a b pc L (.int x :: .int i :: .ref P :: st) (hpk c o) Q := by
  subst hj
  exact Ev_bast hd (Nat.lt_of_lt_of_le hP (by decide)) hs hi (by rw [hpk_upc hP]; exact kk)
theorem Ec_zast {P n j : Nat} {i x : Int32} (hd : decode M.2.1 pc = .ok (.bastore, 1)) (hP : P < 46) (hs : x_SH[P]? = some (.inr (2, n))) (hi : vp_in i n) (hj : i.toNatClampNeg = j) (hx : x = 0 ∨ x = 1) (kk : Ev E M a b (pc + 1) L st (hpk (x_up c P j x) o) Q) : Ev E M a b pc L (.int x :: .int i :: .ref P :: st) (hpk c o) Q := by
  subst hj
  exact Ev_zast hd (Nat.lt_of_lt_of_le hP (by decide)) hs hi hx (by rw [hpk_upc hP]; exact kk)
theorem Em_iald {P n j : Nat} {i : Int32} (hd : decode M.2.1 pc = .ok (.iaload, 1)) (hP : 46 ≤ P) (hs : x_SH[P]? = some (.inr (0, n))) (hi : vp_in i n) (hj : i.toNatClampNeg = j) (kk : Ev E M a b (pc + 1) L (.int (c P j) :: st) (hpk o c) Q) : Ev E M a b pc L (.int i :: .ref P :: st) (hpk o c) Q := by
  subst hj
  exact Ev_iald hd (Nat.lt_of_lt_of_le (x_sh_lt (h := hpk o c) hs) (show x_SH.length ≤ 1000 by decide)) hs hi (by rw [hpk_m hP]; exact kk)
theorem Em_bald {P n j : Nat} {i : Int32} (hd : decode M.2.1 pc = .ok (.baload, 1)) (hP : 46 ≤ P) (hs : x_SH[P]? = some (.inr (1, n))) (hi : vp_in i n) (hj : i.toNatClampNeg = j) (kk : Ev E M a b (pc + 1) L (.int (c P j) :: st) (hpk o c) Q) : Ev E M a b pc L (.int i :: .ref P :: st) (hpk o c) Q := by
  subst hj
  exact Ev_bald hd (Nat.lt_of_lt_of_le (x_sh_lt (h := hpk o c) hs) (show x_SH.length ≤ 1000 by decide)) hs hi (by rw [hpk_m hP]; exact kk)
theorem Em_zald {P n j : Nat} {i : Int32} (hd : decode M.2.1 pc = .ok (.baload, 1)) (hP : 46 ≤ P) (hs : x_SH[P]? = some (.inr (2, n))) (hi : vp_in i n) (hj : i.toNatClampNeg = j) (kk : Ev E M a b (pc + 1) L (.int (c P j) :: st) (hpk o c) Q) : Ev E M a b pc L (.int i :: .ref P :: st) (hpk o c) Q := by
  subst hj
  exact Ev_zald hd (Nat.lt_of_lt_of_le (x_sh_lt (h := hpk o c) hs) (show x_SH.length ≤ 1000 by decide)) hs hi (by rw [hpk_m hP]; exact kk)
theorem Em_iast {P n j : Nat} {i x : Int32} (hd : decode M.2.1 pc = .ok (.iastore, 1)) (hP : 46 ≤ P) (hs : x_SH[P]? = some (.inr (0, n))) (hi : vp_in i n) (hj : i.toNatClampNeg = j) (kk : Ev E M a b (pc + 1) L st (hpk o (x_up c P j x)) Q) : Ev E M a b pc L (.int x :: .int i :: .ref P :: st) (hpk o c) Q := by
  subst hj
  exact Ev_iast hd (Nat.lt_of_lt_of_le (x_sh_lt (h := hpk o c) hs) (show x_SH.length ≤ 1000 by decide)) hs hi (by rw [hpk_upm hP]; exact kk)
theorem Em_bast {P n j : Nat} {i x : Int32} (hd : decode M.2.1 pc = .ok (.bastore, 1)) (hP : 46 ≤ P) (hs : x_SH[P]? = some (.inr (1, n))) (hi : vp_in i n) (hj : i.toNatClampNeg = j) (kk : Ev E M a b (pc + 1) L st (hpk o (x_up c P j x.toInt8.toInt32)) Q) : Ev E M a b pc L (.int x :: .int i :: .ref P :: st) (hpk o c) Q := by
  subst hj
  exact Ev_bast hd (Nat.lt_of_lt_of_le (x_sh_lt (h := hpk o c) hs) (show x_SH.length ≤ 1000 by decide)) hs hi (by rw [hpk_upm hP]; exact kk)
theorem Em_zast {P n j : Nat} {i x : Int32} (hd : decode M.2.1 pc = .ok (.bastore, 1)) (hP : 46 ≤ P) (hs : x_SH[P]? = some (.inr (2, n))) (hi : vp_in i n) (hj : i.toNatClampNeg = j) (hx : x = 0 ∨ x = 1) (kk : Ev E M a b (pc + 1) L st (hpk o (x_up c P j x)) Q) : Ev E M a b pc L (.int x :: .int i :: .ref P :: st) (hpk o c) Q := by
  subst hj
  exact Ev_zast hd (Nat.lt_of_lt_of_le (x_sh_lt (h := hpk o c) hs) (show x_SH.length ≤ 1000 by decide)) hs hi hx (by rw [hpk_upm hP]; exact kk)
theorem Ev_mmax {index : Nat} {x y : Int32} {h : x_H} (hl : Cond.methodLink M.1.cls index m_Mth_max.1 ∈ x_W) (hd : decode M.2.1 pc = .ok (.invokestatic index, 3)) (hfr : 1 ≤ M.2.2.2.2.1) (hlo : 21 ≤ M.2.2.2.2.2) (hst : (st.map fun v => v.category).sum ≤ 8) (kk : Ev E M a b (pc + 3) L (.int (if x < y then y else x) :: st) h Q) : Ev E M a b pc L (.int y :: .int x :: st) h Q := by
  intro p l e R s mid args below meth c H locs cells slots ls QQ C0 F ha hb hl0 kr
  have hts := C0.2.2.2.2.1
  have h1 := C0.2.2.2.2.2.2.1
  have h2 := C0.2.2.2.2.2.2.2.1
  exact va_mmax C0.1 C0.2.1 (C0.2.2.1.trans hl0.1.1.symm) C0.2.2.2.1 (hts _ hl) (hts _ xw_sMth_max) (hts _ xw_iMth) (hts _ xw_dMth_max) (by omega) (by rw [x_cat]; omega) (by omega) (by omega) hd (kk p l e R s mid args below meth c H locs cells slots ls QQ C0 F ha hb hl0 kr)
theorem Ev_mmin {index : Nat} {x y : Int32} {h : x_H} (hl : Cond.methodLink M.1.cls index m_Mth_min.1 ∈ x_W) (hd : decode M.2.1 pc = .ok (.invokestatic index, 3)) (hfr : 1 ≤ M.2.2.2.2.1) (hlo : 21 ≤ M.2.2.2.2.2) (hst : (st.map fun v => v.category).sum ≤ 8) (kk : Ev E M a b (pc + 3) L (.int (if y < x then y else x) :: st) h Q) : Ev E M a b pc L (.int y :: .int x :: st) h Q := by
  intro p l e R s mid args below meth c H locs cells slots ls QQ C0 F ha hb hl0 kr
  have hts := C0.2.2.2.2.1
  have h1 := C0.2.2.2.2.2.2.1
  have h2 := C0.2.2.2.2.2.2.2.1
  exact va_mmin C0.1 C0.2.1 (C0.2.2.1.trans hl0.1.1.symm) C0.2.2.2.1 (hts _ hl) (hts _ xw_sMth_min) (hts _ xw_iMth) (hts _ xw_dMth_min) (by omega) (by rw [x_cat]; omega) (by omega) (by omega) hd (kk p l e R s mid args below meth c H locs cells slots ls QQ C0 F ha hb hl0 kr)
end
