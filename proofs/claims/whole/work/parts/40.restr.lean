/-! restrictions: one goes, one comes -/
theorem RR.drop {k t0 : Nat} {nu f l v mnu mp ml mv : Nat → Int32} (h : RR (nI k) nu f l v mnu mp ml mv) (hk : k ≤ 6) (ht : t0 < k) : ∃ i0, i0 < k ∧ mnu i0 = nu t0 ∧ ∀ (nu' f' l' v' mnu' mp' ml' mv' : Nat → Int32), (∀ t, t < k - 1 → nu' t = (if t = t0 then nu (k - 1) else nu t) ∧ f' t = (if t = t0 then f (k - 1) else f t) ∧ l' t = (if t = t0 then l (k - 1) else l t) ∧ v' t = (if t = t0 then v (k - 1) else v t)) → (∀ t, t < k - 1 → mnu' t = (if t < i0 then mnu t else mnu (t + 1)) ∧ mp' t = (if t < i0 then mp t else mp (t + 1)) ∧ ml' t = (if t < i0 then ml t else ml (t + 1)) ∧ mv' t = (if t < i0 then mv t else mv (t + 1))) → RR (nI (k - 1)) nu' f' l' v' mnu' mp' ml' mv' := by
  obtain ⟨k', k1, k2, ⟨a, b, h1, h2⟩, h3, h4⟩ := h
  have e : k' = k := (nI_eq (by omega) (by omega)).mp k2.symm
  subst e
  obtain ⟨y1, y2, y3, y4⟩ := h1 t0 ht
  refine ⟨b t0, y2, by rw [← (h2 (b t0) y2).1, y3], fun nu' f' l' v' mnu' mp' ml' mv' hc hm => ?_⟩
  let sk : Nat → Nat := fun j => if j < b t0 then j else j + 1
  let us : Nat → Nat := fun j => if j < b t0 then j else j - 1
  have skm : ∀ (g : Nat → Int32) t, (if t < b t0 then g t else g (t + 1)) = g (sk t) := fun g t => by
    show _ = g (if t < b t0 then t else t + 1)
    by_cases w : t < b t0
    · rw [if_pos w, if_pos w]
    · rw [if_neg w, if_neg w]
  have sk1 : ∀ t, t < k' - 1 → sk t < k' ∧ sk t ≠ b t0 ∧ us (sk t) = t := by
    intro t h
    show (if t < b t0 then t else t + 1) < k' ∧ (if t < b t0 then t else t + 1) ≠ b t0 ∧ (if (if t < b t0 then t else t + 1) < b t0 then (if t < b t0 then t else t + 1) else (if t < b t0 then t else t + 1) - 1) = t
    by_cases w : t < b t0
    · rw [if_pos w, if_pos w]; omega
    · rw [if_neg w, if_neg (by omega)]; omega
  have us1 : ∀ t, t < k' → t ≠ b t0 → us t < k' - 1 ∧ sk (us t) = t := by
    intro t h hne
    show (if t < b t0 then t else t - 1) < k' - 1 ∧ (if (if t < b t0 then t else t - 1) < b t0 then (if t < b t0 then t else t - 1) else (if t < b t0 then t else t - 1) + 1) = t
    by_cases w : t < b t0
    · rw [if_pos w, if_pos w]; omega
    · rw [if_neg w, if_neg (by omega)]; omega
  let a' : Nat → Nat := fun j => if a (sk j) = k' - 1 then t0 else a (sk j)
  let b' : Nat → Nat := fun t => us (b (if t = t0 then k' - 1 else t))
  have as : ∀ j, j < k' - 1 → a (sk j) < k' ∧ a (sk j) ≠ t0 ∧ b (a (sk j)) = sk j := by
    intro j hj
    obtain ⟨s1, s2, s3⟩ := sk1 j hj
    obtain ⟨z1, z2, z3, z4⟩ := h1 (sk j) s1
    refine ⟨z1, fun w => s2 ?_, z4⟩
    rw [← z4, w]
  have bs : ∀ t, t < k' - 1 → (if t = t0 then k' - 1 else t) < k' ∧ b (if t = t0 then k' - 1 else t) < k' ∧ b (if t = t0 then k' - 1 else t) ≠ b t0 ∧ a (b (if t = t0 then k' - 1 else t)) = (if t = t0 then k' - 1 else t) := by
    intro t h
    have u1 : (if t = t0 then k' - 1 else t) < k' ∧ (if t = t0 then k' - 1 else t) ≠ t0 := by
      by_cases w : t = t0
      · rw [if_pos w]; omega
      · rw [if_neg w]; omega
    obtain ⟨z1, z2, z3, z4⟩ := h1 _ u1.1
    refine ⟨u1.1, z2, fun w => u1.2 ?_, z3⟩
    rw [← z3, w, y3]
  have val : ∀ (g g' q q' : Nat → Int32), (∀ i, i < k' → g (a i) = q i) → (∀ t, t < k' - 1 → g' t = if t = t0 then g (k' - 1) else g t) → (∀ t, t < k' - 1 → q' t = if t < b t0 then q t else q (t + 1)) → ∀ j, j < k' - 1 → g' (a' j) = q' j := by
    intro g g' q q' hg hg' hq' j hj
    obtain ⟨s1, s2, s3⟩ := sk1 j hj
    obtain ⟨z1, z2, z3⟩ := as j hj
    rw [hq' j hj, skm q j, ← hg (sk j) s1]
    show g' (if a (sk j) = k' - 1 then t0 else a (sk j)) = _
    by_cases w : a (sk j) = k' - 1
    · rw [if_pos w, hg' t0 (by omega), if_pos rfl, w]
    · rw [if_neg w, hg' _ (by omega), if_neg z2]
  refine ⟨k' - 1, by omega, rfl, ⟨a', b', fun i hi => ⟨?_, ?_, ?_, ?_⟩, fun i hi => ⟨?_, ?_, ?_, ?_⟩⟩, fun i hi => ?_, fun i j hi hj => ?_⟩
  · obtain ⟨z1, z2, z3⟩ := as i hi
    show (if a (sk i) = k' - 1 then t0 else a (sk i)) < k' - 1
    by_cases w : a (sk i) = k' - 1
    · rw [if_pos w]; omega
    · rw [if_neg w]; omega
  · obtain ⟨z0, z1, z2, z3⟩ := bs i hi
    exact (us1 _ z1 z2).1
  · obtain ⟨z0, z1, z2, z3⟩ := bs i hi
    show (if a (sk (us (b (if i = t0 then k' - 1 else i)))) = k' - 1 then t0 else a (sk (us (b (if i = t0 then k' - 1 else i))))) = i
    rw [(us1 _ z1 z2).2, z3]
    by_cases w : i = t0
    · rw [if_pos w, if_pos rfl, w]
    · rw [if_neg w, if_neg (by omega)]
  · obtain ⟨z1, z2, z3⟩ := as i hi
    show us (b (if (if a (sk i) = k' - 1 then t0 else a (sk i)) = t0 then k' - 1 else (if a (sk i) = k' - 1 then t0 else a (sk i)))) = i
    by_cases w : a (sk i) = k' - 1
    · rw [if_pos w, if_pos rfl, ← w, z3]; exact (sk1 i hi).2.2
    · rw [if_neg w, if_neg z2, z3]; exact (sk1 i hi).2.2
  · exact val nu nu' mnu mnu' (fun i hi => (h2 i hi).1) (fun t h => (hc t h).1) (fun t h => (hm t h).1) i hi
  · exact val f f' mp mp' (fun i hi => (h2 i hi).2.1) (fun t h => (hc t h).2.1) (fun t h => (hm t h).2.1) i hi
  · have := val l l' (fun i => mp i + ml i - 1) (fun i => mp' i + ml' i - 1) (fun i hi => (h2 i hi).2.2.1) (fun t h => (hc t h).2.2.1) (fun t h => by
      show mp' t + ml' t - 1 = _
      rw [(hm t h).2.1, (hm t h).2.2.1]
      by_cases w : t < b t0
      · rw [if_pos w, if_pos w, if_pos w]
      · rw [if_neg w, if_neg w, if_neg w]) i hi
    exact this
  · exact val v v' mv mv' (fun i hi => (h2 i hi).2.2.2) (fun t h => (hc t h).2.2.2) (fun t h => (hm t h).2.2.2) i hi
  · obtain ⟨g1, g2, g3, g4⟩ := hm i hi
    rw [g2, g3, g4, skm mp, skm ml, skm mv]
    exact h3 (sk i) (sk1 i hi).1
  · rw [(hm i hi).1, (hm j hj).1, skm mnu, skm mnu]
    obtain ⟨w1, w2⟩ := h4 (sk i) (sk j) (sk1 i hi).1 (sk1 j hj).1
    refine ⟨w1, fun w => ?_⟩
    have := w2 w
    rw [← (sk1 i hi).2.2, this]
    exact (sk1 j hj).2.2
theorem RR.add {k : Nat} {nu f l v mnu mp ml mv nu' f' l' v' mnu' mp' ml' mv' : Nat → Int32} {X P L V : Int32} (h : RR (nI k) nu f l v mnu mp ml mv) (hk : k < 6) (hX : ∀ i, i < k → mnu i ≠ X) (x0 : 0 ≤ X.toInt) (hP : x_bd P 0 327670) (hL : x_bd L 1 327670) (hV : x_bd V 0 600)
    (hc : ∀ t, t < k + 1 → nu' t = (if t = k then X else nu t) ∧ f' t = (if t = k then P else f t) ∧ l' t = (if t = k then P + L - 1 else l t) ∧ v' t = (if t = k then V else v t)) (hm : ∀ t, t < k + 1 → mnu' t = (if t = k then X else mnu t) ∧ mp' t = (if t = k then P else mp t) ∧ ml' t = (if t = k then L else ml t) ∧ mv' t = (if t = k then V else mv t)) : RR (nI (k + 1)) nu' f' l' v' mnu' mp' ml' mv' := by
  obtain ⟨k', k1, k2, ⟨a, b, h1, h2⟩, h3, h4⟩ := h
  have e : k' = k := (nI_eq (by omega) (by omega)).mp k2.symm
  subst e
  refine ⟨k' + 1, by omega, rfl, ⟨fun i => if i = k' then k' else a i, fun i => if i = k' then k' else b i, fun i hi => ?_, fun i hi => ?_⟩, fun i hi => ?_, fun i j hi hj => ?_⟩
  · by_cases w : i = k'
    · simp [w]
    · obtain ⟨z1, z2, z3, z4⟩ := h1 i (by omega)
      simp only [if_neg w]
      rw [if_neg (show ¬ b i = k' by omega), if_neg (show ¬ a i = k' by omega)]
      exact ⟨by omega, by omega, z3, z4⟩
  · by_cases w : i = k'
    · simp only [if_pos w]
      obtain ⟨g1, g2, g3, g4⟩ := hc k' (by omega)
      obtain ⟨q1, q2, q3, q4⟩ := hm i hi
      rw [g1, g2, g3, g4, q1, q2, q3, q4, if_pos rfl, if_pos rfl, if_pos rfl, if_pos rfl, if_pos w, if_pos w, if_pos w, if_pos w]
      exact ⟨rfl, rfl, rfl, rfl⟩
    · simp only [if_neg w]
      obtain ⟨z1, z2, z3, z4⟩ := h1 i (by omega)
      obtain ⟨g1, g2, g3, g4⟩ := hc (a i) (by omega)
      obtain ⟨q1, q2, q3, q4⟩ := hm i hi
      have wa : ¬ a i = k' := by omega
      rw [g1, g2, g3, g4, q1, q2, q3, q4, if_neg wa, if_neg wa, if_neg wa, if_neg wa, if_neg w, if_neg w, if_neg w, if_neg w]
      exact h2 i (by omega)
  · obtain ⟨q1, q2, q3, q4⟩ := hm i hi
    rw [q2, q3, q4]
    by_cases w : i = k'
    · rw [if_pos w, if_pos w, if_pos w]
      exact ⟨hP.1, hP.2, hL.1, hL.2, hV.1, hV.2⟩
    · rw [if_neg w, if_neg w, if_neg w]
      exact h3 i (by omega)
  · rw [(hm i hi).1, (hm j hj).1]
    by_cases w : i = k'
    · rw [if_pos w]
      refine ⟨x0, fun y => ?_⟩
      by_cases w' : j = k'
      · omega
      · rw [if_neg w'] at y
        exact absurd y.symm (hX j (by omega))
    · rw [if_neg w]
      refine ⟨(h4 i i (by omega) (by omega)).1, fun y => ?_⟩
      by_cases w' : j = k'
      · rw [if_pos w'] at y
        exact absurd y (hX i (by omega))
      · rw [if_neg w'] at y
        exact (h4 i j (by omega) (by omega)).2 y
def mvS (m : x_S) (w i : Nat) : x_S := x_up (x_up (x_up (x_up m 55 w (m 55 i)) 56 w (m 56 i)) 57 w (m 57 i)) 58 w (m 58 i)
theorem mvS_c {m : x_S} {w i q t : Nat} : mvS m w i q t = if 55 ≤ q ∧ q ≤ 58 ∧ t = w then m q i else m q t := by
  unfold mvS
  simp only [x_upc]
  by_cases h : 55 ≤ q ∧ q ≤ 58 ∧ t = w
  · rw [if_pos h]
    obtain ⟨h1, h2, h3⟩ := h
    have : q = 55 ∨ q = 56 ∨ q = 57 ∨ q = 58 := by omega
    rcases this with rfl | rfl | rfl | rfl <;> simp [h3]
  · rw [if_neg h, if_neg (by omega), if_neg (by omega), if_neg (by omega), if_neg (by omega)]
theorem drop_step {n w i k : Nat} {m : x_S} {x : Int32} (hk : k ≤ 6) (hm : m 46 24 = nI k) (hi : i < k) (hw : w ≤ i) : F_Mod_drop_4 (n + 1) x (nI w) (nI i) m = F_Mod_drop_4 n x (if m 55 i = x then nI w else nI (w + 1)) (nI (i + 1)) (mvS m w i) := by
  rw [F_Mod_drop_4, hm, if_neg (nI_ge hi (by omega)), x_ix_nI (by omega) (by omega), x_ix_nI (by omega) (by omega)]
  unfold F_Mod_drop_24
  rw [x_ix_nI (by omega) (by omega), x_ix_nI (by omega) (by omega)]
  unfold F_Mod_drop_36
  rw [x_ix_nI (by omega) (by omega), x_ix_nI (by omega) (by omega)]
  unfold F_Mod_drop_48
  rw [x_ix_nI (by omega) (by omega), x_ix_nI (by omega) (by omega)]
  unfold F_Mod_drop_60
  rw [x_ix_nI (by omega) (by omega)]
  unfold F_Mod_drop_76
  have e : x_up (x_up (x_up (x_up m 55 w (m 55 i)) 56 w ((x_up m 55 w (m 55 i)) 56 i)) 57 w ((x_up (x_up m 55 w (m 55 i)) 56 w ((x_up m 55 w (m 55 i)) 56 i)) 57 i)) 58 w ((x_up (x_up (x_up m 55 w (m 55 i)) 56 w ((x_up m 55 w (m 55 i)) 56 i)) 57 w ((x_up (x_up m 55 w (m 55 i)) 56 w ((x_up m 55 w (m 55 i)) 56 i)) 57 i)) 58 i) = mvS m w i := by
    unfold mvS
    simp only [x_up_ne (show (56 : Nat) ≠ 55 by decide), x_up_ne (show (57 : Nat) ≠ 55 by decide), x_up_ne (show (57 : Nat) ≠ 56 by decide), x_up_ne (show (58 : Nat) ≠ 55 by decide), x_up_ne (show (58 : Nat) ≠ 56 by decide), x_up_ne (show (58 : Nat) ≠ 57 by decide)]
  rw [e]
  have e2 : mvS m w i 55 i = m 55 i := by
    rw [mvS_c]
    by_cases y : i = w
    · rw [if_pos (by omega)]
    · rw [if_neg (by omega)]
  rw [e2, nI_1, nI_1, Int32.add_zero]
  by_cases y : m 55 i = x
  · rw [if_pos y, if_pos y]
  · rw [if_neg y, if_neg y]
theorem drop_end {n w k : Nat} {m : x_S} {x : Int32} (hk : k ≤ 6) (hm : m 46 24 = nI k) : F_Mod_drop_4 (n + 1) x (nI w) (nI k) m = some (0, x_up m 46 24 (nI w)) := by
  rw [F_Mod_drop_4, hm, if_pos (nI_le (Nat.le_refl _) (by omega))]
  rfl
theorem mvS_self {m : x_S} {i : Nat} : mvS m i i = m := by
  funext q t
  rw [mvS_c]
  by_cases h : 55 ≤ q ∧ q ≤ 58 ∧ t = i
  · rw [if_pos h, h.2.2]
  · rw [if_neg h]
/-- behind the one that goes -/
theorem drop_B {k i0 : Nat} {x : Int32} {m : x_S} (hk : k ≤ 6) : ∀ (j i n : Nat) (m' : x_S), i + j = k → j < n → i0 < i → (∀ q t, m' q t = if 55 ≤ q ∧ q ≤ 58 ∧ i0 ≤ t ∧ t + 1 < i then m q (t + 1) else m q t) → m 46 24 = nI k → (∀ t, i ≤ t → t < k → m 55 t ≠ x) → ∃ m'', F_Mod_drop_4 n x (nI (i - 1)) (nI i) m' = some (0, m'') ∧ (∀ q t, 55 ≤ q → q ≤ 58 → m'' q t = if i0 ≤ t ∧ t + 1 < k then m q (t + 1) else m q t) ∧ m'' 46 24 = nI (k - 1) ∧ Fr (fun q j => (55 ≤ q ∧ q ≤ 58) ∨ (q = 46 ∧ j = 24)) m m'' := by
  intro j
  induction j with
  | zero =>
    intro i n m' h hn hi hm' h24 hx
    obtain ⟨n, rfl⟩ : ∃ q, n = q + 1 := ⟨n - 1, by omega⟩
    have e : i = k := by omega
    subst e
    have h24' : m' 46 24 = nI i := by rw [hm', if_neg (by omega)]; exact h24
    refine ⟨_, drop_end hk h24', fun q t q1 q2 => ?_, by simp [x_upc], fun q j hj => ?_⟩
    · rw [x_upc, if_neg (by omega), hm']
      by_cases w : i0 ≤ t ∧ t + 1 < i
      · rw [if_pos w, if_pos ⟨q1, q2, w⟩]
      · rw [if_neg w, if_neg (fun y => w y.2.2)]
    · rw [x_upc, if_neg (fun y => hj (Or.inr y)), hm', if_neg (fun y => hj (Or.inl ⟨y.1, y.2.1⟩))]
  | succ j ih =>
    intro i n m' h hn hi hm' h24 hx
    obtain ⟨n, rfl⟩ : ∃ q, n = q + 1 := ⟨n - 1, by omega⟩
    have h24' : m' 46 24 = nI k := by rw [hm', if_neg (by omega)]; exact h24
    have hxi : m' 55 i ≠ x := by rw [hm', if_neg (by omega)]; exact hx i (Nat.le_refl _) (by omega)
    rw [drop_step hk h24' (by omega) (by omega), if_neg hxi, show i - 1 + 1 = i + 1 - 1 by omega]
    refine ih (i + 1) n _ (by omega) (by omega) (by omega) (fun q t => ?_) h24 (fun t t1 t2 => hx t (by omega) t2)
    rw [mvS_c]
    by_cases w : 55 ≤ q ∧ q ≤ 58 ∧ t = i - 1
    · rw [if_pos w, if_pos (by omega), hm', if_neg (by omega), show t + 1 = i by omega]
    · rw [if_neg w, hm']
      by_cases w2 : 55 ≤ q ∧ q ≤ 58 ∧ i0 ≤ t ∧ t + 1 < i
      · rw [if_pos w2, if_pos (by omega)]
      · rw [if_neg w2, if_neg (by omega)]
/-- up to the one that goes, and all of it -/
theorem drop_A {k : Nat} {x : Int32} {m : x_S} (hk : k ≤ 6) (h24 : m 46 24 = nI k) (hd : ∀ i j, i < k → j < k → m 55 i = x → m 55 j = x → i = j) : ∀ (j i n : Nat), i + j = k → j < n → (∀ t, t < i → m 55 t ≠ x) → (∃ m'', F_Mod_drop_4 n x (nI i) (nI i) m = some (0, m'') ∧ m'' = m ∧ ∀ t, t < k → m 55 t ≠ x) ∨ ∃ i0 m'', i0 < k ∧ m 55 i0 = x ∧ F_Mod_drop_4 n x (nI i) (nI i) m = some (0, m'') ∧ (∀ q t, 55 ≤ q → q ≤ 58 → m'' q t = if i0 ≤ t ∧ t + 1 < k then m q (t + 1) else m q t) ∧ m'' 46 24 = nI (k - 1) ∧ Fr (fun q j => (55 ≤ q ∧ q ≤ 58) ∨ (q = 46 ∧ j = 24)) m m'' := by
  intro j
  induction j with
  | zero =>
    intro i n h hn hx
    obtain ⟨n, rfl⟩ : ∃ q, n = q + 1 := ⟨n - 1, by omega⟩
    have e : i = k := by omega
    subst e
    exact Or.inl ⟨_, drop_end hk h24, x_up_same h24, hx⟩
  | succ j ih =>
    intro i n h hn hx
    obtain ⟨n, rfl⟩ : ∃ q, n = q + 1 := ⟨n - 1, by omega⟩
    rw [drop_step hk h24 (by omega) (Nat.le_refl _), mvS_self]
    by_cases w : m 55 i = x
    · rw [if_pos w]
      obtain ⟨m'', g1, g2, g3, g4⟩ := drop_B (k := k) (i0 := i) (x := x) (m := m) hk j (i + 1) n m (by omega) (by omega) (by omega) (fun q t => by rw [if_neg (by omega)]) h24 (fun t t1 t2 y => by have := hd t i t2 (by omega) y w; omega)
      exact Or.inr ⟨i, m'', by omega, w, g1, g2, g3, g4⟩
    · rw [if_neg w]
      exact ih (i + 1) n (by omega) (by omega) (fun t ht => by
        by_cases e : t = i
        · rw [e]; exact w
        · exact hx t (by omega))
