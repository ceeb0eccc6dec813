/-! EV: what a frame of ours comes to, in words of places. A place is a number: 0, 1, 2 .. the cells that the law makes, in their order; 1000 the script; 1001 the row of ids. A heap: ints by place and slot, references by place and slot, what each place is. -/
abbrev x_H : Type := (Nat → Nat → Int32) × (Nat → Nat → Option Nat) × List (Nat ⊕ (Nat × Nat))
abbrev x_E : Type := va_G × (Nat × Nat × Nat) × (ClassId × ClassId × ClassId) × Nat × (Nat → Int32)
def x_ids (j : Nat) : Int32 := match j with | 0 => 5 | 1 => 15 | 2 => 21 | 3 => 27 | 4 => 65 | _ => 66
def x_A (E : x_E) : Nat → Prop := fun q => E.2.1.1 ≤ q
def x_ad (E : x_E) (p : Nat) : Nat := if p < 1000 then E.2.1.1 + p else if p = 1000 then E.2.1.2.1 else E.2.1.2.2
def x_cv (E : x_E) (v : Value) : Value := match v with
  | .ref p => .ref (x_ad E p)
  | w => w
def x_tys (E : x_E) : List (ClassId × FieldType) := [(E.2.2.1.1, .int), (E.2.2.1.2.1, .byte), (E.2.2.1.2.2, .boolean)]
def x_ca (E : x_E) (ty : Nat) : ClassId := match ty with | 0 => E.2.2.1.1 | 1 => E.2.2.1.2.1 | _ => E.2.2.1.2.2
def x_nf (ci : Nat) : Nat := match x_cls[ci]? with | some q => q.2.2 | none => 0
def x_fv (E : x_E) (h : x_H) (ci p k : Nat) : Value := if x_isR ci k = true then va_rf ((h.2.1 p k).map (x_ad E)) else .int (h.1 p k)
def x_cell (E : x_E) (h : x_H) (p : Nat) : va_E := match h.2.2[p]? with
  | some (.inl ci) => .inr (ci, (List.range (x_nf ci)).map (x_fv E h ci p))
  | some (.inr a) => .inl (x_ca E a.1, a.2, .inl (h.1 p))
  | none => .inr (0, [])
def x_ws (E : x_E) (h : x_H) : va_W := (List.range h.2.2.length).map (fun p => (E.2.1.1 + p, x_cell E h p))
/-- what lies outside the world, and is only read -/
def x_O (E : x_E) (U : State) (H : Heap) : Prop := (∀ w ∈ x_N, va_Nw w U) ∧ va_Z "TrainGuard$Message" "IDS" "[I" (.ref E.2.1.2.2) (x_A E) U H ∧ va_T .int E.2.1.2.2 6 (fun j => .int (x_ids j)) (x_A E) U H ∧ va_X E.2.1.2.1 E.2.2.2.1 E.2.2.2.2 U H ∧ E.2.1.2.1 < E.2.1.1 ∧ E.2.1.1 ≤ H.size
def x_F (E : x_E) (h : x_H) (s : State) (H : Heap) (locs : List Loc) : Prop := va_K E.1 x_cls (x_tys E) s ∧ va_P E.1 x_cls (x_ws E h) H ∧ H.size = E.2.1.1 + h.2.2.length ∧ va_S (x_A E) s.heap H locs
def x_C (E : x_E) (M : x_M) (p : Program) (s : State) (mid : MethodId) (args : Array Value) (meth : Method) (c : Code) (R : Room) : Prop :=
  p.tables.exec = Jvm.exec ∧ c.code = M.2.1 ∧ c.maxLocals = M.2.2.1 ∧ s.vm.findClass M.1.cls = some mid.cls ∧ (∀ w ∈ x_W, w.before args s = true) ∧ (M.1.name = "<init>" → meth.name = "<init>") ∧ M.2.2.2.2.1 ≤ R.frames ∧ M.2.2.2.2.2 ≤ R.locals ∧ x_O E s s.heap
def x_lv (E : x_E) (L : List (Option Value)) : List (Nat × Value) := L.zipIdx.filterMap (fun q => q.1.map (fun v => (q.2, x_cv E v)))
def x_L (E : x_E) (n : Nat) (L : List (Option Value)) (ls : Array Slot) : Prop := lv_has ls n (x_lv E L) ∧ ∀ (i : Nat) (v : Value), L[i]? = some (some v) → v.category = 1
def x_ret (M : x_M) (r : Int32) (pc : Nat) (st : List Value) : Prop :=
  (M.2.2.2.1 = none ∧ r = 0 ∧ st = [] ∧ decode M.2.1 pc = .ok (.return_, 1)) ∨ (st = [.int r] ∧ decode M.2.1 pc = .ok (.ireturn, 1) ∧ (M.2.2.2.1 = some .int ∨ (M.2.2.2.1 = some .boolean ∧ (r = 0 ∨ r = 1))))
/-- from pc with these locals, this stack and this heap the method comes to a return with Q; a cells and b slots may still be made -/
def Ev (E : x_E) (M : x_M) (a b pc : Nat) (L : List (Option Value)) (st : List Value) (h : x_H) (Q : Int32 → x_H → Prop) : Prop :=
  ∀ (p : Program) (l : Launch) (e : Env) (R : Room) (s : State) (mid : MethodId) (args : Array Value) (below : List Frame) (meth : Method) (c : Code) (H : Heap) (locs : List Loc) (cells slots : Nat) (ls : Array Slot) (QQ : State → Prop),
    x_C E M p s mid args meth c R → x_F E h s H locs → cells + a ≤ R.cells → slots + b ≤ R.slots → x_L E M.2.2.1 L ls →
    (∀ (r : Int32) (h' : x_H) (H' : Heap) (locs' : List Loc) (cells' slots' pc' : Nat) (ls' : Array Slot) (st' : List Value), Q r h' → x_F E h' s H' locs' → cells' ≤ R.cells → slots' ≤ R.slots → x_ret M r pc' st' →
      W p l e R s mid args below meth c H' locs' cells' slots' QQ (F0 mid pc' ls' st')) →
    W p l e R s mid args below meth c H locs cells slots QQ (F0 mid pc ls (st.map (x_cv E)))
def x_wsM (M : x_M) : List Cond := Cond.code M.1 M.2.1 M.2.2.1 M.2.2.2.1 :: x_W
def x_rm (M : x_M) (a b : Nat) : Room := { frames := M.2.2.2.2.1, cells := a, slots := b, locals := M.2.2.2.2.2 }
def x_D (E : x_E) (h : x_H) (U : State) : Prop := va_K E.1 x_cls (x_tys E) U ∧ va_P E.1 x_cls (x_ws E h) U.heap ∧ U.heap.size = E.2.1.1 + h.2.2.length ∧ x_O E U U.heap
def x_Q (E : x_E) (M : x_M) (Q : Int32 → x_H → Prop) : Array Value → State → Outcome → State → Prop := match M.2.2.2.1 with
  | none => va_Qv (fun h' : x_H => Q 0 h') (fun h' t => x_D E h' t) (x_A E)
  | some _ => va_Qi (fun (r : Int32) (h' : x_H) => Q r h') (fun h' t => x_D E h' t) (x_A E)
/-- the method, called with these arguments at this heap, comes back with Q; it makes at most a cells of b slots -/
def Call (E : x_E) (M : x_M) (a b : Nat) (args : List Value) (h : x_H) (Q : Int32 → x_H → Prop) : Prop :=
  ∀ (l : Launch), Met l M.1 (x_wsM M) (x_rm M a b) (va_Pc (args.map (x_cv E)) (fun U => x_D E h U)) (x_Q E M Q) a b (x_A E)

/-! the world's rows -/
theorem x_ws_get (E : x_E) (h : x_H) {P : Nat} (hP : P < h.2.2.length) : (x_ws E h)[P]? = some (E.2.1.1 + P, x_cell E h P) := by
  unfold x_ws
  rw [List.getElem?_map, List.getElem?_range hP]
  rfl
theorem x_ws_D (E : x_E) (h : x_H) : va_D (x_A E) (x_ws E h) := by
  have key : ∀ (k : Nat) (q : Nat × va_E), (x_ws E h)[k]? = some q → q.1 = E.2.1.1 + k := by
    intro k q hk
    have hl : k < h.2.2.length := by
      have := (List.getElem?_eq_some_iff.mp hk).1
      simpa [x_ws] using this
    rw [x_ws_get E h hl] at hk
    cases hk
    rfl
  refine ⟨fun i j x y hi hj hxy => ?_, fun k q hk => ?_⟩
  · have h1 := key i x hi
    have h2 := key j y hj
    omega
  · show E.2.1.1 ≤ q.1
    have h1 := key k q hk
    omega
theorem x_sh_lt {h : x_H} {P : Nat} {z : Nat ⊕ (Nat × Nat)} (hs : h.2.2[P]? = some z) : P < h.2.2.length := (List.getElem?_eq_some_iff.mp hs).1
theorem x_ws_obj (E : x_E) (h : x_H) {P ci : Nat} (hs : h.2.2[P]? = some (.inl ci)) : (x_ws E h)[P]? = some (E.2.1.1 + P, .inr (ci, (List.range (x_nf ci)).map (x_fv E h ci P))) := by
  rw [x_ws_get E h (x_sh_lt hs)]
  unfold x_cell
  rw [hs]
theorem x_ws_arr (E : x_E) (h : x_H) {P n ty : Nat} (hs : h.2.2[P]? = some (.inr (ty, n))) : (x_ws E h)[P]? = some (E.2.1.1 + P, .inl (x_ca E ty, n, .inl (h.1 P))) := by
  rw [x_ws_get E h (x_sh_lt hs)]
  unfold x_cell
  rw [hs]
theorem x_ad_lt (E : x_E) {P : Nat} (hP : P < 1000) : x_ad E P = E.2.1.1 + P := if_pos hP
/-- ints written -/
def x_up (f : Nat → Nat → Int32) (P k : Nat) (x : Int32) : Nat → Nat → Int32 := fun p j => if p = P ∧ j = k then x else f p j
def x_upR (f : Nat → Nat → Option Nat) (P k : Nat) (q : Nat) : Nat → Nat → Option Nat := fun p j => if p = P ∧ j = k then some q else f p j
theorem x_range_set {α : Type} (n k : Nat) (f : Nat → α) (v : α) : ((List.range n).map f).set k v = (List.range n).map (fun j => if j = k then v else f j) := by
  apply List.ext_getElem?
  intro i
  rw [List.getElem?_set]
  by_cases hi : i < n
  · rw [List.getElem?_map, List.getElem?_map, List.getElem?_range hi]
    by_cases hk : k = i
    · subst hk
      simp [hi]
    · simp [hk, Ne.symm hk]
  · have e1 : (List.range n)[i]? = none := List.getElem?_eq_none (by simpa using hi)
    rw [List.getElem?_map, List.getElem?_map, e1]
    by_cases hk : k = i
    · subst hk
      simp [hi]
    · simp [hk]
theorem x_ws_seti (E : x_E) (h : x_H) {P ci k : Nat} (x : Int32) (hs : h.2.2[P]? = some (.inl ci)) (hr : x_isR ci k = false) :
    (x_ws E h).set P (E.2.1.1 + P, .inr (ci, ((List.range (x_nf ci)).map (x_fv E h ci P)).set k (.int x))) = x_ws E (x_up h.1 P k x, h.2.1, h.2.2) := by
  unfold x_ws
  rw [x_range_set]
  apply List.map_congr_left
  intro p hp
  by_cases e : p = P
  · subst e
    rw [if_pos rfl]
    unfold x_cell
    simp only [hs]
    rw [x_range_set]
    congr 3
    apply List.map_congr_left
    intro j _
    by_cases ej : j = k
    · subst ej
      simp [x_fv, hr, x_up]
    · simp [x_fv, x_up, ej]
  · rw [if_neg e]
    congr 1
    have e2 : x_up h.1 P k x p = h.1 p := by funext j; simp [x_up, e]
    unfold x_cell x_fv
    simp only [e2]
theorem x_ws_setr (E : x_E) (h : x_H) {P ci k : Nat} (q : Nat) (hs : h.2.2[P]? = some (.inl ci)) (hr : x_isR ci k = true) :
    (x_ws E h).set P (E.2.1.1 + P, .inr (ci, ((List.range (x_nf ci)).map (x_fv E h ci P)).set k (.ref (x_ad E q)))) = x_ws E (h.1, x_upR h.2.1 P k q, h.2.2) := by
  unfold x_ws
  rw [x_range_set]
  apply List.map_congr_left
  intro p hp
  by_cases e : p = P
  · subst e
    rw [if_pos rfl]
    unfold x_cell
    simp only [hs]
    rw [x_range_set]
    congr 3
    apply List.map_congr_left
    intro j _
    by_cases ej : j = k
    · subst ej
      simp [x_fv, hr, x_upR, va_rf]
    · simp [x_fv, x_upR, ej]
  · rw [if_neg e]
    congr 1
    have e2 : ∀ j, x_upR h.2.1 P k q p j = h.2.1 p j := by intro j; simp [x_upR, e]
    unfold x_cell x_fv
    simp only [e2]
theorem x_ws_seta (E : x_E) (h : x_H) {P n ty k : Nat} (x : Int32) (hs : h.2.2[P]? = some (.inr (ty, n))) :
    (x_ws E h).set P (E.2.1.1 + P, .inl (x_ca E ty, n, .inl (upd (h.1 P) k x))) = x_ws E (x_up h.1 P k x, h.2.1, h.2.2) := by
  unfold x_ws
  rw [x_range_set]
  apply List.map_congr_left
  intro p hp
  by_cases e : p = P
  · subst e
    rw [if_pos rfl]
    unfold x_cell
    simp only [hs]
    congr 4
    refine congrArg Sum.inl (funext fun j => ?_)
    simp [upd, x_up]
  · rw [if_neg e]
    congr 1
    have e2 : x_up h.1 P k x p = h.1 p := by funext j; simp [x_up, e]
    unfold x_cell x_fv
    simp only [e2]
theorem x_ws_push (E : x_E) (h : x_H) (z : Nat ⊕ (Nat × Nat)) : x_ws E (h.1, h.2.1, h.2.2 ++ [z]) = x_ws E h ++ [(E.2.1.1 + h.2.2.length, x_cell E (h.1, h.2.1, h.2.2 ++ [z]) h.2.2.length)] := by
  unfold x_ws
  simp only [List.length_append, List.length_singleton]
  rw [List.range_succ, List.map_append]
  congr 1
  apply List.map_congr_left
  intro p hp
  have hp' : p < h.2.2.length := List.mem_range.mp hp
  congr 1
  unfold x_cell x_fv
  simp only [List.getElem?_append_left hp']
/-! the words -/
theorem x_good {ws : List Cond} (h : ∀ w ∈ ws, w ∈ x_W) : GoodIn x_W ws := fun w hw => ⟨h w hw, good_of_word (List.mem_filter.mp (h w hw)).2⟩
theorem x_isN_on {w : Cond} (h : x_isN w = true) : w.onTables = true := by
  cases w <;> first | (simp [x_isN] at h; done) | rfl
theorem x_N_warm {w : Cond} (hw : w ∈ x_N) {s U : State} (hW : s.WarmedH U.vm) (hZ : va_Nw w s) : va_Nw w U := by
  have h := (List.mem_filter.mp hw).2
  cases w <;> first | (simp [x_isN] at h; done) | exact va_Nw.warmF hW hZ | exact va_Nw.warmM hW hZ
theorem x_N_use {w : Cond} (hw : w ∈ x_N) {A : Array Value} {U : State} (h : va_Nw w U) : w.before A U = true := va_Nw.use (x_isN_on (List.mem_filter.mp hw).2) h
/-- what lies outside, later -/
theorem x_O.to {E : x_E} {s U : State} {H : Heap} {locs : List Loc} (h : x_O E s s.heap) (hS : va_S (x_A E) s.heap H locs) (hW : s.WarmedH U.vm) : x_O E U H := by
  obtain ⟨h1, h2, h3, h4, h5, h6⟩ := h
  have nb : ¬ x_A E E.2.1.2.1 := fun z => by
    have z' : E.2.1.1 ≤ E.2.1.2.1 := z
    omega
  exact ⟨fun w hw => x_N_warm hw hW (h1 w hw), va_Z.moved hW.alike (h2.kept hS.2.1), va_T.moved hW.alike (h3.kept hS.2.1), va_X.moved hW.alike (h4.kept (hS.2.1 _ (by omega) nb)), h5, Nat.le_trans h6 hS.1⟩
theorem x_O.calling {E : x_E} {U : State} {g : JFrame} {mk : MethodId} {a : Array Value} (h : x_O E U U.heap) : x_O E (U.calling g mk a) (U.calling g mk a).heap := by
  obtain ⟨h1, h2, h3, h4, h5, h6⟩ := h
  exact ⟨fun w hw => va_Nw.same (u := U) (U := U.calling g mk a) (x_isN_on (List.mem_filter.mp hw).2) rfl (h1 w hw), va_Z.moved (u := U) (Vm.Alike.refl U.vm) h2, va_T.moved (u := U) (Vm.Alike.refl U.vm) h3, va_X.moved (u := U) (Vm.Alike.refl U.vm) h4, h5, h6⟩
theorem x_D.calling {E : x_E} {h : x_H} {U : State} {g : JFrame} {mk : MethodId} {a : Array Value} (hD : x_D E h U) : x_D E h (U.calling g mk a) :=
  ⟨va_K.moved (u := U) (U := U.calling g mk a) (Vm.Alike.refl U.vm) hD.1, hD.2.1, hD.2.2.1, hD.2.2.2.calling⟩
/-! the locals -/
theorem x_lv_mem {E : x_E} {L : List (Option Value)} {i : Nat} {w : Value} : (i, w) ∈ x_lv E L ↔ ∃ v, L[i]? = some (some v) ∧ x_cv E v = w := by
  unfold x_lv
  rw [List.mem_filterMap]
  constructor
  · rintro ⟨⟨o, j⟩, hm, he⟩
    cases o with
    | none => cases he
    | some v =>
      have he' : (j, x_cv E v) = (i, w) := Option.some.inj he
      cases he'
      exact ⟨v, List.mem_zipIdx_iff_getElem?.mp hm, rfl⟩
  · rintro ⟨v, hv, rfl⟩
    exact ⟨(some v, i), List.mem_zipIdx_iff_getElem?.mpr hv, rfl⟩
theorem x_cv_cat (E : x_E) (v : Value) : (x_cv E v).category = v.category := by cases v <;> rfl
theorem x_L.at {E : x_E} {n : Nat} {L : List (Option Value)} {ls : Array Slot} (h : x_L E n L ls) {i : Nat} {v : Value} (hv : L[i]? = some (some v)) : ls[i]? = some (.val (x_cv E v)) := h.1.2.2 (i, x_cv E v) (x_lv_mem.mpr ⟨v, hv, rfl⟩)
theorem x_L.set {E : x_E} {n : Nat} {L : List (Option Value)} {ls ls' : Array Slot} (h : x_L E n L ls) {i : Nat} {v : Value} (hc : v.category = 1)
    (h' : lv_has ls' n ((i, x_cv E v) :: (x_lv E L).filter (fun q => !(q.1 == i) && !(q.1 + 1 == i && q.2.category == 2)))) : x_L E n (L.set i (some v)) ls' := by
  refine ⟨⟨h'.1, h'.2.1, fun q hq => h'.2.2 q ?_⟩, fun j w hj => ?_⟩
  · obtain ⟨j, w⟩ := q
    obtain ⟨u, hu, rfl⟩ := x_lv_mem.mp hq
    by_cases e : j = i
    · subst e
      rw [List.getElem?_set] at hu
      simp only [if_true] at hu
      split at hu
      · cases hu
        exact List.mem_cons_self
      · cases hu
    · rw [List.getElem?_set_ne (Ne.symm e)] at hu
      refine List.mem_cons_of_mem _ (List.mem_filter.mpr ⟨x_lv_mem.mpr ⟨u, hu, rfl⟩, ?_⟩)
      have hcat := h.2 j u hu
      simp [e, x_cv_cat, hcat]
  · by_cases e : j = i
    · subst e
      rw [List.getElem?_set] at hj
      simp only [if_true] at hj
      split at hj
      · cases hj
        exact hc
      · cases hj
    · rw [List.getElem?_set_ne (Ne.symm e)] at hj
      exact h.2 j w hj
theorem x_args_lv (E : x_E) (vs : List Value) (hc : ∀ v ∈ vs, v.category = 1) : ∀ k, lv_args k (vs.map (x_cv E)) = ((vs.map some).zipIdx k).filterMap (fun q => q.1.map (fun v => (q.2, x_cv E v))) := by
  induction vs with
  | nil => intro k; rfl
  | cons v vs ih =>
    intro k
    have h1 : (x_cv E v).category = 1 := by rw [x_cv_cat]; exact hc v List.mem_cons_self
    have ih' := ih (fun w hw => hc w (List.mem_cons_of_mem _ hw)) (k + 1)
    simp only [List.map_cons, lv_args, h1, List.zipIdx_cons]
    rw [List.filterMap_cons_some (b := (k, x_cv E v)) (by rfl)]
    congr 1
theorem x_sl (vs : List Value) (hc : ∀ v ∈ vs, v.category = 1) : (lg_sl vs).length = vs.length := by
  induction vs with
  | nil => rfl
  | cons v vs ih =>
    have h1 := hc v List.mem_cons_self
    have ih' := ih (fun w hw => hc w (List.mem_cons_of_mem _ hw))
    have e : lg_sl (v :: vs) = .val v :: lg_sl vs := by simp [lg_sl, h1]
    rw [e, List.length_cons, ih', List.length_cons]
