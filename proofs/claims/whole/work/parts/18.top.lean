/-! THE CLAIM OUT OF ONE WALK OF THE LAW'S BODY. Your part is whole_start (and what it stands on); all else here is the same for every law, but numbers. -/
def R_law : String := "TrainGuardLaw"
def lw_P (b : Addr) (xs : List Int32) (args : Array Value) (s : State) : Prop := args = #[.ref b] ∧ s.IntsAt b xs ∧ xs.length ≤ 2051 ∧ (Jvm.Cond.and given_1 narrow_1).before args s = true
def lw_Q (_ : Array Value) (s : State) (o : Outcome) (t : State) : Prop := o = .returned (some (.int 1)) ∧ Framed s o t [] 600000 7302250
def lw_Z (below : List Frame) (a : Array Value) (s : State) : State → Prop := fun t => ∃ o, t.status = .running ∧ Ended t below o ∧ lw_Q a s o t
/-- the law's own end, with 1 on the stack, nothing written that was there before, its room as the claim has it -/
theorem lw_ret {p : Program} {l : Launch} {e : Env} {s : State} {m : MethodId} {below : List Frame} {meth : Method} {c : Code} {b : Nat} (hx : p.tables.exec = Jvm.exec) (hb : c.code = code) (hr : meth.sig.returnType = ret) (hlocks : meth.locks = false) {pc : Nat} {H : Heap} {ls : Array Slot} (hdg : decode code pc = .ok (.ireturn, 1)) : W p l e room_1 s m #[Value.ref b] below meth c H [] 600000 7302250 (lw_Z below #[Value.ref b] s) (F0 m pc ls [.int 1]) := by
  intro T hT X
  obtain ⟨fs, hret, hrun, hended, hW, hframe⟩ := X.leave (v := some (.int 1)) (hlocks := hlocks) (fun h => by rw [hr] at h; cases h)
  have hmeth' : T.vm.method? m = some meth := X.method'
  refine ⟨T.setFrames fs, ?_, .returned (some (.int 1)), hrun, hended, rfl, ⟨_, rfl⟩, hW, hframe⟩
  jvm_step X.here [X.here.top, hx, hb, hdg, hmeth', hr, ret, narrow_b1]
  (try refine ⟨rfl, ?_⟩); (try refine ⟨rfl, ?_⟩)
  first | (intro acts; rw [hret _ acts rfl rfl rfl]) | rw [hret _ _ rfl rfl rfl]
  exact Steps.refl _
/-- what holds at the law's entry: the machine, the code, the tables' words (any of lw_tbl by 'hts w (by decide +kernel)'), the script of L ints xs at the cell b, what the Statement gives of the start (any of its parts by flat_of_before) -/
def lw_At (p : Program) (s : State) (m : MethodId) (meth : Method) (c : Code) (b L : Nat) (xs : Nat → Int32) : Prop :=
  p.tables.exec = Jvm.exec ∧ c.code = code ∧ meth.sig.returnType = ret ∧ c.maxLocals = 4 ∧ s.vm.findClass R_law = some m.cls ∧ (∀ w ∈ lw_tbl, w.before #[Value.ref b] s = true) ∧ va_X b L xs s s.heap ∧ b < s.heap.size ∧ meth.locks = false ∧ (Jvm.Cond.and given_1 narrow_1).before #[Value.ref b] s = true
/-! the walk, out of a relation that every call keeps -/
theorem x_arr {s : State} {args : Array Value} {ty : FieldType} (hno : ∀ C, ty ≠ .object C) (h : (Cond.arrayClass ty).before args s = true) : ∃ cA : ClassId, ArrOfT s cA ty ∧ va_RA s cA ty := by
  obtain ⟨cA, kA, comp, h1, h2, h3⟩ := Cond.arrayClass_spec h
  refine ⟨cA, fun n z => ⟨fun k h => (by cases h), kA, h2, comp, h3⟩, ?_⟩
  cases ty with
  | object C => exact absurd rfl (hno C)
  | _ => exact h1
theorem x_known {s : State} {args : Array Value} (hts : ∀ w ∈ x_W, w.before args s = true) : ∃ D : va_G, ∀ (c : Nat) (q : vw_C), x_cls[c]? = some q → u_Kn s q.1 q.2.1 q.2.2 (D.1 c) (D.2 c) := by
  have h : ∀ c : Nat, ∃ z : ClassId × (Nat → Nat), ∀ q : vw_C, x_cls[c]? = some q → u_Kn s q.1 q.2.1 q.2.2 z.1 z.2 := by
    intro c
    cases hq : x_cls[c]? with
    | none => exact ⟨(0, fun _ => 0), fun q h => by cases h⟩
    | some q0 =>
      obtain ⟨k1, k2, k3, k4, k5, k6⟩ := x_clok c q0 hq
      obtain ⟨cC, iS, hK⟩ := u_known hts k1 (hts _ k5)
      exact ⟨(cC, iS), fun q h => by cases h; exact hK⟩
  exact ⟨(fun c => (Classical.choose (h c)).1, fun c => (Classical.choose (h c)).2), fun c q hq => Classical.choose_spec (h c) q hq⟩
theorem whole_of {R : Nat → x_S → x_S → Prop} (hs : x_sim R) (h0 : ∀ E : x_E, R 0 (x_h0 E) (x_h0 E)) {p : Program} {e : Env} {s : State} {m : MethodId} {below : List Frame} {meth : Method} {c : Code} (l : Launch) {b L : Nat} {xs : Nat → Int32} (hL : L ≤ 2051) (C0 : lw_At p s m meth c b L xs) : W p l e room_1 s m #[Value.ref b] below meth c s.heap [] 0 0 (lw_Z below #[Value.ref b] s) (entryFrame m ([Value.ref b] : List Value).toArray 4) := by
  obtain ⟨hx, hb, hr, hml, hown, hts, hX, hbl, hlocks, hgv⟩ := C0
  have htW : ∀ w ∈ x_W, w.before #[Value.ref b] s = true := fun w hw => hts w (List.mem_filter.mp hw).1
  obtain ⟨D, hD⟩ := x_known htW
  obtain ⟨cI, aI⟩ := x_arr (ty := .int) (fun _ h => by cases h) (htW _ xw_a_int)
  obtain ⟨cB, aB⟩ := x_arr (ty := .byte) (fun _ h => by cases h) (htW _ xw_a_byte)
  obtain ⟨cZ, aZ⟩ := x_arr (ty := .boolean) (fun _ h => by cases h) (htW _ xw_a_boolean)
  have hs2 := flat_of_before _ hgv
  have hA0 : ∀ a : Nat, a < s.heap.size → ¬ (fun q => s.heap.size ≤ q) a := fun a h z => by
    have z' : s.heap.size ≤ a := z
    omega
  have hT := va_Tof (args := #[Value.ref b]) (s := s) (tm := .static "TrainGuard$Message" "IDS" "[I") (ty := .int) (N := 6) (f := fun j => .int (x_ids j)) (A := fun q => s.heap.size ≤ q) (by decide) (hs2 _ (by decide +kernel)) (va_eqt (hs2 _ (by decide +kernel)))
    (fun j hj => by
      match j, hj with
      | 0, _ => exact va_eqt (hs2 _ (by decide +kernel))
      | 1, _ => exact va_eqt (hs2 _ (by decide +kernel))
      | 2, _ => exact va_eqt (hs2 _ (by decide +kernel))
      | 3, _ => exact va_eqt (hs2 _ (by decide +kernel))
      | 4, _ => exact va_eqt (hs2 _ (by decide +kernel))
      | 5, _ => exact va_eqt (hs2 _ (by decide +kernel))) hA0
  obtain ⟨t, ht, hTt⟩ := hT
  have hZ := va_Zof (A := fun q => s.heap.size ≤ q) (hts _ xw_ls) (htW _ xw_iMsg) ht hA0
  let E : x_E := (D, (s.heap.size, b, t), (cI, cB, cZ), L, xs)
  have hO : x_O E s s.heap := ⟨fun w hw => va_Nw.of (x_isN_on (List.mem_filter.mp hw).2) (hts w (List.mem_filter.mp hw).1), hZ, hTt, hX, hbl, Nat.le_refl _⟩
  have hK : va_K E.1 x_cls (x_tys E) s := by
    refine ⟨hD, fun k q hk => ?_⟩
    match k, hk with
    | 0, rfl => exact aI
    | 1, rfl => exact aB
    | 2, rfl => exact aZ
    | k + 3, hk => exact absurd hk (by simp [x_tys])
  have hcat : ∀ v ∈ [Value.ref 1000], v.category = 1 := by intro v hv; rw [List.mem_singleton.mp hv]; rfl
  have hl := lv_entry ([Value.ref b]) (n := 4) (Nat.le_of_ble_eq_true rfl)
  rw [lg_entry_eq]
  generalize (lg_sl ([Value.ref b]) ++ List.replicate (4 - (lg_sl ([Value.ref b])).length) Slot.unset).toArray = ls at hl ⊢
  have hL1 : x_L E 4 [some (.ref 1000), none, none, none] ls := by
    refine ⟨⟨hl.1, hl.2.1, fun q hq => hl.2.2 q ?_⟩, fun i v hv => ?_⟩
    · exact hq
    · match i, hv with
      | 0, rfl => rfl
      | i + 4, hv => simp at hv
  refine (law_all hs hL (h0 E)) p l e room_1 s m #[Value.ref b] below meth c s.heap [] 0 0 ls (lw_Z below #[Value.ref b] s) ⟨hx, hb, hml, hown, htW, fun z => absurd z (by decide), by decide, by decide, hO⟩ ⟨hK, fun k q hk => by simp [x_ws] at hk, rfl, va_S.rf⟩ (by decide) (by decide) hL1 ?_
  intro r h' H' locs' cells' slots' pc' ls' st' hQ hF hc hs' hret
  have hQ' : r = 1 := hQ
  subst hQ'
  rcases hret with ⟨hn, -⟩ | ⟨rfl, hd, -⟩
  · cases hn
  · refine va_forget (fun q hq => hF.2.2.2.2.2 q hq) ?_
    refine W.widen (k := 600000) (n := 7302250) hc hs' ?_
    exact lw_ret hx hb hr hlocks hd
