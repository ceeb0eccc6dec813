/-! statics, the script, what is made, calls: rows over EV -/
section
variable {E : x_E} {M : x_M} {a b pc : Nat} {L : List (Option Value)} {st : List Value} {h : x_H} {Q : Int32 → x_H → Prop}
/-- Message.IDS -/
theorem Ev_ids {index : Nat} (hw : Cond.fieldLink M.1.cls index "TrainGuard$Message" "IDS" "[I" ∈ x_W) (hd : decode M.2.1 pc = .ok (.getstatic index, 3)) (kk : Ev E M a b (pc + 3) L (.ref 1001 :: st) h Q) : Ev E M a b pc L st h Q := by
  intro p l e R s mid args below meth c H locs cells slots ls QQ C0 F ha hb hl kr
  exact va_gets C0.1 C0.2.1 C0.2.2.2.2.2.2.2.2.2.1 F.2.2.2 C0.2.2.2.1 (C0.2.2.2.2.1 _ hw) (fun _ z => z) hd (kk p l e R s mid args below meth c H locs cells slots ls QQ C0 F ha hb hl kr)
theorem Ev_idsld {i : Int32} (hd : decode M.2.1 pc = .ok (.iaload, 1)) (hi : vp_in i 6) (kk : Ev E M a b (pc + 1) L (.int (x_ids i.toNatClampNeg) :: st) h Q) : Ev E M a b pc L (.int i :: .ref 1001 :: st) h Q := by
  intro p l e R s mid args below meth c H locs cells slots ls QQ C0 F ha hb hl kr
  obtain ⟨cell, h1, h2, h3, h4, h5, h6, h7⟩ := C0.2.2.2.2.2.2.2.2.2.2.1
  have hlt : i.toNatClampNeg < 6 := Nat.not_le.mp fun q => hi (Or.inr q)
  have hb2 : E.2.1.2.2 < s.heap.size := (Array.getElem?_eq_some_iff.mp h1).1
  exact W.iald (v := .int (x_ids i.toNatClampNeg)) C0.1 C0.2.1 (a := E.2.1.2.2) (by rw [F.2.2.2.2.1 _ hb2 h7]; exact h1) h2 h3 (fun z => z.elim (fun q => hi (Or.inl q)) (fun q => by omega)) (h6 _ hlt) rfl rfl hd (kk p l e R s mid args below meth c H locs cells slots ls QQ C0 F ha hb hl kr)
theorem Ev_idslen (hd : decode M.2.1 pc = .ok (.arraylength, 1)) (kk : Ev E M a b (pc + 1) L (.int 6 :: st) h Q) : Ev E M a b pc L (.ref 1001 :: st) h Q := by
  intro p l e R s mid args below meth c H locs cells slots ls QQ C0 F ha hb hl kr
  obtain ⟨cell, h1, h2, h3, h4, h5, h6, h7⟩ := C0.2.2.2.2.2.2.2.2.2.2.1
  have hb2 : E.2.1.2.2 < s.heap.size := (Array.getElem?_eq_some_iff.mp h1).1
  exact W.alen (n := 6) C0.1 C0.2.1 (a := E.2.1.2.2) (by rw [F.2.2.2.2.1 _ hb2 h7]; exact h1) h2 h5 rfl rfl hd (kk p l e R s mid args below meth c H locs cells slots ls QQ C0 F ha hb hl kr)
/-! made: an object, an array -/
theorem Ev_new {ci index : Nat} {C : String} {T : u_T} {N : Nat} (hw : Cond.classLink M.1.cls index C ∈ x_W) (hd : decode M.2.1 pc = .ok (.new index, 3)) (hc : x_cls[ci]? = some (C, T, N)) (hP : h.2.2.length < 1000) (hz : ∀ j, h.1 h.2.2.length j = 0) (hr : ∀ j, h.2.1 h.2.2.length j = none) (hdf : ∀ k, k < N → defaultValue (x_fty ci k) = if x_isR ci k = true then .null else .int 0)
    (kk : Ev E M a b (pc + 3) L (.ref h.2.2.length :: st) (h.1, h.2.1, h.2.2 ++ [.inl ci]) Q) : Ev E M (a + 1) (b + N) pc L st h Q := by
  intro p l e R s mid args below meth c H locs cells slots ls QQ C0 F ha hb hl kr
  obtain ⟨hin, hty, hnm, hdecl, hinst, hini⟩ := x_clok ci _ hc
  have hts := C0.2.2.2.2.1
  have hKn := F.1.1 ci _ hc
  have hsz := F.2.2.1
  refine W.newcK C0.1 C0.2.1 C0.2.2.2.1 (hts _ hw) (hts _ hinst) (hts _ hini) rfl hd (by omega) (by show slots + N ≤ R.slots; omega) hKn.2.1 hsz fun H1 kC hkC e1 z1 o1 => ?_
  have hk : ∀ (k : Nat) (x : Nat × va_E), (x_ws E h)[k]? = some x → H1[x.1]? = H[x.1]? := fun k x hx => o1 x.1 (by have := (F.2.1 k x hx).lt; omega)
  have hP1 : va_P E.1 x_cls (x_ws E (h.1, h.2.1, h.2.2 ++ [.inl ci])) H1 := by
    rw [x_ws_push]
    refine (F.2.1.kept hk).app (fun k x hx => ?_)
    have hz1 : k < 1 := (List.getElem?_eq_some_iff.mp hx).1
    rw [show k = 0 by omega] at hx
    cases hx
    have hcell : x_cell E (h.1, h.2.1, h.2.2 ++ [.inl ci]) h.2.2.length = .inr (ci, (List.range (x_nf ci)).map (x_fv E (h.1, h.2.1, h.2.2 ++ [.inl ci]) ci h.2.2.length)) := by
      unfold x_cell
      simp
    show va_at _ _ (_, x_cell E _ _) _
    rw [hcell]
    refine ⟨_, hc, (u_born (x_fty ci) hts hin hKn hkC e1 hty).to fun j hj => ?_⟩
    show _ = ((List.range (x_nf ci)).map (x_fv E (h.1, h.2.1, h.2.2 ++ [.inl ci]) ci h.2.2.length)).getD j Value.null
    rw [hdf j hj, x_nf_eq hc, List.getD_eq_getElem?_getD, List.getElem?_map, List.getElem?_range hj]
    simp [x_fv, hz, hr, va_rf]
  have hS1 : va_S (x_A E) s.heap H1 locs := ⟨Nat.le_trans F.2.2.2.1 (by omega), fun x h1 h2 => (o1 x (by have := F.2.2.2.1; omega)).trans (F.2.2.2.2.1 x h1 h2), F.2.2.2.2.2⟩
  have hfin := kk p l e R s mid args below meth c H1 locs (cells + 1) (slots + N) ls QQ C0 ⟨F.1, hP1, by rw [z1]; show _ = E.2.1.1 + (h.2.2 ++ [Sum.inl ci]).length; simp; omega, hS1⟩ (by omega) (by omega) hl kr
  have he : x_cv E (.ref h.2.2.length) = .ref (E.2.1.1 + h.2.2.length) := by show Value.ref (x_ad E _) = _; rw [x_ad_lt E hP]
  rw [List.map_cons, he] at hfin
  exact hfin
theorem Ev_newa {ty n : Nat} {at0 : ArrayType} {nn : Int32} (hw : Cond.arrayClass (newarray.typeOf at0) ∈ x_W) (hd : decode M.2.1 pc = .ok (.newarray at0, 2)) (hty : (at0 = .int ∧ ty = 0) ∨ (at0 = .byte ∧ ty = 1) ∨ (at0 = .boolean ∧ ty = 2)) (hn0 : ¬ nn < 0) (hn : nn.toNatClampNeg = n) (hn2 : n ≤ 100000) (hP : h.2.2.length < 1000) (hz : ∀ j, h.1 h.2.2.length j = 0)
    (kk : Ev E M a b (pc + 2) L (.ref h.2.2.length :: st) (h.1, h.2.1, h.2.2 ++ [.inr (ty, n)]) Q) : Ev E M (a + 1) (b + n) pc L (.int nn :: st) h Q := by
  intro p l e R s mid args below meth c H locs cells slots ls QQ C0 F ha hb hl kr
  have hts := C0.2.2.2.2.1
  have hsz := F.2.2.1
  have hbytes : n * componentBytes (newarray.typeOf at0) ≤ 536870912 := by
    rcases hty with ⟨rfl, -⟩ | ⟨rfl, -⟩ | ⟨rfl, -⟩
    · show n * 4 ≤ _; omega
    · show n * 1 ≤ _; omega
    · show n * 1 ≤ _; omega
  refine va_newaK C0.1 C0.2.1 (hts _ hw) rfl hd rfl hn0 hn hbytes (by omega) (by omega) hsz fun H1 cA e1 z1 o1 hAr hNm => ?_
  have hca : cA = x_ca E ty ∧ defaultValue (newarray.typeOf at0) = .int 0 := by
    rcases hty with ⟨rfl, rfl⟩ | ⟨rfl, rfl⟩ | ⟨rfl, rfl⟩
    · have h0 : s.vm.findClass ("[" ++ FieldType.int.toString) = some (x_ca E 0) := (F.1.2 0 _ (x_ty_at E).1).2
      exact ⟨Option.some.inj (hNm.symm.trans h0), rfl⟩
    · have h0 : s.vm.findClass ("[" ++ FieldType.byte.toString) = some (x_ca E 1) := (F.1.2 1 _ (x_ty_at E).2.1).2
      exact ⟨Option.some.inj (hNm.symm.trans h0), rfl⟩
    · have h0 : s.vm.findClass ("[" ++ FieldType.boolean.toString) = some (x_ca E 2) := (F.1.2 2 _ (x_ty_at E).2.2).2
      exact ⟨Option.some.inj (hNm.symm.trans h0), rfl⟩
  have hk : ∀ (k : Nat) (x : Nat × va_E), (x_ws E h)[k]? = some x → H1[x.1]? = H[x.1]? := fun k x hx => o1 x.1 (by have := (F.2.1 k x hx).lt; omega)
  have hP1 : va_P E.1 x_cls (x_ws E (h.1, h.2.1, h.2.2 ++ [.inr (ty, n)])) H1 := by
    rw [x_ws_push]
    refine (F.2.1.kept hk).app (fun k x hx => ?_)
    have hz1 : k < 1 := (List.getElem?_eq_some_iff.mp hx).1
    rw [show k = 0 by omega] at hx
    cases hx
    have hcell : x_cell E (h.1, h.2.1, h.2.2 ++ [.inr (ty, n)]) h.2.2.length = .inl (x_ca E ty, n, .inl (h.1 h.2.2.length)) := by
      unfold x_cell
      simp
    show va_at _ _ (_, x_cell E _ _) _
    rw [hcell]
    show H1[_]? = some (vp_cell _ _)
    rw [e1, vp_cell_i, hca.1, hca.2]
    congr 2
    funext j
    rw [hz j]
  have hS1 : va_S (x_A E) s.heap H1 locs := ⟨Nat.le_trans F.2.2.2.1 (by omega), fun x h1 h2 => (o1 x (by have := F.2.2.2.1; omega)).trans (F.2.2.2.2.1 x h1 h2), F.2.2.2.2.2⟩
  have hfin := kk p l e R s mid args below meth c H1 locs (cells + 1) (slots + n) ls QQ C0 ⟨F.1, hP1, by rw [z1]; show _ = E.2.1.1 + (h.2.2 ++ [Sum.inr (ty, n)]).length; simp; omega, hS1⟩ (by omega) (by omega) hl kr
  have he : x_cv E (.ref h.2.2.length) = .ref (E.2.1.1 + h.2.2.length) := by show Value.ref (x_ad E _) = _; rw [x_ad_lt E hP]
  rw [List.map_cons, he] at hfin
  exact hfin
/-- Object() -/
theorem Ev_obj {index q : Nat} (hw : Cond.methodLink M.1.cls index Lib.objectInit ∈ x_W) (hd : decode M.2.1 pc = .ok (.invokespecial index, 3)) (hfr : 1 ≤ M.2.2.2.2.1) (hlo : 12 ≤ M.2.2.2.2.2) (kk : Ev E M a b (pc + 3) L [] h Q) : Ev E M a b pc L [.ref q] h Q := by
  intro p l e R s mid args below meth c H locs cells slots ls QQ C0 F ha hb hl kr
  have hts := C0.2.2.2.2.1
  exact W.objInit C0.1 C0.2.1 C0.2.2.2.1 (hts _ hw) (hts _ xw_oi) (hts _ xw_oc) rfl (hl.1.1.trans C0.2.2.1.symm) rfl hd (Nat.le_trans hfr C0.2.2.2.2.2.2.1) (by have := C0.2.2.2.2.2.2.2.1; show 2 * 0 + 0 + 12 ≤ R.locals; omega) (kk p l e R s mid args below meth c H locs cells slots ls QQ C0 F ha hb hl kr)
end
/-! a method as a whole -/
theorem Call.mono {E : x_E} {M : x_M} {a b : Nat} {args : List Value} {h : x_H} {Q Q' : Int32 → x_H → Prop} (k : Call E M a b args h Q) (hq : ∀ r h', Q r h' → Q' r h') : Call E M a b args h Q' := by
  intro l
  refine MetFree.mono (k l) (fun _ _ z => z) (fun _ _ _ _ _ z => z) (fun aa st o t _ z => ⟨?_, z.2⟩)
  have z1 := z.1
  revert z1
  unfold x_Q
  cases M.2.2.2.1 with
  | none => exact fun z1 => ⟨let ⟨u, e1, e2, e3⟩ := z1.1; ⟨u, e1, hq _ _ e2, e3⟩, z1.2⟩
  | some ty => exact fun z1 => ⟨let ⟨r, u, e1, e2, e3⟩ := z1.1; ⟨r, u, e1, hq _ _ e2, e3⟩, z1.2⟩
theorem Call_of {E : x_E} {M : x_M} {a b : Nat} {args : List Value} {h : x_H} {Q : Int32 → x_H → Prop} {L : List (Option Value)} (hp : plainName M.1.cls = true) (hcat : ∀ v ∈ args, v.category = 1) (hlen : args.length ≤ M.2.2.1) (hL : args.map some ++ List.replicate (M.2.2.1 - args.length) none = L) (k : Ev E M a b 0 L [] h Q) : Call E M a b args h Q := by
  subst hL
  intro l
  refine Met.ofW (cc := M.2.1) (maxL := M.2.2.1) (ret := M.2.2.2.1) hp rfl ?_
  intro p e s m args' below meth c s₁ B hml hv
  obtain ⟨rfl, hD⟩ := hv
  have hts : ∀ w ∈ x_wsM M, w.before (args.map (x_cv E)).toArray s = true := atoms_spec (ws := x_wsM M) B.pre
  have hown : s.vm.findClass M.1.cls = some m.cls := findClass_of_methodNamed B.named
  have hin : M.1.name = "<init>" → meth.name = "<init>" := fun z => (name_of_methodNamed B.named B.method).1.trans z
  have hcat2 : ∀ v ∈ args.map (x_cv E), v.category = 1 := by
    intro v hv
    obtain ⟨w, hw, rfl⟩ := List.mem_map.mp hv
    rw [x_cv_cat]
    exact hcat w hw
  have hsl := x_sl _ hcat2
  rw [List.length_map] at hsl
  have hl := lv_entry (args.map (x_cv E)) (n := M.2.2.1) (by rw [hsl]; exact hlen)
  rw [lg_entry_eq]
  generalize (lg_sl (args.map (x_cv E)) ++ List.replicate (M.2.2.1 - (lg_sl (args.map (x_cv E))).length) Slot.unset).toArray = ls at hl ⊢
  have hL : x_L E M.2.2.1 (args.map some ++ List.replicate (M.2.2.1 - args.length) none) ls := by
    have key : ∀ (i : Nat) (v : Value), (args.map some ++ List.replicate (M.2.2.1 - args.length) none)[i]? = some (some v) → (args.map some)[i]? = some (some v) := by
      intro i v hv
      by_cases hi : i < (args.map some).length
      · rw [List.getElem?_append_left hi] at hv
        exact hv
      · rw [List.getElem?_append_right (by omega)] at hv
        have := List.mem_of_getElem? hv
        have := List.eq_of_mem_replicate this
        cases this
    refine ⟨⟨hl.1, hl.2.1, fun q hq => hl.2.2 q ?_⟩, fun i v hv => ?_⟩
    · obtain ⟨i, w⟩ := q
      obtain ⟨v, hv, rfl⟩ := x_lv_mem.mp hq
      rw [x_args_lv E args hcat 0]
      exact x_lv_mem.mpr ⟨v, key i v hv, rfl⟩
    · have h1 := key i v hv
      rw [List.getElem?_map] at h1
      cases hi : args[i]? with
      | none => rw [hi] at h1; cases h1
      | some w =>
        rw [hi] at h1
        cases h1
        exact hcat _ (List.mem_of_getElem? hi)
  have hS : va_S (x_A E) s.heap s.heap [] := va_S.rf
  refine k p l e (x_rm M a b) s m _ below meth c s.heap [] 0 0 ls _ ⟨B.exec, B.bytes, hml, hown, fun w hw => hts w (List.mem_cons_of_mem _ hw), hin, Nat.le_refl _, Nat.le_refl _, hD.2.2.2⟩ ⟨hD.1, hD.2.1, hD.2.2.1, hS⟩ (by show 0 + a ≤ a; omega) (by show 0 + b ≤ b; omega) hL ?_
  intro r h' H' locs' cells' slots' pc' ls' st' hQ hF hc hs hret
  have hDt : ∀ t : State, t.heap = H' → s.WarmedH t.vm → x_D E h' t := fun t ht hW => ⟨va_K.moved hW.alike hF.1, by rw [ht]; exact hF.2.1, by rw [ht]; exact hF.2.2.1, by rw [ht]; exact hD.2.2.2.to hF.2.2.2 hW⟩
  refine W.widen (k := a) (n := b) hc hs ?_
  rcases hret with ⟨hr, rfl, rfl, hd⟩ | ⟨rfl, hd, hr⟩
  · have eQ : x_Q E M Q = va_Qv (fun h' : x_H => Q 0 h') (fun h' t => x_D E h' t) (x_A E) := by simp only [x_Q, hr]
    rw [eQ]
    exact W.vret B.exec B.bytes (B.returns.trans hr) (fun t ht hW => ⟨⟨h', rfl, hQ, hDt t ht hW⟩, hF.2.2.2.F ht⟩) hF.2.2.2.2.2 hd B.notSynchronized
  · rcases hr with hr | ⟨hr, hx⟩
    · have eQ : x_Q E M Q = va_Qi (fun (r : Int32) (h' : x_H) => Q r h') (fun h' t => x_D E h' t) (x_A E) := by simp only [x_Q, hr]
      rw [eQ]
      exact W.iret B.exec B.bytes (B.returns.trans hr) (fun t ht hW => ⟨⟨r, h', rfl, hQ, hDt t ht hW⟩, hF.2.2.2.F ht⟩) hF.2.2.2.2.2 hd B.notSynchronized
    · have eQ : x_Q E M Q = va_Qi (fun (r : Int32) (h' : x_H) => Q r h') (fun h' t => x_D E h' t) (x_A E) := by simp only [x_Q, hr]
      rw [eQ]
      exact W.zret B.exec B.bytes (B.returns.trans hr) (x_bool hx).1 (fun t ht hW => ⟨⟨r, h', rfl, hQ, hDt t ht hW⟩, hF.2.2.2.F ht⟩) hF.2.2.2.2.2 hd B.notSynchronized
