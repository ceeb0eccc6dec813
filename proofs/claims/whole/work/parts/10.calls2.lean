/-! calls of our methods, and the script: rows over EV -/
/-- a method's descriptor has n parameters; its class is no handle -/
def x_desc (M : x_M) (n : Nat) : Prop := M.1.cls ≠ "java/lang/invoke/MethodHandle" ∧ M.1.cls ≠ "java/lang/invoke/VarHandle" ∧ (parseMethodDescriptor M.1.desc).map (fun d => d.parameters.length) = some n
/-- the callee's room fits -/
def x_fit (M M' : x_M) : Prop := M'.2.2.2.2.1 + 1 ≤ M.2.2.2.2.1 ∧ 8 + (M'.2.2.1 + 11) + M'.2.2.2.2.2 ≤ M.2.2.2.2.2
section
variable {E : x_E} {M M' : x_M} {a b a' b' pc : Nat} {L : List (Option Value)} {st : List Value} {h : x_H} {Q : Int32 → x_H → Prop}
theorem x_QI {E : x_E} {Q' : Int32 → x_H → Prop} {ty : FieldType} (hret : M'.2.2.2.1 = some ty) : x_Q E M' Q' = va_Qi (fun (r : Int32) (h' : x_H) => Q' r h') (fun h' t => x_D E h' t) (x_A E) := by simp only [x_Q, hret]
theorem x_QV {E : x_E} {Q' : Int32 → x_H → Prop} (hret : M'.2.2.2.1 = none) : x_Q E M' Q' = va_Qv (fun h' : x_H => Q' 0 h') (fun h' t => x_D E h' t) (x_A E) := by simp only [x_Q, hret]
theorem x_wsM_good (hcode : Cond.code M'.1 M'.2.1 M'.2.2.1 M'.2.2.2.1 ∈ x_W) : GoodIn x_W (x_wsM M') := x_good fun w hw => by
  rcases List.mem_cons.mp hw with rfl | hw
  · exact hcode
  · exact hw
theorem x_cat (E : x_E) (st : List Value) : ((st.map (x_cv E)).map fun v => v.category) = st.map fun v => v.category := by
  rw [List.map_map]
  apply List.map_congr_left
  intro v _
  exact x_cv_cat E v
theorem x_room (E : x_E) {mid : MethodId} {ls : Array Slot} {pc : Nat} {st0 : List Value} (hst : (st.map fun v => v.category).sum ≤ 8) : 2 * (F0 mid pc ls st0).monitorRoom + ((st.map (x_cv E)).map fun v => v.category).sum ≤ 8 := lv_room (rest := st0) (by rw [x_cat]; exact hst)
theorem x_fitR {R : Room} {E : x_E} {p : Program} {s : State} {mid : MethodId} {args : Array Value} {meth : Method} {c : Code} (C0 : x_C E M p s mid args meth c R) (hf : x_fit M M') : (x_rm M' a' b').frames + 1 ≤ R.frames ∧ 8 + (M'.2.2.1 + 11) + (x_rm M' a' b').locals ≤ R.locals :=
  ⟨Nat.le_trans hf.1 C0.2.2.2.2.2.2.1, Nat.le_trans hf.2 C0.2.2.2.2.2.2.2.1⟩
theorem x_pre {E : x_E} {p : Program} {s : State} {mid : MethodId} {args : Array Value} {meth : Method} {c : Code} {R : Room} {H : Heap} {locs : List Loc} {Av : List Value} (C0 : x_C E M p s mid args meth c R) (F : x_F E h s H locs) : PreS s H (va_Pc (Av.map (x_cv E)) (fun U => x_D E h U)) (Av.map (x_cv E)) :=
  ⟨fun _ _ _ _ q => ⟨q.1, q.2.calling⟩, fun U hU hW => ⟨rfl, va_K.moved hW.alike F.1, by rw [hU]; exact F.2.1, by rw [hU]; exact F.2.2.1, by rw [hU]; exact C0.2.2.2.2.2.2.2.2.to F.2.2.2 hW⟩⟩
theorem x_back {E : x_E} {s t : State} {h' : x_H} {H1 : Heap} {locs1 : List Loc} (ht : t.heap = H1) (hvm : s.vm.Alike t.vm) (hB : x_D E h' t) (hS : va_S (x_A E) s.heap H1 locs1) : x_F E h' s H1 locs1 :=
  ⟨va_K.moved hvm.symm hB.1, by rw [← ht]; exact hB.2.1, by rw [← ht]; exact hB.2.2.1, hS⟩
theorem Ev_callVi {index P ci : Nat} {C : String} {T : u_T} {N : Nat} {As : List Value} {st0 : List Value} {ty : FieldType} (hd : decode M.2.1 pc = .ok (.invokevirtual index, 3)) (hl : Cond.methodLink M.1.cls index M'.1 ∈ x_W) (hi : Cond.instanceMethod M'.1 ∈ x_W) (hse : Cond.selects M'.1.cls M'.1 M'.1 ∈ x_W) (hini : Cond.initialized M'.1.cls ∈ x_W) (hcode : Cond.code M'.1 M'.2.1 M'.2.2.1 M'.2.2.2.1 ∈ x_W) (hdd : x_desc M' As.length) (hf : x_fit M M') (hret : M'.2.2.2.1 = some ty)
    (hst0 : st0 = As.reverse ++ .ref P :: st) (hst : (st.map fun v => v.category).sum ≤ 8) (hP : P < 1000) (hs : h.2.2[P]? = some (.inl ci)) (hc : x_cls[ci]? = some (C, T, N)) (hcC : M'.1.cls = C)
    (kk : Call E M' a' b' (.ref P :: As) h (fun r h' => Ev E M a b (pc + 3) L (.int r :: st) h' Q)) : Ev E M (a + a') (b + b') pc L st0 h Q := by
  subst hst0
  intro p l e R s mid args below meth c H locs cells slots ls QQ C0 F ha hb hl0 kr
  have hts := C0.2.2.2.2.1
  have hM := kk l
  rw [x_QI hret] at hM
  have hpre := x_pre (Av := .ref P :: As) C0 F
  refine va_calli (va_runV (C := C) (b := x_ad E P) (As := As.map (x_cv E)) (rest := st.map (x_cv E)) ⟨C0.1, C0.2.1, C0.2.2.1, C0.2.2.2.1, hts⟩ hM (cwV As.length hts (x_good ?_) rfl rfl rfl ⟨hcC, hdd⟩ (x_fitR C0 hf)) ⟨hpre.1, ?_, hpre.2⟩ rfl (List.length_map _) hl0.1.1 (by simp [F0, x_cv]) (x_room E hst) hd ⟨by omega, by omega⟩) F.2.2.2 (fun _ _ z => z) (fun _ z => z) (fun r u t H1 locs1 ht hvm hq hB hz hk hS1 => ?_)
  · intro w hw
    simp only [wsV, List.cons_append, List.nil_append, List.mem_cons] at hw
    rcases hw with rfl | rfl | rfl | rfl | hw
    · exact hl
    · exact hi
    · rw [← hcC]; exact hse
    · rw [← hcC]; exact hini
    · exact (x_wsM_good hcode w hw).1
  · rw [x_ad_lt E hP]
    exact va_recv F.1 F.2.1 hc (x_ws_obj E h hs)
  · exact hq p l e R s mid args below meth c H1 locs1 _ _ ls QQ C0 (x_back ht hvm hB hS1) (by omega) (by omega) hl0 kr
theorem Ev_callVv {index P ci : Nat} {C : String} {T : u_T} {N : Nat} {As : List Value} {st0 : List Value} (hd : decode M.2.1 pc = .ok (.invokevirtual index, 3)) (hl : Cond.methodLink M.1.cls index M'.1 ∈ x_W) (hi : Cond.instanceMethod M'.1 ∈ x_W) (hse : Cond.selects M'.1.cls M'.1 M'.1 ∈ x_W) (hini : Cond.initialized M'.1.cls ∈ x_W) (hcode : Cond.code M'.1 M'.2.1 M'.2.2.1 M'.2.2.2.1 ∈ x_W) (hdd : x_desc M' As.length) (hf : x_fit M M') (hret : M'.2.2.2.1 = none)
    (hst0 : st0 = As.reverse ++ .ref P :: st) (hst : (st.map fun v => v.category).sum ≤ 8) (hP : P < 1000) (hs : h.2.2[P]? = some (.inl ci)) (hc : x_cls[ci]? = some (C, T, N)) (hcC : M'.1.cls = C)
    (kk : Call E M' a' b' (.ref P :: As) h (fun _ h' => Ev E M a b (pc + 3) L st h' Q)) : Ev E M (a + a') (b + b') pc L st0 h Q := by
  subst hst0
  intro p l e R s mid args below meth c H locs cells slots ls QQ C0 F ha hb hl0 kr
  have hts := C0.2.2.2.2.1
  have hM := kk l
  rw [x_QV hret] at hM
  have hpre := x_pre (Av := .ref P :: As) C0 F
  refine va_callv (va_runV (C := C) (b := x_ad E P) (As := As.map (x_cv E)) (rest := st.map (x_cv E)) ⟨C0.1, C0.2.1, C0.2.2.1, C0.2.2.2.1, hts⟩ hM (cwV As.length hts (x_good ?_) rfl rfl rfl ⟨hcC, hdd⟩ (x_fitR C0 hf)) ⟨hpre.1, ?_, hpre.2⟩ rfl (List.length_map _) hl0.1.1 (by simp [F0, x_cv]) (x_room E hst) hd ⟨by omega, by omega⟩) F.2.2.2 (fun _ _ z => z) (fun _ z => z) (fun u t H1 locs1 ht hvm hq hB hz hk hS1 => ?_)
  · intro w hw
    simp only [wsV, List.cons_append, List.nil_append, List.mem_cons] at hw
    rcases hw with rfl | rfl | rfl | rfl | hw
    · exact hl
    · exact hi
    · rw [← hcC]; exact hse
    · rw [← hcC]; exact hini
    · exact (x_wsM_good hcode w hw).1
  · rw [x_ad_lt E hP]
    exact va_recv F.1 F.2.1 hc (x_ws_obj E h hs)
  · exact hq p l e R s mid args below meth c H1 locs1 _ _ ls QQ C0 (x_back ht hvm hB hS1) (by omega) (by omega) hl0 kr
theorem Ev_callSi {index : Nat} {As : List Value} {st0 : List Value} {ty : FieldType} (hd : decode M.2.1 pc = .ok (.invokestatic index, 3)) (hl : Cond.methodLink M.1.cls index M'.1 ∈ x_W) (hi : Cond.static M'.1 ∈ x_W) (hini : Cond.initialized M'.1.cls ∈ x_W) (hcode : Cond.code M'.1 M'.2.1 M'.2.2.1 M'.2.2.2.1 ∈ x_W) (hdd : x_desc M' As.length) (hf : x_fit M M') (hret : M'.2.2.2.1 = some ty)
    (hst0 : st0 = As.reverse ++ st) (hst : (st.map fun v => v.category).sum ≤ 8)
    (kk : Call E M' a' b' As h (fun r h' => Ev E M a b (pc + 3) L (.int r :: st) h' Q)) : Ev E M (a + a') (b + b') pc L st0 h Q := by
  subst hst0
  intro p l e R s mid args below meth c H locs cells slots ls QQ C0 F ha hb hl0 kr
  have hts := C0.2.2.2.2.1
  have hM := kk l
  rw [x_QI hret] at hM
  have hpre := x_pre (Av := As) C0 F
  refine va_calli (va_runS (As := As.map (x_cv E)) (rest := st.map (x_cv E)) ⟨C0.1, C0.2.1, C0.2.2.1, C0.2.2.2.1, hts⟩ hM (va_cwS As.length hts (x_good ?_) rfl rfl rfl hdd (x_fitR C0 hf)) hpre rfl (List.length_map _) hl0.1.1 (by simp [F0]) (x_room E hst) hd ⟨by omega, by omega⟩) F.2.2.2 (fun _ _ z => z) (fun _ z => z) (fun r u t H1 locs1 ht hvm hq hB hz hk hS1 => ?_)
  · intro w hw
    simp only [va_wsS, List.cons_append, List.nil_append, List.mem_cons] at hw
    rcases hw with rfl | rfl | rfl | hw
    · exact hl
    · exact hi
    · exact hini
    · exact (x_wsM_good hcode w hw).1
  · exact hq p l e R s mid args below meth c H1 locs1 _ _ ls QQ C0 (x_back ht hvm hB hS1) (by omega) (by omega) hl0 kr
theorem Ev_callSNi {index : Nat} {host : String} {As : List Value} {st0 : List Value} {ty : FieldType} (hd : decode M.2.1 pc = .ok (.invokestatic index, 3)) (hl : Cond.methodLinkNest M.1.cls index M'.1 host ∈ x_N) (hi : Cond.static M'.1 ∈ x_W) (hini : Cond.initialized M'.1.cls ∈ x_W) (hcode : Cond.code M'.1 M'.2.1 M'.2.2.1 M'.2.2.2.1 ∈ x_W) (hdd : x_desc M' As.length) (hf : x_fit M M') (hret : M'.2.2.2.1 = some ty)
    (hst0 : st0 = As.reverse ++ st) (hst : (st.map fun v => v.category).sum ≤ 8)
    (kk : Call E M' a' b' As h (fun r h' => Ev E M a b (pc + 3) L (.int r :: st) h' Q)) : Ev E M (a + a') (b + b') pc L st0 h Q := by
  subst hst0
  intro p l e R s mid args below meth c H locs cells slots ls QQ C0 F ha hb hl0 kr
  have hts := C0.2.2.2.2.1
  have hM := kk l
  rw [x_QI hret] at hM
  have hpre := x_pre (Av := As) C0 F
  refine va_calli (va_runSN (As := As.map (x_cv E)) (rest := st.map (x_cv E)) ⟨C0.1, C0.2.1, C0.2.2.1, C0.2.2.2.1, hts⟩ hM ⟨va_cnB As.length hts (x_wsM_good hcode) rfl rfl rfl (C0.2.2.2.2.2.2.2.2.1 _ hl) (hts _ hini) hdd (x_fitR C0 hf), hts _ hi, trivial⟩ hpre rfl (List.length_map _) hl0.1.1 (by simp [F0]) (x_room E hst) hd ⟨by omega, by omega⟩) F.2.2.2 (fun _ _ z => z) (fun _ z => z) (fun r u t H1 locs1 ht hvm hq hB hz hk hS1 => ?_)
  exact hq p l e R s mid args below meth c H1 locs1 _ _ ls QQ C0 (x_back ht hvm hB hS1) (by omega) (by omega) hl0 kr
theorem Ev_callI {index P : Nat} {As : List Value} {st0 : List Value} (hd : decode M.2.1 pc = .ok (.invokespecial index, 3)) (hl : Cond.methodLink M.1.cls index M'.1 ∈ x_W) (hi : Cond.instanceMethod M'.1 ∈ x_W) (hini : Cond.initialized M'.1.cls ∈ x_W) (hcode : Cond.code M'.1 M'.2.1 M'.2.2.1 M'.2.2.2.1 ∈ x_W) (hdd : x_desc M' As.length) (hf : x_fit M M') (hret : M'.2.2.2.1 = none) (hnm : M'.1.name = "<init>")
    (hst0 : st0 = As.reverse ++ .ref P :: st) (hst : (st.map fun v => v.category).sum ≤ 8)
    (kk : Call E M' a' b' (.ref P :: As) h (fun _ h' => Ev E M a b (pc + 3) L st h' Q)) : Ev E M (a + a') (b + b') pc L st0 h Q := by
  subst hst0
  intro p l e R s mid args below meth c H locs cells slots ls QQ C0 F ha hb hl0 kr
  have hts := C0.2.2.2.2.1
  have hM := kk l
  rw [x_QV hret] at hM
  have hpre := x_pre (Av := .ref P :: As) C0 F
  refine va_callv (va_runI (bytes := M'.2.1) (maxL := M'.2.2.1) (b := x_ad E P) (As := As.map (x_cv E)) (rest := st.map (x_cv E)) ⟨C0.1, C0.2.1, C0.2.2.1, C0.2.2.2.1, hts⟩ hM (cwI As.length hts (x_wsM_good hcode) (ws' := x_W) (by rw [← hret]; rfl) rfl rfl (hts _ hini) (hts _ hl) (hts _ hi) hnm hdd (x_fitR C0 hf)) hpre rfl (List.length_map _) hl0.1.1 (by simp [F0, x_cv]) (x_room E hst) hd ⟨by omega, by omega⟩) F.2.2.2 (fun _ _ z => z) (fun _ z => z) (fun u t H1 locs1 ht hvm hq hB hz hk hS1 => ?_)
  exact hq p l e R s mid args below meth c H1 locs1 _ _ ls QQ C0 (x_back ht hvm hB hS1) (by omega) (by omega) hl0 kr
theorem Ev_callIN {index P : Nat} {host : String} {As : List Value} {st0 : List Value} (hd : decode M.2.1 pc = .ok (.invokespecial index, 3)) (hl : Cond.methodLinkNest M.1.cls index M'.1 host ∈ x_N) (hi : Cond.instanceMethod M'.1 ∈ x_W) (hini : Cond.initialized M'.1.cls ∈ x_W) (hcode : Cond.code M'.1 M'.2.1 M'.2.2.1 M'.2.2.2.1 ∈ x_W) (hdd : x_desc M' As.length) (hf : x_fit M M') (hret : M'.2.2.2.1 = none) (hnm : M'.1.name = "<init>")
    (hst0 : st0 = As.reverse ++ .ref P :: st) (hst : (st.map fun v => v.category).sum ≤ 8)
    (kk : Call E M' a' b' (.ref P :: As) h (fun _ h' => Ev E M a b (pc + 3) L st h' Q)) : Ev E M (a + a') (b + b') pc L st0 h Q := by
  subst hst0
  intro p l e R s mid args below meth c H locs cells slots ls QQ C0 F ha hb hl0 kr
  have hts := C0.2.2.2.2.1
  have hM := kk l
  rw [x_QV hret] at hM
  have hpre := x_pre (Av := .ref P :: As) C0 F
  refine va_callv (va_runIN (bytes := M'.2.1) (maxL := M'.2.2.1) (b := x_ad E P) (As := As.map (x_cv E)) (rest := st.map (x_cv E)) ⟨C0.1, C0.2.1, C0.2.2.1, C0.2.2.2.1, hts⟩ hM ⟨va_cnB As.length hts (x_wsM_good hcode) (ws' := x_W) (by rw [← hret]; rfl) rfl rfl (C0.2.2.2.2.2.2.2.2.1 _ hl) (hts _ hini) hdd (x_fitR C0 hf), hnm, hts _ hi⟩ hpre rfl (List.length_map _) hl0.1.1 (by simp [F0, x_cv]) (x_room E hst) hd ⟨by omega, by omega⟩) F.2.2.2 (fun _ _ z => z) (fun _ z => z) (fun u t H1 locs1 ht hvm hq hB hz hk hS1 => ?_)
  exact hq p l e R s mid args below meth c H1 locs1 _ _ ls QQ C0 (x_back ht hvm hB hS1) (by omega) (by omega) hl0 kr
end
section
variable {E : x_E} {M : x_M} {a b pc : Nat} {L : List (Option Value)} {st : List Value} {h : x_H} {Q : Int32 → x_H → Prop}
theorem x_nb {E : x_E} {s : State} {H : Heap} (h : x_O E s H) : ¬ x_A E E.2.1.2.1 ∧ E.2.1.2.1 < H.size := by
  obtain ⟨-, -, -, -, h5, h6⟩ := h
  exact ⟨fun z => by have z' : E.2.1.1 ≤ E.2.1.2.1 := z; omega, by omega⟩
theorem Ev_sld {i : Int32} (hd : decode M.2.1 pc = .ok (.iaload, 1)) (hi : vp_in i E.2.2.2.1) (kk : Ev E M a b (pc + 1) L (.int (E.2.2.2.2 i.toNatClampNeg) :: st) h Q) : Ev E M a b pc L (.int i :: .ref 1000 :: st) h Q := by
  intro p l e R s mid args below meth c H locs cells slots ls QQ C0 F ha hb hl kr
  have nb := x_nb C0.2.2.2.2.2.2.2.2
  exact va_sld C0.1 C0.2.1 C0.2.2.2.2.2.2.2.2.2.2.2.1 nb.2 nb.1 F.2.2.2 hi hd (kk p l e R s mid args below meth c H locs cells slots ls QQ C0 F ha hb hl kr)
theorem Ev_slen (hd : decode M.2.1 pc = .ok (.arraylength, 1)) (kk : Ev E M a b (pc + 1) L (.int (Int32.ofNat E.2.2.2.1) :: st) h Q) : Ev E M a b pc L (.ref 1000 :: st) h Q := by
  intro p l e R s mid args below meth c H locs cells slots ls QQ C0 F ha hb hl kr
  have nb := x_nb C0.2.2.2.2.2.2.2.2
  exact va_slen C0.1 C0.2.1 C0.2.2.2.2.2.2.2.2.2.2.2.1 nb.2 nb.1 F.2.2.2 hd (kk p l e R s mid args below meth c H locs cells slots ls QQ C0 F ha hb hl kr)
end
