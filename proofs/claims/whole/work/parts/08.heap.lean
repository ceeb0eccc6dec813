/-! fields, arrays, statics, what is made: rows over EV -/
theorem x_bool {x : Int32} (hx : x = 0 ∨ x = 1) : narrow .boolean (.int x) = .int x ∧ fits .boolean (.int x) = true := by
  rcases hx with rfl | rfl <;> exact ⟨by decide, by decide⟩
theorem x_bnar {x : Int32} (hx : x = 0 ∨ x = 1) : vp_nar .boolean x = x := by
  rcases hx with rfl | rfl <;> decide
section
variable {E : x_E} {M : x_M} {a b pc : Nat} {L : List (Option Value)} {st : List Value} {h : x_H} {Q : Int32 → x_H → Prop}
theorem x_nf_eq {ci : Nat} {q : vw_C} (hc : x_cls[ci]? = some q) : x_nf ci = q.2.2 := by simp only [x_nf, hc]
theorem x_fs_get (E : x_E) {ci P k : Nat} {q : vw_C} (hc : x_cls[ci]? = some q) (hk : k < q.2.2) : ((List.range (x_nf ci)).map (x_fv E h ci P))[k]? = some (x_fv E h ci P k) := by
  rw [x_nf_eq hc, List.getElem?_map, List.getElem?_range hk]
  rfl
theorem Ev_geti {P ci k index : Nat} {C : String} {T : u_T} {N : Nat} (hw : Cond.fieldLink M.1.cls index (T k).1 (T k).2.1 (T k).2.2.1 ∈ x_W) (hd : decode M.2.1 pc = .ok (.getfield index, 3)) (hc : x_cls[ci]? = some (C, T, N)) (hk : k < N) (hr : x_isR ci k = false) (hP : P < 1000) (hs : h.2.2[P]? = some (.inl ci))
    (kk : Ev E M a b (pc + 3) L (.int (h.1 P k) :: st) h Q) : Ev E M a b pc L (.ref P :: st) h Q := by
  intro p l e R s mid args below meth c H locs cells slots ls QQ C0 F ha hb hl kr
  show W p l e R s mid args below meth c H locs cells slots QQ (F0 mid pc ls (.ref (x_ad E P) :: st.map (x_cv E)))
  rw [x_ad_lt E hP]
  have hv : ((List.range (x_nf ci)).map (x_fv E h ci P))[k]? = some (.int (h.1 P k)) := by rw [x_fs_get E hc hk]; simp [x_fv, hr]
  exact va_get (D := E.1) (cl := x_cls) (ws := x_ws E h) (tys := x_tys E) C0.1 C0.2.1 C0.2.2.2.2.1 (x_clok ci _ hc).1 C0.2.2.2.1 F.1 F.2.1 P (x_ws_obj E h hs) hc k hk (C0.2.2.2.2.1 _ hw) (fun _ z => z) hv hd (kk p l e R s mid args below meth c H locs cells slots ls QQ C0 F ha hb hl kr)
theorem Ev_getr {P ci k index q : Nat} {C : String} {T : u_T} {N : Nat} (hw : Cond.fieldLink M.1.cls index (T k).1 (T k).2.1 (T k).2.2.1 ∈ x_W) (hd : decode M.2.1 pc = .ok (.getfield index, 3)) (hc : x_cls[ci]? = some (C, T, N)) (hk : k < N) (hr : x_isR ci k = true) (hP : P < 1000) (hs : h.2.2[P]? = some (.inl ci)) (hq : h.2.1 P k = some q)
    (kk : Ev E M a b (pc + 3) L (.ref q :: st) h Q) : Ev E M a b pc L (.ref P :: st) h Q := by
  intro p l e R s mid args below meth c H locs cells slots ls QQ C0 F ha hb hl kr
  show W p l e R s mid args below meth c H locs cells slots QQ (F0 mid pc ls (.ref (x_ad E P) :: st.map (x_cv E)))
  rw [x_ad_lt E hP]
  have hv : ((List.range (x_nf ci)).map (x_fv E h ci P))[k]? = some (.ref (x_ad E q)) := by rw [x_fs_get E hc hk]; simp [x_fv, hr, hq, va_rf]
  exact va_get (D := E.1) (cl := x_cls) (ws := x_ws E h) (tys := x_tys E) C0.1 C0.2.1 C0.2.2.2.2.1 (x_clok ci _ hc).1 C0.2.2.2.1 F.1 F.2.1 P (x_ws_obj E h hs) hc k hk (C0.2.2.2.2.1 _ hw) (fun _ z => z) hv hd (kk p l e R s mid args below meth c H locs cells slots ls QQ C0 F ha hb hl kr)
theorem Ev_getiN {P ci k index : Nat} {C host : String} {T : u_T} {N : Nat} (hw : Cond.fieldLinkNest M.1.cls index (T k).1 (T k).2.1 (T k).2.2.1 host ∈ x_N) (hd : decode M.2.1 pc = .ok (.getfield index, 3)) (hc : x_cls[ci]? = some (C, T, N)) (hk : k < N) (hr : x_isR ci k = false) (hP : P < 1000) (hs : h.2.2[P]? = some (.inl ci))
    (kk : Ev E M a b (pc + 3) L (.int (h.1 P k) :: st) h Q) : Ev E M a b pc L (.ref P :: st) h Q := by
  intro p l e R s mid args below meth c H locs cells slots ls QQ C0 F ha hb hl kr
  show W p l e R s mid args below meth c H locs cells slots QQ (F0 mid pc ls (.ref (x_ad E P) :: st.map (x_cv E)))
  rw [x_ad_lt E hP]
  have hv : ((List.range (x_nf ci)).map (x_fv E h ci P))[k]? = some (.int (h.1 P k)) := by rw [x_fs_get E hc hk]; simp [x_fv, hr]
  exact va_getN (D := E.1) (cl := x_cls) (ws := x_ws E h) (tys := x_tys E) C0.1 C0.2.1 C0.2.2.2.2.1 (x_clok ci _ hc).1 C0.2.2.2.1 F.1 F.2.1 P (x_ws_obj E h hs) hc k hk (x_N_use hw (C0.2.2.2.2.2.2.2.2.1 _ hw)) (fun _ z => z) hv hd (kk p l e R s mid args below meth c H locs cells slots ls QQ C0 F ha hb hl kr)
theorem Ev_getrN {P ci k index q : Nat} {C host : String} {T : u_T} {N : Nat} (hw : Cond.fieldLinkNest M.1.cls index (T k).1 (T k).2.1 (T k).2.2.1 host ∈ x_N) (hd : decode M.2.1 pc = .ok (.getfield index, 3)) (hc : x_cls[ci]? = some (C, T, N)) (hk : k < N) (hr : x_isR ci k = true) (hP : P < 1000) (hs : h.2.2[P]? = some (.inl ci)) (hq : h.2.1 P k = some q)
    (kk : Ev E M a b (pc + 3) L (.ref q :: st) h Q) : Ev E M a b pc L (.ref P :: st) h Q := by
  intro p l e R s mid args below meth c H locs cells slots ls QQ C0 F ha hb hl kr
  show W p l e R s mid args below meth c H locs cells slots QQ (F0 mid pc ls (.ref (x_ad E P) :: st.map (x_cv E)))
  rw [x_ad_lt E hP]
  have hv : ((List.range (x_nf ci)).map (x_fv E h ci P))[k]? = some (.ref (x_ad E q)) := by rw [x_fs_get E hc hk]; simp [x_fv, hr, hq, va_rf]
  exact va_getN (D := E.1) (cl := x_cls) (ws := x_ws E h) (tys := x_tys E) C0.1 C0.2.1 C0.2.2.2.2.1 (x_clok ci _ hc).1 C0.2.2.2.1 F.1 F.2.1 P (x_ws_obj E h hs) hc k hk (x_N_use hw (C0.2.2.2.2.2.2.2.2.1 _ hw)) (fun _ z => z) hv hd (kk p l e R s mid args below meth c H locs cells slots ls QQ C0 F ha hb hl kr)
/-- an int or a boolean fits -/
def x_okv (ci k : Nat) (x : Int32) : Prop := x_fty ci k = .int ∨ (x_fty ci k = .boolean ∧ (x = 0 ∨ x = 1))
theorem x_okv.R {ci k : Nat} {x : Int32} (h : x_okv ci k x) : x_isR ci k = false := by
  rcases h with h | ⟨h, -⟩ <;> simp [x_isR, h]
theorem x_okv.fit {ci k : Nat} {x : Int32} (h : x_okv ci k x) : narrow (x_fty ci k) (.int x) = .int x ∧ fits (x_fty ci k) (.int x) = true := by
  rcases h with h | ⟨h, hx⟩
  · rw [h]; exact ⟨rfl, rfl⟩
  · rw [h]; exact x_bool hx
theorem Ev_puti {P ci k index : Nat} {x : Int32} {C : String} {T : u_T} {N : Nat} (hw : Cond.fieldLink M.1.cls index (T k).1 (T k).2.1 (T k).2.2.1 ∈ x_W) (hd : decode M.2.1 pc = .ok (.putfield index, 3)) (hc : x_cls[ci]? = some (C, T, N)) (hk : k < N) (hfin : (T k).2.2.2 = false) (hP : P < 1000) (hs : h.2.2[P]? = some (.inl ci)) (hx : x_okv ci k x)
    (kk : Ev E M a b (pc + 3) L st (x_up h.1 P k x, h.2.1, h.2.2) Q) : Ev E M a b pc L (.int x :: .ref P :: st) h Q := by
  intro p l e R s mid args below meth c H locs cells slots ls QQ C0 F ha hb hl kr
  show W p l e R s mid args below meth c H locs cells slots QQ (F0 mid pc ls (.int x :: .ref (x_ad E P) :: st.map (x_cv E)))
  rw [x_ad_lt E hP]
  obtain ⟨hin, hty, hnm, -⟩ := x_clok ci _ hc
  have hts := C0.2.2.2.2.1
  have he := x_ws_obj E h hs
  have hap := va_apart (own := M.1.cls) hts hin (x_fty ci) hty hnm F.1 hc
  obtain ⟨r, h1, cell, q1, q2, q3, q4⟩ := F.2.1 P _ he
  have hr : r = (C, T, N) := Option.some.inj (h1.symm.trans hc)
  subst hr
  obtain ⟨hS, hfc, kC, hkC, hkind⟩ := F.1.1 ci _ hc
  obtain ⟨cf, kf, fi, f, hi, hsl⟩ := hS k hk
  have hlay := hts _ (hin _ (u_in_lay hk))
  unfold u_lay at hlay
  rw [if_neg (by rw [hfin]; decide)] at hlay
  have hst := (u_facts hfc hkC (u_lays hts hin hk) hi).1
  have h6 := u_store hfc hkC hkind hlay hi (hty k hk) hx.fit.1 hx.fit.2
  refine W.putK C0.1 C0.2.1 (f := f) ⟨C0.2.2.2.1, hts _ hw, ⟨_, _, _, hi⟩, hst⟩ (by rw [q2]; exact h6) q1 q3 (by rw [hsl]; exact k2_hasslot (q4 k hk)) rfl rfl hd fun H' e1 e2 e3 => ?_
  rw [hsl] at e1 ⊢
  have hl2 : k < ((List.range (x_nf ci)).map (x_fv E h ci P)).length := by rw [List.length_map, List.length_range, x_nf_eq hc]; exact hk
  have hP' := F.2.1.set (x_ws_D E h) he (e := .inr (ci, ((List.range (x_nf ci)).map (x_fv E h ci P)).set k (.int x))) ⟨_, hc, t_OB.to (V := updV (vp_V ((List.range (x_nf ci)).map (x_fv E h ci P))) k (.int x)) ⟨_, e1, q2, q3, t_set q4 hap hk (.int x)⟩ (fun j _ => vp_updV_set hl2 (.int x) j)⟩ e3
  rw [x_ws_seti E h x hs hx.R] at hP'
  exact kk p l e R s mid args below meth c H' _ cells slots ls QQ C0 ⟨F.1, hP', e2.trans F.2.2.1, F.2.2.2.put e2 e3 (Nat.le_add_right _ _)⟩ ha hb hl kr
theorem Ev_putiN {P ci k index : Nat} {x : Int32} {C host : String} {T : u_T} {N : Nat} (hw : Cond.fieldLinkNest M.1.cls index (T k).1 (T k).2.1 (T k).2.2.1 host ∈ x_N) (hd : decode M.2.1 pc = .ok (.putfield index, 3)) (hc : x_cls[ci]? = some (C, T, N)) (hk : k < N) (hfin : (T k).2.2.2 = false) (hP : P < 1000) (hs : h.2.2[P]? = some (.inl ci)) (hx : x_okv ci k x)
    (kk : Ev E M a b (pc + 3) L st (x_up h.1 P k x, h.2.1, h.2.2) Q) : Ev E M a b pc L (.int x :: .ref P :: st) h Q := by
  intro p l e R s mid args below meth c H locs cells slots ls QQ C0 F ha hb hl kr
  show W p l e R s mid args below meth c H locs cells slots QQ (F0 mid pc ls (.int x :: .ref (x_ad E P) :: st.map (x_cv E)))
  rw [x_ad_lt E hP]
  obtain ⟨hin, hty, hnm, -⟩ := x_clok ci _ hc
  have hts := C0.2.2.2.2.1
  have he := x_ws_obj E h hs
  have hap := va_apart (own := M.1.cls) hts hin (x_fty ci) hty hnm F.1 hc
  obtain ⟨r, h1, cell, q1, q2, q3, q4⟩ := F.2.1 P _ he
  have hr : r = (C, T, N) := Option.some.inj (h1.symm.trans hc)
  subst hr
  obtain ⟨hS, hfc, kC, hkC, hkind⟩ := F.1.1 ci _ hc
  obtain ⟨cf, kf, fi, f, hi, hsl⟩ := hS k hk
  have hlay := hts _ (hin _ (u_in_lay hk))
  unfold u_lay at hlay
  rw [if_neg (by rw [hfin]; decide)] at hlay
  have hst := (u_facts hfc hkC (u_lays hts hin hk) hi).1
  have h6 := u_store hfc hkC hkind hlay hi (hty k hk) hx.fit.1 hx.fit.2
  refine va_WputK C0.1 C0.2.1 (f := f) C0.2.2.2.1 (x_N_use hw (C0.2.2.2.2.2.2.2.2.1 _ hw)) hi hst (by rw [q2]; exact h6) q1 q3 (by rw [hsl]; exact k2_hasslot (q4 k hk)) rfl rfl hd fun H' e1 e2 e3 => ?_
  rw [hsl] at e1 ⊢
  have hl2 : k < ((List.range (x_nf ci)).map (x_fv E h ci P)).length := by rw [List.length_map, List.length_range, x_nf_eq hc]; exact hk
  have hP' := F.2.1.set (x_ws_D E h) he (e := .inr (ci, ((List.range (x_nf ci)).map (x_fv E h ci P)).set k (.int x))) ⟨_, hc, t_OB.to (V := updV (vp_V ((List.range (x_nf ci)).map (x_fv E h ci P))) k (.int x)) ⟨_, e1, q2, q3, t_set q4 hap hk (.int x)⟩ (fun j _ => vp_updV_set hl2 (.int x) j)⟩ e3
  rw [x_ws_seti E h x hs hx.R] at hP'
  exact kk p l e R s mid args below meth c H' _ cells slots ls QQ C0 ⟨F.1, hP', e2.trans F.2.2.1, F.2.2.2.put e2 e3 (Nat.le_add_right _ _)⟩ ha hb hl kr
/-- a final field, in its constructor -/
theorem x_putF {P ci k index : Nat} {v : Value} {C : String} {T : u_T} {N : Nat} {h' : x_H} (hw : Cond.fieldLink M.1.cls index (T k).1 (T k).2.1 (T k).2.2.1 ∈ x_W) (hd : decode M.2.1 pc = .ok (.putfield index, 3)) (hc : x_cls[ci]? = some (C, T, N)) (hk : k < N) (hfin : (T k).2.2.2 = true) (hown : M.1.cls = C) (hini : M.1.name = "<init>") (hP : P < 1000) (hs : h.2.2[P]? = some (.inl ci))
    (hfit : ∀ E : x_E, narrow (x_fty ci k) (x_cv E v) = x_cv E v ∧ fits (x_fty ci k) (x_cv E v) = true) (hlen : h'.2.2.length = h.2.2.length)
    (hset : ∀ E : x_E, (x_ws E h).set P (E.2.1.1 + P, .inr (ci, ((List.range (x_nf ci)).map (x_fv E h ci P)).set k (x_cv E v))) = x_ws E h')
    (kk : Ev E M a b (pc + 3) L st h' Q) : Ev E M a b pc L (v :: .ref P :: st) h Q := by
  intro p l e R s mid args below meth c H locs cells slots ls QQ C0 F ha hb hl kr
  show W p l e R s mid args below meth c H locs cells slots QQ (F0 mid pc ls (x_cv E v :: .ref (x_ad E P) :: st.map (x_cv E)))
  rw [x_ad_lt E hP]
  obtain ⟨hin, hty, hnm, hdecl, -⟩ := x_clok ci _ hc
  have hts := C0.2.2.2.2.1
  have he := x_ws_obj E h hs
  have hap := va_apart (own := M.1.cls) hts hin (x_fty ci) hty hnm F.1 hc
  obtain ⟨r, h1, cell, q1, q2, q3, q4⟩ := F.2.1 P _ he
  have hr : r = (C, T, N) := Option.some.inj (h1.symm.trans hc)
  subst hr
  obtain ⟨hS, hfc, kC, hkC, hkind⟩ := F.1.1 ci _ hc
  obtain ⟨cf, kf, fi, f, hi, hsl⟩ := hS k hk
  have hlay := hts _ (hin _ (u_in_lay hk))
  unfold u_lay at hlay
  rw [if_pos hfin] at hlay
  have hst := (u_facts hfc hkC (u_lays hts hin hk) hi).1
  have hcf : mid.cls = cf := by
    obtain ⟨_, _, c', _, _, _, -, -, hf', -, -, -, hown2, -⟩ := Cond.laysFinal_spec hlay
    have e1 : c' = cf := by have := hi.symm.trans hf'; simp at this; exact this.1.symm
    have e2 : (T k).1 = M.1.cls := (hdecl k hk).trans hown.symm
    rw [e2] at hown2
    rw [← e1]; exact Option.some.inj (C0.2.2.2.1.symm.trans hown2)
  have h6 := u_fits hfc hkC hkind (Or.inr hlay) hi (hty k hk) (hfit E).1 (hfit E).2
  refine W.putFinK C0.1 C0.2.1 C0.2.2.2.1 (hts _ hw) hi hst hcf (C0.2.2.2.2.2.1 hini) (by rw [q2]; exact h6) q1 q3 (by rw [hsl]; exact k2_hasslot (q4 k hk)) rfl rfl hd fun H' e1 e2 e3 => ?_
  rw [hsl] at e1 ⊢
  have hl2 : k < ((List.range (x_nf ci)).map (x_fv E h ci P)).length := by rw [List.length_map, List.length_range, x_nf_eq hc]; exact hk
  have hP' := F.2.1.set (x_ws_D E h) he (e := .inr (ci, ((List.range (x_nf ci)).map (x_fv E h ci P)).set k (x_cv E v))) ⟨_, hc, t_OB.to (V := updV (vp_V ((List.range (x_nf ci)).map (x_fv E h ci P))) k (x_cv E v)) ⟨_, e1, q2, q3, t_set q4 hap hk (x_cv E v)⟩ (fun j _ => vp_updV_set hl2 (x_cv E v) j)⟩ e3
  rw [hset E] at hP'
  exact kk p l e R s mid args below meth c H' _ cells slots ls QQ C0 ⟨F.1, hP', by rw [hlen]; exact e2.trans F.2.2.1, F.2.2.2.put e2 e3 (Nat.le_add_right _ _)⟩ ha hb hl kr
theorem Ev_putiF {P ci k index : Nat} {x : Int32} {C : String} {T : u_T} {N : Nat} (hw : Cond.fieldLink M.1.cls index (T k).1 (T k).2.1 (T k).2.2.1 ∈ x_W) (hd : decode M.2.1 pc = .ok (.putfield index, 3)) (hc : x_cls[ci]? = some (C, T, N)) (hk : k < N) (hfin : (T k).2.2.2 = true) (hown : M.1.cls = C) (hini : M.1.name = "<init>") (hP : P < 1000) (hs : h.2.2[P]? = some (.inl ci)) (hx : x_okv ci k x)
    (kk : Ev E M a b (pc + 3) L st (x_up h.1 P k x, h.2.1, h.2.2) Q) : Ev E M a b pc L (.int x :: .ref P :: st) h Q :=
  x_putF (h' := (x_up h.1 P k x, h.2.1, h.2.2)) hw hd hc hk hfin hown hini hP hs (fun _ => hx.fit) rfl (fun E => x_ws_seti E h x hs hx.R) kk
theorem Ev_putrF {P ci k index q : Nat} {C : String} {T : u_T} {N : Nat} (hw : Cond.fieldLink M.1.cls index (T k).1 (T k).2.1 (T k).2.2.1 ∈ x_W) (hd : decode M.2.1 pc = .ok (.putfield index, 3)) (hc : x_cls[ci]? = some (C, T, N)) (hk : k < N) (hfin : (T k).2.2.2 = true) (hown : M.1.cls = C) (hini : M.1.name = "<init>") (hP : P < 1000) (hs : h.2.2[P]? = some (.inl ci)) (hr : x_isR ci k = true) (hfit : ∀ z : Nat, narrow (x_fty ci k) (.ref z) = .ref z ∧ fits (x_fty ci k) (.ref z) = true)
    (kk : Ev E M a b (pc + 3) L st (h.1, x_upR h.2.1 P k q, h.2.2) Q) : Ev E M a b pc L (.ref q :: .ref P :: st) h Q :=
  x_putF (h' := (h.1, x_upR h.2.1 P k q, h.2.2)) hw hd hc hk hfin hown hini hP hs (fun E => hfit (x_ad E q)) rfl (fun E => x_ws_setr E h q hs hr) kk
/-! arrays -/
theorem x_ty_at (E : x_E) : (x_tys E)[0]? = some (x_ca E 0, .int) ∧ (x_tys E)[1]? = some (x_ca E 1, .byte) ∧ (x_tys E)[2]? = some (x_ca E 2, .boolean) := ⟨rfl, rfl, rfl⟩
theorem Ev_iald {P n : Nat} {i : Int32} (hd : decode M.2.1 pc = .ok (.iaload, 1)) (hP : P < 1000) (hs : h.2.2[P]? = some (.inr (0, n))) (hi : vp_in i n) (kk : Ev E M a b (pc + 1) L (.int (h.1 P i.toNatClampNeg) :: st) h Q) : Ev E M a b pc L (.int i :: .ref P :: st) h Q := by
  intro p l e R s mid args below meth c H locs cells slots ls QQ C0 F ha hb hl kr
  show W p l e R s mid args below meth c H locs cells slots QQ (F0 mid pc ls (.int i :: .ref (x_ad E P) :: st.map (x_cv E)))
  rw [x_ad_lt E hP]
  exact va_iald (D := E.1) (cl := x_cls) (ws := x_ws E h) (tys := x_tys E) C0.1 C0.2.1 F.1 F.2.1 P 0 (x_ws_arr E h hs) (x_ty_at E).1 hi hd (kk p l e R s mid args below meth c H locs cells slots ls QQ C0 F ha hb hl kr)
theorem Ev_bald {P n : Nat} {i : Int32} (hd : decode M.2.1 pc = .ok (.baload, 1)) (hP : P < 1000) (hs : h.2.2[P]? = some (.inr (1, n))) (hi : vp_in i n) (kk : Ev E M a b (pc + 1) L (.int (h.1 P i.toNatClampNeg) :: st) h Q) : Ev E M a b pc L (.int i :: .ref P :: st) h Q := by
  intro p l e R s mid args below meth c H locs cells slots ls QQ C0 F ha hb hl kr
  show W p l e R s mid args below meth c H locs cells slots QQ (F0 mid pc ls (.int i :: .ref (x_ad E P) :: st.map (x_cv E)))
  rw [x_ad_lt E hP]
  exact va_bald (D := E.1) (cl := x_cls) (ws := x_ws E h) (tys := x_tys E) C0.1 C0.2.1 F.1 F.2.1 P 1 (x_ws_arr E h hs) (x_ty_at E).2.1 hi hd (kk p l e R s mid args below meth c H locs cells slots ls QQ C0 F ha hb hl kr)
theorem Ev_zald {P n : Nat} {i : Int32} (hd : decode M.2.1 pc = .ok (.baload, 1)) (hP : P < 1000) (hs : h.2.2[P]? = some (.inr (2, n))) (hi : vp_in i n) (kk : Ev E M a b (pc + 1) L (.int (h.1 P i.toNatClampNeg) :: st) h Q) : Ev E M a b pc L (.int i :: .ref P :: st) h Q := by
  intro p l e R s mid args below meth c H locs cells slots ls QQ C0 F ha hb hl kr
  show W p l e R s mid args below meth c H locs cells slots QQ (F0 mid pc ls (.int i :: .ref (x_ad E P) :: st.map (x_cv E)))
  rw [x_ad_lt E hP]
  exact va_zald (D := E.1) (cl := x_cls) (ws := x_ws E h) (tys := x_tys E) C0.1 C0.2.1 F.1 F.2.1 P 2 (x_ws_arr E h hs) (x_ty_at E).2.2 hi hd (kk p l e R s mid args below meth c H locs cells slots ls QQ C0 F ha hb hl kr)
theorem x_arr_set (E : x_E) {P n ty : Nat} {i : Int32} {v : Int32} {H H' : Heap} (F : va_P E.1 x_cls (x_ws E h) H) (hs : h.2.2[P]? = some (.inr (ty, n))) (hi : vp_in i n)
    (e1 : H'[E.2.1.1 + P]? = some ((vp_cell (x_ca E ty) (n, .inl (h.1 P))).setSlot i.toNatClampNeg (.int v))) (e3 : ∀ q, q ≠ E.2.1.1 + P → H'[q]? = H[q]?) : va_P E.1 x_cls (x_ws E (x_up h.1 P i.toNatClampNeg v, h.2.1, h.2.2)) H' := by
  have hP' := F.set (x_ws_D E h) (x_ws_arr E h hs) (e := .inl (x_ca E ty, n, .inl (upd (h.1 P) i.toNatClampNeg v))) (H1 := H') ?_ e3
  · rw [x_ws_seta E h v hs] at hP'
    exact hP'
  · show H'[E.2.1.1 + P]? = some (vp_cell _ _)
    rw [e1]
    rw [vp_cell_i, vp_cell_i, arrV_store]
    congr 2
    funext q
    by_cases hq : q = i.toNatClampNeg
    · subst hq
      simp [updV, upd]
    · simp [updV, upd, hq]
theorem Ev_iast {P n : Nat} {i x : Int32} (hd : decode M.2.1 pc = .ok (.iastore, 1)) (hP : P < 1000) (hs : h.2.2[P]? = some (.inr (0, n))) (hi : vp_in i n) (kk : Ev E M a b (pc + 1) L st (x_up h.1 P i.toNatClampNeg x, h.2.1, h.2.2) Q) : Ev E M a b pc L (.int x :: .int i :: .ref P :: st) h Q := by
  intro p l e R s mid args below meth c H locs cells slots ls QQ C0 F ha hb hl kr
  show W p l e R s mid args below meth c H locs cells slots QQ (F0 mid pc ls (.int x :: .int i :: .ref (x_ad E P) :: st.map (x_cv E)))
  rw [x_ad_lt E hP]
  refine W.iast C0.1 C0.2.1 (F.2.1 P _ (x_ws_arr E h hs)) ((F.1.2 0 _ (x_ty_at E).1).1 n (fun j => .int (h.1 P j))) (fun q => by cases q) (by show ¬ (i < 0 ∨ (arrV _ _ _).slots.size ≤ _); rw [arrV_size]; exact hi) rfl rfl hd fun H' e1 e2 e3 => ?_
  exact kk p l e R s mid args below meth c H' _ cells slots ls QQ C0 ⟨F.1, x_arr_set E F.2.1 hs hi e1 e3, e2.trans F.2.2.1, F.2.2.2.put e2 e3 (Nat.le_add_right _ _)⟩ ha hb hl kr
theorem Ev_bast {P n : Nat} {i x : Int32} (hd : decode M.2.1 pc = .ok (.bastore, 1)) (hP : P < 1000) (hs : h.2.2[P]? = some (.inr (1, n))) (hi : vp_in i n) (kk : Ev E M a b (pc + 1) L st (x_up h.1 P i.toNatClampNeg x.toInt8.toInt32, h.2.1, h.2.2) Q) : Ev E M a b pc L (.int x :: .int i :: .ref P :: st) h Q := by
  intro p l e R s mid args below meth c H locs cells slots ls QQ C0 F ha hb hl kr
  show W p l e R s mid args below meth c H locs cells slots QQ (F0 mid pc ls (.int x :: .int i :: .ref (x_ad E P) :: st.map (x_cv E)))
  rw [x_ad_lt E hP]
  refine W.bast C0.1 C0.2.1 (F.2.1 P _ (x_ws_arr E h hs)) ((F.1.2 1 _ (x_ty_at E).2.1).1 n (fun j => .int (h.1 P j))) (fun q => by cases q) (by show ¬ (i < 0 ∨ (arrV _ _ _).slots.size ≤ _); rw [arrV_size]; exact hi) rfl rfl hd fun H' e1 e2 e3 => ?_
  exact kk p l e R s mid args below meth c H' _ cells slots ls QQ C0 ⟨F.1, x_arr_set E F.2.1 hs hi e1 e3, e2.trans F.2.2.1, F.2.2.2.put e2 e3 (Nat.le_add_right _ _)⟩ ha hb hl kr
theorem Ev_zast {P n : Nat} {i x : Int32} (hd : decode M.2.1 pc = .ok (.bastore, 1)) (hP : P < 1000) (hs : h.2.2[P]? = some (.inr (2, n))) (hi : vp_in i n) (hx : x = 0 ∨ x = 1) (kk : Ev E M a b (pc + 1) L st (x_up h.1 P i.toNatClampNeg x, h.2.1, h.2.2) Q) : Ev E M a b pc L (.int x :: .int i :: .ref P :: st) h Q := by
  intro p l e R s mid args below meth c H locs cells slots ls QQ C0 F ha hb hl kr
  show W p l e R s mid args below meth c H locs cells slots QQ (F0 mid pc ls (.int x :: .int i :: .ref (x_ad E P) :: st.map (x_cv E)))
  rw [x_ad_lt E hP]
  refine W.zast C0.1 C0.2.1 (F.2.1 P _ (x_ws_arr E h hs)) ((F.1.2 2 _ (x_ty_at E).2.2).1 n (fun j => .int (h.1 P j))) (fun q => by cases q) (by show ¬ (i < 0 ∨ (arrV _ _ _).slots.size ≤ _); rw [arrV_size]; exact hi) rfl rfl hd fun H' e1 e2 e3 => ?_
  rw [(x_bool hx).1] at e1
  exact kk p l e R s mid args below meth c H' _ cells slots ls QQ C0 ⟨F.1, x_arr_set E F.2.1 hs hi e1 e3, e2.trans F.2.2.1, F.2.2.2.put e2 e3 (Nat.le_add_right _ _)⟩ ha hb hl kr
theorem Ev_alen {P n ty : Nat} {v : Int32} (hd : decode M.2.1 pc = .ok (.arraylength, 1)) (hP : P < 1000) (hs : h.2.2[P]? = some (.inr (ty, n))) (hv : Int32.ofNat n = v) (kk : Ev E M a b (pc + 1) L (.int v :: st) h Q) : Ev E M a b pc L (.ref P :: st) h Q := by
  intro p l e R s mid args below meth c H locs cells slots ls QQ C0 F ha hb hl kr
  show W p l e R s mid args below meth c H locs cells slots QQ (F0 mid pc ls (.ref (x_ad E P) :: st.map (x_cv E)))
  rw [x_ad_lt E hP]
  have hty : ∃ (t0 : Nat) (tt : FieldType), (x_tys E)[t0]? = some (x_ca E ty, tt) := by
    match ty with
    | 0 => exact ⟨0, _, rfl⟩
    | 1 => exact ⟨1, _, rfl⟩
    | k + 2 => exact ⟨2, _, rfl⟩
  obtain ⟨t0, tt, ht⟩ := hty
  exact va_alen (D := E.1) (cl := x_cls) (ws := x_ws E h) (tys := x_tys E) C0.1 C0.2.1 F.1 F.2.1 P t0 (x_ws_arr E h hs) ht hv hd (kk p l e R s mid args below meth c H locs cells slots ls QQ C0 F ha hb hl kr)
end
