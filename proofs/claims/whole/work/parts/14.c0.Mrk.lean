/-! printed by wip/gen/gen4.py: TrainGuard$MarkRow -/
def F_Mrk_clear_5 (p0 : Nat) (c : x_S) : Option (Int32 × x_S) := some (0, c)
theorem T_Mrk_clear_5 {E : x_E} {o : x_S} {Q : Int32 → x_H → Prop} {p0 : Nat} (hp0 : x_mark p0) {l0 : Option Value} {c : x_S} {r : Int32} {s : x_S} (hF : F_Mrk_clear_5 p0 c = some (r, s)) (hQ : Q r (hpk s o)) : Ev E m_Mrk_clear 0 0 5 [l0] [] (hpk c o) Q := by
  unfold F_Mrk_clear_5 at hF
  cases hF
  exact Ev_return d_Mrk_clear_5 rfl hQ
def F_Mrk_clear (p0 : Nat) (c : x_S) : Option (Int32 × x_S) := F_Mrk_clear_5 p0 (x_up c p0 4 (0 : Int32))
theorem C_Mrk_clear {E : x_E} {o : x_S} {Q : Int32 → x_H → Prop} {p0 : Nat} (hp0 : x_mark p0) {c : x_S} {r : Int32} {s : x_S} (hF : F_Mrk_clear p0 c = some (r, s)) (hQ : Q r (hpk s o)) : Call E m_Mrk_clear 0 0 [.ref p0] (hpk c o) Q := by
  refine Call_of (L := [some (.ref p0)]) (by decide) (by intro v hv; simp only [List.mem_cons, List.not_mem_nil, or_false] at hv; rw [hv]; rfl) (Nat.le_of_ble_eq_true rfl) rfl ?_
  unfold F_Mrk_clear at hF
  refine Ev_aload_n d_Mrk_clear_0 rfl ?_
  refine Ev_iconst (v := 0) d_Mrk_clear_1 (by decide) ?_
  refine q_Mrk_25 hp0 rfl d_Mrk_clear_2 ?_
  exact T_Mrk_clear_5 hp0 hF hQ
def F_Mrk_add_59 (p0 : Nat) (c : x_S) : Option (Int32 × x_S) := some (0, c)
theorem T_Mrk_add_59 {E : x_E} {o : x_S} {Q : Int32 → x_H → Prop} {p0 : Nat} (hp0 : x_mark p0) {l0 : Option Value} {l1 : Option Value} {l2 : Option Value} {l3 : Option Value} {c : x_S} {r : Int32} {s : x_S} (hF : F_Mrk_add_59 p0 c = some (r, s)) (hQ : Q r (hpk s o)) : Ev E m_Mrk_add 0 0 59 [l0, l1, l2, l3] [] (hpk c o) Q := by
  unfold F_Mrk_add_59 at hF
  cases hF
  exact Ev_return d_Mrk_add_59 rfl hQ
def F_Mrk_add_49 (p0 : Nat) (c : x_S) : Option (Int32 × x_S) := F_Mrk_add_59 p0 (x_up c p0 4 ((c p0 4) + (1 : Int32)))
theorem T_Mrk_add_49 {E : x_E} {o : x_S} {Q : Int32 → x_H → Prop} {p0 : Nat} (hp0 : x_mark p0) {l1 : Option Value} {l2 : Option Value} {l3 : Option Value} {c : x_S} {r : Int32} {s : x_S} (hF : F_Mrk_add_49 p0 c = some (r, s)) (hQ : Q r (hpk s o)) : Ev E m_Mrk_add 0 0 49 [some (.ref p0), l1, l2, l3] [] (hpk c o) Q := by
  unfold F_Mrk_add_49 at hF
  refine Ev_aload_n d_Mrk_add_49 rfl ?_
  refine Ev_dup d_Mrk_add_50 rfl ?_
  refine g_Mrk_25 hp0 rfl d_Mrk_add_51 ?_
  refine Ev_iconst (v := 1) d_Mrk_add_54 (by decide) ?_
  refine Ev_iadd d_Mrk_add_55 ?_
  refine q_Mrk_25 hp0 rfl d_Mrk_add_56 ?_
  exact T_Mrk_add_59 hp0 hF hQ
def F_Mrk_add_39 (p0 : Nat) (c : x_S) : Option (Int32 × x_S) := x_ix (c p0 4) 7 (fun j1 => F_Mrk_add_49 p0 (x_up c (p0 + 4) j1 (0 : Int32)))
theorem T_Mrk_add_39 {E : x_E} {o : x_S} {Q : Int32 → x_H → Prop} {p0 : Nat} (hp0 : x_mark p0) {l1 : Option Value} {l2 : Option Value} {l3 : Option Value} {c : x_S} {r : Int32} {s : x_S} (hF : F_Mrk_add_39 p0 c = some (r, s)) (hQ : Q r (hpk s o)) : Ev E m_Mrk_add 0 0 39 [some (.ref p0), l1, l2, l3] [] (hpk c o) Q := by
  unfold F_Mrk_add_39 at hF
  refine Ev_aload_n d_Mrk_add_39 rfl ?_
  refine g_Mrk_21 hp0 rfl d_Mrk_add_40 ?_
  refine Ev_aload_n d_Mrk_add_43 rfl ?_
  refine g_Mrk_25 hp0 rfl d_Mrk_add_44 ?_
  refine Ev_iconst (v := 0) d_Mrk_add_47 (by decide) ?_
  obtain ⟨j1, hij1, hjj1, hF⟩ := x_ix_some hF
  refine Ec_zast d_Mrk_add_48 (P := (p0 + 4)) (x_markA hp0).2.1 (x_markA hp0).2.2 hij1 hjj1 (Or.inl rfl) ?_
  exact T_Mrk_add_49 hp0 hF hQ
def F_Mrk_add_29 (p0 : Nat) (x3 : Int32) (c : x_S) : Option (Int32 × x_S) := x_ix (c p0 4) 7 (fun j1 => F_Mrk_add_39 p0 (x_up c (p0 + 3) j1 x3))
theorem T_Mrk_add_29 {E : x_E} {o : x_S} {Q : Int32 → x_H → Prop} {p0 : Nat} (hp0 : x_mark p0) {l1 : Option Value} {l2 : Option Value} {x3 : Int32} {c : x_S} {r : Int32} {s : x_S} (hF : F_Mrk_add_29 p0 x3 c = some (r, s)) (hQ : Q r (hpk s o)) : Ev E m_Mrk_add 0 0 29 [some (.ref p0), l1, l2, some (.int x3)] [] (hpk c o) Q := by
  unfold F_Mrk_add_29 at hF
  refine Ev_aload_n d_Mrk_add_29 rfl ?_
  refine g_Mrk_18 hp0 rfl d_Mrk_add_30 ?_
  refine Ev_aload_n d_Mrk_add_33 rfl ?_
  refine g_Mrk_25 hp0 rfl d_Mrk_add_34 ?_
  refine Ev_iload_n d_Mrk_add_37 rfl ?_
  obtain ⟨j1, hij1, hjj1, hF⟩ := x_ix_some hF
  refine Ec_iast d_Mrk_add_38 (P := (p0 + 3)) ((x_markA hp0).1 2 (by decide)).1 ((x_markA hp0).1 2 (by decide)).2 hij1 hjj1 ?_
  exact T_Mrk_add_39 hp0 hF hQ
def F_Mrk_add_19 (p0 : Nat) (x2 x3 : Int32) (c : x_S) : Option (Int32 × x_S) := x_ix (c p0 4) 7 (fun j1 => F_Mrk_add_29 p0 x3 (x_up c (p0 + 2) j1 x2))
theorem T_Mrk_add_19 {E : x_E} {o : x_S} {Q : Int32 → x_H → Prop} {p0 : Nat} (hp0 : x_mark p0) {l1 : Option Value} {x2 x3 : Int32} {c : x_S} {r : Int32} {s : x_S} (hF : F_Mrk_add_19 p0 x2 x3 c = some (r, s)) (hQ : Q r (hpk s o)) : Ev E m_Mrk_add 0 0 19 [some (.ref p0), l1, some (.int x2), some (.int x3)] [] (hpk c o) Q := by
  unfold F_Mrk_add_19 at hF
  refine Ev_aload_n d_Mrk_add_19 rfl ?_
  refine g_Mrk_15 hp0 rfl d_Mrk_add_20 ?_
  refine Ev_aload_n d_Mrk_add_23 rfl ?_
  refine g_Mrk_25 hp0 rfl d_Mrk_add_24 ?_
  refine Ev_iload_n d_Mrk_add_27 rfl ?_
  obtain ⟨j1, hij1, hjj1, hF⟩ := x_ix_some hF
  refine Ec_iast d_Mrk_add_28 (P := (p0 + 2)) ((x_markA hp0).1 1 (by decide)).1 ((x_markA hp0).1 1 (by decide)).2 hij1 hjj1 ?_
  exact T_Mrk_add_29 hp0 hF hQ
def F_Mrk_add (p0 : Nat) (x1 x2 x3 : Int32) (c : x_S) : Option (Int32 × x_S) := if (7 : Int32) ≤ (c p0 4) then (F_Mrk_add_59 p0 c) else (x_ix (c p0 4) 7 (fun j2 => F_Mrk_add_19 p0 x2 x3 (x_up c (p0 + 1) j2 x1)))
theorem C_Mrk_add {E : x_E} {o : x_S} {Q : Int32 → x_H → Prop} {p0 : Nat} (hp0 : x_mark p0) {x1 x2 x3 : Int32} {c : x_S} {r : Int32} {s : x_S} (hF : F_Mrk_add p0 x1 x2 x3 c = some (r, s)) (hQ : Q r (hpk s o)) : Call E m_Mrk_add 0 0 [.ref p0, .int x1, .int x2, .int x3] (hpk c o) Q := by
  refine Call_of (L := [some (.ref p0), some (.int x1), some (.int x2), some (.int x3)]) (by decide) (by intro v hv; simp only [List.mem_cons, List.not_mem_nil, or_false] at hv; rcases hv with rfl | rfl | rfl | rfl <;> rfl) (Nat.le_of_ble_eq_true rfl) rfl ?_
  unfold F_Mrk_add at hF
  refine Ev_aload_n d_Mrk_add_0 rfl ?_
  refine g_Mrk_25 hp0 rfl d_Mrk_add_1 ?_
  refine Ev_bipush (v := (7)) d_Mrk_add_4 (by decide) ?_
  refine Ev_icmp_ge (tgt := 59) d_Mrk_add_6 rfl (fun h1 => ?_) (fun h1 => ?_)
  · rw [if_pos h1] at hF
    exact T_Mrk_add_59 hp0 hF hQ
  · rw [if_neg h1] at hF
    refine Ev_aload_n d_Mrk_add_9 rfl ?_
    refine g_Mrk_9 hp0 rfl d_Mrk_add_10 ?_
    refine Ev_aload_n d_Mrk_add_13 rfl ?_
    refine g_Mrk_25 hp0 rfl d_Mrk_add_14 ?_
    refine Ev_iload_n d_Mrk_add_17 rfl ?_
    obtain ⟨j2, hij2, hjj2, hF⟩ := x_ix_some hF
    refine Ec_iast d_Mrk_add_18 (P := (p0 + 1)) ((x_markA hp0).1 0 (by decide)).1 ((x_markA hp0).1 0 (by decide)).2 hij2 hjj2 ?_
    exact T_Mrk_add_19 hp0 hF hQ
def F_Mrk_copyFrom_36 (p0 : Nat) (p1 : Nat) (K : Int32 → x_S → Option (Int32 × x_S)) (x2 : Int32) (c : x_S) : Option (Int32 × x_S) := K (x2 + (1 : Int32)) c
theorem T_Mrk_copyFrom_36 {E : x_E} {o : x_S} {Q : Int32 → x_H → Prop} {p0 : Nat} (hp0 : x_mark p0) {p1 : Nat} (hp1 : x_mark p1) {K : Int32 → x_S → Option (Int32 × x_S)} (hK : ∀ {x2 : Int32} {c : x_S} {r : Int32} {s : x_S}, K x2 c = some (r, s) → Q r (hpk s o) → Ev E m_Mrk_copyFrom 0 0 6 [some (.ref p0), some (.ref p1), some (.int x2)] [] (hpk c o) Q) {x2 : Int32} {c : x_S} {r : Int32} {s : x_S} (hF : F_Mrk_copyFrom_36 p0 p1 K x2 c = some (r, s)) (hQ : Q r (hpk s o)) : Ev E m_Mrk_copyFrom 0 0 36 [some (.ref p0), some (.ref p1), some (.int x2)] [] (hpk c o) Q := by
  unfold F_Mrk_copyFrom_36 at hF
  refine Ev_iinc (v := (x2 + (1 : Int32))) (L' := [some (.ref p0), some (.ref p1), some (.int (x2 + (1 : Int32)))]) d_Mrk_copyFrom_36 rfl rfl (by decide) rfl ?_
  refine Ev_goto (tgt := 6) d_Mrk_copyFrom_39 rfl ?_
  exact hK hF hQ
def F_Mrk_copyFrom_6 (p0 : Nat) (p1 : Nat) : Nat → Int32 → x_S → Option (Int32 × x_S)
  | 0, _, _ => none
  | n + 1, x2, c => if (c p1 4) ≤ x2 then (some (0, c)) else (x_ix x2 7 (fun j2 => x_ix x2 7 (fun j3 => x_ix x2 7 (fun j4 => x_bind (F_Mrk_add p0 (c (p1 + 1) j2) (c (p1 + 2) j3) (c (p1 + 3) j4) c) (fun _ c5 => F_Mrk_copyFrom_36 p0 p1 (F_Mrk_copyFrom_6 p0 p1 n) x2 c5)))))
theorem T_Mrk_copyFrom_6 {E : x_E} {o : x_S} {Q : Int32 → x_H → Prop} {p0 : Nat} (hp0 : x_mark p0) {p1 : Nat} (hp1 : x_mark p1) : ∀ (n : Nat) {x2 : Int32} {c : x_S} {r : Int32} {s : x_S}, F_Mrk_copyFrom_6 p0 p1 n x2 c = some (r, s) → Q r (hpk s o) → Ev E m_Mrk_copyFrom 0 0 6 [some (.ref p0), some (.ref p1), some (.int x2)] [] (hpk c o) Q := by
  intro n
  induction n with
  | zero => intro x2 c r s hF; rw [F_Mrk_copyFrom_6] at hF; cases hF
  | succ n ih =>
    intro x2 c r s hF hQ
    rw [F_Mrk_copyFrom_6] at hF
    refine Ev_iload_n d_Mrk_copyFrom_6 rfl ?_
    refine Ev_aload_n d_Mrk_copyFrom_7 rfl ?_
    refine g_Mrk_25 hp1 rfl d_Mrk_copyFrom_8 ?_
    refine Ev_icmp_ge (tgt := 42) d_Mrk_copyFrom_11 rfl (fun h1 => ?_) (fun h1 => ?_)
    · rw [if_pos h1] at hF
      cases hF
      exact Ev_return d_Mrk_copyFrom_42 rfl hQ
    · rw [if_neg h1] at hF
      refine Ev_aload_n d_Mrk_copyFrom_14 rfl ?_
      refine Ev_aload_n d_Mrk_copyFrom_15 rfl ?_
      refine g_Mrk_9 hp1 rfl d_Mrk_copyFrom_16 ?_
      refine Ev_iload_n d_Mrk_copyFrom_19 rfl ?_
      obtain ⟨j2, hij2, hjj2, hF⟩ := x_ix_some hF
      refine Ec_iald d_Mrk_copyFrom_20 (P := (p1 + 1)) ((x_markA hp1).1 0 (by decide)).1 ((x_markA hp1).1 0 (by decide)).2 hij2 hjj2 ?_
      refine Ev_aload_n d_Mrk_copyFrom_21 rfl ?_
      refine g_Mrk_15 hp1 rfl d_Mrk_copyFrom_22 ?_
      refine Ev_iload_n d_Mrk_copyFrom_25 rfl ?_
      obtain ⟨j3, hij3, hjj3, hF⟩ := x_ix_some hF
      refine Ec_iald d_Mrk_copyFrom_26 (P := (p1 + 2)) ((x_markA hp1).1 1 (by decide)).1 ((x_markA hp1).1 1 (by decide)).2 hij3 hjj3 ?_
      refine Ev_aload_n d_Mrk_copyFrom_27 rfl ?_
      refine g_Mrk_18 hp1 rfl d_Mrk_copyFrom_28 ?_
      refine Ev_iload_n d_Mrk_copyFrom_31 rfl ?_
      obtain ⟨j4, hij4, hjj4, hF⟩ := x_ix_some hF
      refine Ec_iald d_Mrk_copyFrom_32 (P := (p1 + 3)) ((x_markA hp1).1 2 (by decide)).1 ((x_markA hp1).1 2 (by decide)).2 hij4 hjj4 ?_
      obtain ⟨r5, c5, hC, hF⟩ := x_bind_some hF
      refine k_Mrk_32 hp0 rfl d_Mrk_copyFrom_33 ⟨by decide, by decide⟩ (Nat.le_of_ble_eq_true rfl) ?_
      exact C_Mrk_add hp0 hC (T_Mrk_copyFrom_36 hp0 hp1 (fun h1 h2 => ih h1 h2) hF hQ)
def F_Mrk_copyFrom_4 (p0 : Nat) (p1 : Nat) (c : x_S) : Option (Int32 × x_S) := F_Mrk_copyFrom_6 p0 p1 x_fuel (0 : Int32) c
theorem T_Mrk_copyFrom_4 {E : x_E} {o : x_S} {Q : Int32 → x_H → Prop} {p0 : Nat} (hp0 : x_mark p0) {p1 : Nat} (hp1 : x_mark p1) {l2 : Option Value} {c : x_S} {r : Int32} {s : x_S} (hF : F_Mrk_copyFrom_4 p0 p1 c = some (r, s)) (hQ : Q r (hpk s o)) : Ev E m_Mrk_copyFrom 0 0 4 [some (.ref p0), some (.ref p1), l2] [] (hpk c o) Q := by
  unfold F_Mrk_copyFrom_4 at hF
  refine Ev_iconst (v := 0) d_Mrk_copyFrom_4 (by decide) ?_
  refine Ev_istore_n (L' := [some (.ref p0), some (.ref p1), some (.int (0 : Int32))]) d_Mrk_copyFrom_5 (by decide) rfl ?_
  exact T_Mrk_copyFrom_6 hp0 hp1 x_fuel hF hQ
def F_Mrk_copyFrom (p0 : Nat) (p1 : Nat) (c : x_S) : Option (Int32 × x_S) := x_bind (F_Mrk_clear p0 c) (fun _ c1 => F_Mrk_copyFrom_4 p0 p1 c1)
theorem C_Mrk_copyFrom {E : x_E} {o : x_S} {Q : Int32 → x_H → Prop} {p0 : Nat} (hp0 : x_mark p0) {p1 : Nat} (hp1 : x_mark p1) {c : x_S} {r : Int32} {s : x_S} (hF : F_Mrk_copyFrom p0 p1 c = some (r, s)) (hQ : Q r (hpk s o)) : Call E m_Mrk_copyFrom 0 0 [.ref p0, .ref p1] (hpk c o) Q := by
  refine Call_of (L := [some (.ref p0), some (.ref p1), none]) (by decide) (by intro v hv; simp only [List.mem_cons, List.not_mem_nil, or_false] at hv; rcases hv with rfl | rfl <;> rfl) (Nat.le_of_ble_eq_true rfl) rfl ?_
  unfold F_Mrk_copyFrom at hF
  refine Ev_aload_n d_Mrk_copyFrom_0 rfl ?_
  obtain ⟨r1, c1, hC, hF⟩ := x_bind_some hF
  refine k_Mrk_29 hp0 rfl d_Mrk_copyFrom_1 ⟨by decide, by decide⟩ (Nat.le_of_ble_eq_true rfl) ?_
  exact C_Mrk_clear hp0 hC (T_Mrk_copyFrom_4 hp0 hp1 hF hQ)
def F_Mrk_earliest (p0 : Nat) (x1 : Int32) (c : x_S) : Option (Int32 × x_S) := x_ix x1 7 (fun j1 => x_ix x1 7 (fun j2 => some (((c (p0 + 1) j1) - (c (p0 + 3) j2)), c)))
theorem C_Mrk_earliest {E : x_E} {o : x_S} {Q : Int32 → x_H → Prop} {p0 : Nat} (hp0 : x_mark p0) {x1 : Int32} {c : x_S} {r : Int32} {s : x_S} (hF : F_Mrk_earliest p0 x1 c = some (r, s)) (hQ : Q r (hpk s o)) : Call E m_Mrk_earliest 0 0 [.ref p0, .int x1] (hpk c o) Q := by
  refine Call_of (L := [some (.ref p0), some (.int x1)]) (by decide) (by intro v hv; simp only [List.mem_cons, List.not_mem_nil, or_false] at hv; rcases hv with rfl | rfl <;> rfl) (Nat.le_of_ble_eq_true rfl) rfl ?_
  unfold F_Mrk_earliest at hF
  refine Ev_aload_n d_Mrk_earliest_0 rfl ?_
  refine g_Mrk_9 hp0 rfl d_Mrk_earliest_1 ?_
  refine Ev_iload_n d_Mrk_earliest_4 rfl ?_
  obtain ⟨j1, hij1, hjj1, hF⟩ := x_ix_some hF
  refine Ec_iald d_Mrk_earliest_5 (P := (p0 + 1)) ((x_markA hp0).1 0 (by decide)).1 ((x_markA hp0).1 0 (by decide)).2 hij1 hjj1 ?_
  refine Ev_aload_n d_Mrk_earliest_6 rfl ?_
  refine g_Mrk_18 hp0 rfl d_Mrk_earliest_7 ?_
  refine Ev_iload_n d_Mrk_earliest_10 rfl ?_
  obtain ⟨j2, hij2, hjj2, hF⟩ := x_ix_some hF
  refine Ec_iald d_Mrk_earliest_11 (P := (p0 + 3)) ((x_markA hp0).1 2 (by decide)).1 ((x_markA hp0).1 2 (by decide)).2 hij2 hjj2 ?_
  refine Ev_isub d_Mrk_earliest_12 ?_
  cases hF
  exact Ev_ireturn d_Mrk_earliest_13 rfl hQ
def F_Mrk_latest (p0 : Nat) (x1 : Int32) (c : x_S) : Option (Int32 × x_S) := x_ix x1 7 (fun j1 => x_ix x1 7 (fun j2 => some (((c (p0 + 1) j1) + (c (p0 + 3) j2)), c)))
theorem C_Mrk_latest {E : x_E} {o : x_S} {Q : Int32 → x_H → Prop} {p0 : Nat} (hp0 : x_mark p0) {x1 : Int32} {c : x_S} {r : Int32} {s : x_S} (hF : F_Mrk_latest p0 x1 c = some (r, s)) (hQ : Q r (hpk s o)) : Call E m_Mrk_latest 0 0 [.ref p0, .int x1] (hpk c o) Q := by
  refine Call_of (L := [some (.ref p0), some (.int x1)]) (by decide) (by intro v hv; simp only [List.mem_cons, List.not_mem_nil, or_false] at hv; rcases hv with rfl | rfl <;> rfl) (Nat.le_of_ble_eq_true rfl) rfl ?_
  unfold F_Mrk_latest at hF
  refine Ev_aload_n d_Mrk_latest_0 rfl ?_
  refine g_Mrk_9 hp0 rfl d_Mrk_latest_1 ?_
  refine Ev_iload_n d_Mrk_latest_4 rfl ?_
  obtain ⟨j1, hij1, hjj1, hF⟩ := x_ix_some hF
  refine Ec_iald d_Mrk_latest_5 (P := (p0 + 1)) ((x_markA hp0).1 0 (by decide)).1 ((x_markA hp0).1 0 (by decide)).2 hij1 hjj1 ?_
  refine Ev_aload_n d_Mrk_latest_6 rfl ?_
  refine g_Mrk_18 hp0 rfl d_Mrk_latest_7 ?_
  refine Ev_iload_n d_Mrk_latest_10 rfl ?_
  obtain ⟨j2, hij2, hjj2, hF⟩ := x_ix_some hF
  refine Ec_iald d_Mrk_latest_11 (P := (p0 + 3)) ((x_markA hp0).1 2 (by decide)).1 ((x_markA hp0).1 2 (by decide)).2 hij2 hjj2 ?_
  refine Ev_iadd d_Mrk_latest_12 ?_
  cases hF
  exact Ev_ireturn d_Mrk_latest_13 rfl hQ
def F_Mrk_firstOpen_31 (p0 : Nat) (K : Int32 → Int32 → x_S → Option (Int32 × x_S)) (x1 x2 : Int32) (c : x_S) : Option (Int32 × x_S) := K x1 (x2 + (1 : Int32)) c
theorem T_Mrk_firstOpen_31 {E : x_E} {o : x_S} {Q : Int32 → x_H → Prop} {p0 : Nat} (hp0 : x_mark p0) {K : Int32 → Int32 → x_S → Option (Int32 × x_S)} (hK : ∀ {x1 x2 : Int32} {c : x_S} {r : Int32} {s : x_S}, K x1 x2 c = some (r, s) → Q r (hpk s o) → Ev E m_Mrk_firstOpen 0 0 2 [some (.ref p0), some (.int x1), some (.int x2)] [] (hpk c o) Q) {x1 x2 : Int32} {c : x_S} {r : Int32} {s : x_S} (hF : F_Mrk_firstOpen_31 p0 K x1 x2 c = some (r, s)) (hQ : Q r (hpk s o)) : Ev E m_Mrk_firstOpen 0 0 31 [some (.ref p0), some (.int x1), some (.int x2)] [] (hpk c o) Q := by
  unfold F_Mrk_firstOpen_31 at hF
  refine Ev_iinc (v := (x2 + (1 : Int32))) (L' := [some (.ref p0), some (.int x1), some (.int (x2 + (1 : Int32)))]) d_Mrk_firstOpen_31 rfl rfl (by decide) rfl ?_
  refine Ev_goto (tgt := 2) d_Mrk_firstOpen_34 rfl ?_
  exact hK hF hQ
def F_Mrk_firstOpen_2 (p0 : Nat) : Nat → Int32 → Int32 → x_S → Option (Int32 × x_S)
  | 0, _, _, _ => none
  | n + 1, x1, x2, c => if (c p0 4) ≤ x2 then (some ((-1 : Int32), c)) else (x_ix x2 7 (fun j2 => if (c (p0 + 4) j2) = 0 then (x_ix x2 7 (fun j4 => if (c (p0 + 2) j4) = x1 then (some (x2, c)) else (F_Mrk_firstOpen_31 p0 (F_Mrk_firstOpen_2 p0 n) x1 x2 c))) else (F_Mrk_firstOpen_31 p0 (F_Mrk_firstOpen_2 p0 n) x1 x2 c)))
theorem T_Mrk_firstOpen_2 {E : x_E} {o : x_S} {Q : Int32 → x_H → Prop} {p0 : Nat} (hp0 : x_mark p0) : ∀ (n : Nat) {x1 x2 : Int32} {c : x_S} {r : Int32} {s : x_S}, F_Mrk_firstOpen_2 p0 n x1 x2 c = some (r, s) → Q r (hpk s o) → Ev E m_Mrk_firstOpen 0 0 2 [some (.ref p0), some (.int x1), some (.int x2)] [] (hpk c o) Q := by
  intro n
  induction n with
  | zero => intro x1 x2 c r s hF; rw [F_Mrk_firstOpen_2] at hF; cases hF
  | succ n ih =>
    intro x1 x2 c r s hF hQ
    rw [F_Mrk_firstOpen_2] at hF
    refine Ev_iload_n d_Mrk_firstOpen_2 rfl ?_
    refine Ev_aload_n d_Mrk_firstOpen_3 rfl ?_
    refine g_Mrk_25 hp0 rfl d_Mrk_firstOpen_4 ?_
    refine Ev_icmp_ge (tgt := 37) d_Mrk_firstOpen_7 rfl (fun h1 => ?_) (fun h1 => ?_)
    · rw [if_pos h1] at hF
      refine Ev_iconst (v := (-1)) d_Mrk_firstOpen_37 (by decide) ?_
      cases hF
      exact Ev_ireturn d_Mrk_firstOpen_38 rfl hQ
    · rw [if_neg h1] at hF
      refine Ev_aload_n d_Mrk_firstOpen_10 rfl ?_
      refine g_Mrk_21 hp0 rfl d_Mrk_firstOpen_11 ?_
      refine Ev_iload_n d_Mrk_firstOpen_14 rfl ?_
      obtain ⟨j2, hij2, hjj2, hF⟩ := x_ix_some hF
      refine Ec_zald d_Mrk_firstOpen_15 (P := (p0 + 4)) (x_markA hp0).2.1 (x_markA hp0).2.2 hij2 hjj2 ?_
      refine Ev_if_ne (tgt := 31) d_Mrk_firstOpen_16 rfl (fun h3 => ?_) (fun h3 => ?_)
      · rw [if_neg h3] at hF
        exact T_Mrk_firstOpen_31 hp0 (fun h1 h2 => ih h1 h2) hF hQ
      · rw [if_pos h3] at hF
        refine Ev_aload_n d_Mrk_firstOpen_19 rfl ?_
        refine g_Mrk_15 hp0 rfl d_Mrk_firstOpen_20 ?_
        refine Ev_iload_n d_Mrk_firstOpen_23 rfl ?_
        obtain ⟨j4, hij4, hjj4, hF⟩ := x_ix_some hF
        refine Ec_iald d_Mrk_firstOpen_24 (P := (p0 + 2)) ((x_markA hp0).1 1 (by decide)).1 ((x_markA hp0).1 1 (by decide)).2 hij4 hjj4 ?_
        refine Ev_iload_n d_Mrk_firstOpen_25 rfl ?_
        refine Ev_icmp_ne (tgt := 31) d_Mrk_firstOpen_26 rfl (fun h5 => ?_) (fun h5 => ?_)
        · rw [if_neg h5] at hF
          exact T_Mrk_firstOpen_31 hp0 (fun h1 h2 => ih h1 h2) hF hQ
        · rw [if_pos h5] at hF
          refine Ev_iload_n d_Mrk_firstOpen_29 rfl ?_
          cases hF
          exact Ev_ireturn d_Mrk_firstOpen_30 rfl hQ
def F_Mrk_firstOpen (p0 : Nat) (x1 : Int32) (c : x_S) : Option (Int32 × x_S) := F_Mrk_firstOpen_2 p0 x_fuel x1 (0 : Int32) c
theorem C_Mrk_firstOpen {E : x_E} {o : x_S} {Q : Int32 → x_H → Prop} {p0 : Nat} (hp0 : x_mark p0) {x1 : Int32} {c : x_S} {r : Int32} {s : x_S} (hF : F_Mrk_firstOpen p0 x1 c = some (r, s)) (hQ : Q r (hpk s o)) : Call E m_Mrk_firstOpen 0 0 [.ref p0, .int x1] (hpk c o) Q := by
  refine Call_of (L := [some (.ref p0), some (.int x1), none]) (by decide) (by intro v hv; simp only [List.mem_cons, List.not_mem_nil, or_false] at hv; rcases hv with rfl | rfl <;> rfl) (Nat.le_of_ble_eq_true rfl) rfl ?_
  unfold F_Mrk_firstOpen at hF
  refine Ev_iconst (v := 0) d_Mrk_firstOpen_0 (by decide) ?_
  refine Ev_istore_n (L' := [some (.ref p0), some (.int x1), some (.int (0 : Int32))]) d_Mrk_firstOpen_1 (by decide) rfl ?_
  exact T_Mrk_firstOpen_2 hp0 x_fuel hF hQ
def F_Mrk_anyOpenBefore_2 (p0 : Nat) : Nat → Int32 → Int32 → x_S → Option (Int32 × x_S)
  | 0, _, _, _ => none
  | n + 1, x1, x2, c => if x1 ≤ x2 then (some ((0 : Int32), c)) else (x_ix x2 7 (fun j2 => if (c (p0 + 4) j2) = 0 then (some ((1 : Int32), c)) else (F_Mrk_anyOpenBefore_2 p0 n x1 (x2 + (1 : Int32)) c)))
theorem T_Mrk_anyOpenBefore_2 {E : x_E} {o : x_S} {Q : Int32 → x_H → Prop} {p0 : Nat} (hp0 : x_mark p0) : ∀ (n : Nat) {x1 x2 : Int32} {c : x_S} {r : Int32} {s : x_S}, F_Mrk_anyOpenBefore_2 p0 n x1 x2 c = some (r, s) → Q r (hpk s o) → Ev E m_Mrk_anyOpenBefore 0 0 2 [some (.ref p0), some (.int x1), some (.int x2)] [] (hpk c o) Q := by
  intro n
  induction n with
  | zero => intro x1 x2 c r s hF; rw [F_Mrk_anyOpenBefore_2] at hF; cases hF
  | succ n ih =>
    intro x1 x2 c r s hF hQ
    rw [F_Mrk_anyOpenBefore_2] at hF
    refine Ev_iload_n d_Mrk_anyOpenBefore_2 rfl ?_
    refine Ev_iload_n d_Mrk_anyOpenBefore_3 rfl ?_
    refine Ev_icmp_ge (tgt := 24) d_Mrk_anyOpenBefore_4 rfl (fun h1 => ?_) (fun h1 => ?_)
    · rw [if_pos h1] at hF
      refine Ev_iconst (v := 0) d_Mrk_anyOpenBefore_24 (by decide) ?_
      cases hF
      exact Ev_zreturn d_Mrk_anyOpenBefore_25 rfl (Or.inl rfl) hQ
    · rw [if_neg h1] at hF
      refine Ev_aload_n d_Mrk_anyOpenBefore_7 rfl ?_
      refine g_Mrk_21 hp0 rfl d_Mrk_anyOpenBefore_8 ?_
      refine Ev_iload_n d_Mrk_anyOpenBefore_11 rfl ?_
      obtain ⟨j2, hij2, hjj2, hF⟩ := x_ix_some hF
      refine Ec_zald d_Mrk_anyOpenBefore_12 (P := (p0 + 4)) (x_markA hp0).2.1 (x_markA hp0).2.2 hij2 hjj2 ?_
      refine Ev_if_ne (tgt := 18) d_Mrk_anyOpenBefore_13 rfl (fun h3 => ?_) (fun h3 => ?_)
      · rw [if_neg h3] at hF
        refine Ev_iinc (v := (x2 + (1 : Int32))) (L' := [some (.ref p0), some (.int x1), some (.int (x2 + (1 : Int32)))]) d_Mrk_anyOpenBefore_18 rfl rfl (by decide) rfl ?_
        refine Ev_goto (tgt := 2) d_Mrk_anyOpenBefore_21 rfl ?_
        exact ih hF hQ
      · rw [if_pos h3] at hF
        refine Ev_iconst (v := 1) d_Mrk_anyOpenBefore_16 (by decide) ?_
        cases hF
        exact Ev_zreturn d_Mrk_anyOpenBefore_17 rfl (Or.inr rfl) hQ
def F_Mrk_anyOpenBefore (p0 : Nat) (x1 : Int32) (c : x_S) : Option (Int32 × x_S) := F_Mrk_anyOpenBefore_2 p0 x_fuel x1 (0 : Int32) c
theorem C_Mrk_anyOpenBefore {E : x_E} {o : x_S} {Q : Int32 → x_H → Prop} {p0 : Nat} (hp0 : x_mark p0) {x1 : Int32} {c : x_S} {r : Int32} {s : x_S} (hF : F_Mrk_anyOpenBefore p0 x1 c = some (r, s)) (hQ : Q r (hpk s o)) : Call E m_Mrk_anyOpenBefore 0 0 [.ref p0, .int x1] (hpk c o) Q := by
  refine Call_of (L := [some (.ref p0), some (.int x1), none]) (by decide) (by intro v hv; simp only [List.mem_cons, List.not_mem_nil, or_false] at hv; rcases hv with rfl | rfl <;> rfl) (Nat.le_of_ble_eq_true rfl) rfl ?_
  unfold F_Mrk_anyOpenBefore at hF
  refine Ev_iconst (v := 0) d_Mrk_anyOpenBefore_0 (by decide) ?_
  refine Ev_istore_n (L' := [some (.ref p0), some (.int x1), some (.int (0 : Int32))]) d_Mrk_anyOpenBefore_1 (by decide) rfl ?_
  exact T_Mrk_anyOpenBefore_2 hp0 x_fuel hF hQ
def F_Mrk_passUpTo_14 (p0 : Nat) (K : Int32 → Int32 → x_S → Option (Int32 × x_S)) (x1 x2 : Int32) (c : x_S) : Option (Int32 × x_S) := K x1 (x2 + (1 : Int32)) c
theorem T_Mrk_passUpTo_14 {E : x_E} {o : x_S} {Q : Int32 → x_H → Prop} {p0 : Nat} (hp0 : x_mark p0) {K : Int32 → Int32 → x_S → Option (Int32 × x_S)} (hK : ∀ {x1 x2 : Int32} {c : x_S} {r : Int32} {s : x_S}, K x1 x2 c = some (r, s) → Q r (hpk s o) → Ev E m_Mrk_passUpTo 0 0 2 [some (.ref p0), some (.int x1), some (.int x2)] [] (hpk c o) Q) {x1 x2 : Int32} {c : x_S} {r : Int32} {s : x_S} (hF : F_Mrk_passUpTo_14 p0 K x1 x2 c = some (r, s)) (hQ : Q r (hpk s o)) : Ev E m_Mrk_passUpTo 0 0 14 [some (.ref p0), some (.int x1), some (.int x2)] [] (hpk c o) Q := by
  unfold F_Mrk_passUpTo_14 at hF
  refine Ev_iinc (v := (x2 + (1 : Int32))) (L' := [some (.ref p0), some (.int x1), some (.int (x2 + (1 : Int32)))]) d_Mrk_passUpTo_14 rfl rfl (by decide) rfl ?_
  refine Ev_goto (tgt := 2) d_Mrk_passUpTo_17 rfl ?_
  exact hK hF hQ
def F_Mrk_passUpTo_2 (p0 : Nat) : Nat → Int32 → Int32 → x_S → Option (Int32 × x_S)
  | 0, _, _, _ => none
  | n + 1, x1, x2, c => if x1 < x2 then (some (0, c)) else (x_ix x2 7 (fun j2 => F_Mrk_passUpTo_14 p0 (F_Mrk_passUpTo_2 p0 n) x1 x2 (x_up c (p0 + 4) j2 (1 : Int32))))
theorem T_Mrk_passUpTo_2 {E : x_E} {o : x_S} {Q : Int32 → x_H → Prop} {p0 : Nat} (hp0 : x_mark p0) : ∀ (n : Nat) {x1 x2 : Int32} {c : x_S} {r : Int32} {s : x_S}, F_Mrk_passUpTo_2 p0 n x1 x2 c = some (r, s) → Q r (hpk s o) → Ev E m_Mrk_passUpTo 0 0 2 [some (.ref p0), some (.int x1), some (.int x2)] [] (hpk c o) Q := by
  intro n
  induction n with
  | zero => intro x1 x2 c r s hF; rw [F_Mrk_passUpTo_2] at hF; cases hF
  | succ n ih =>
    intro x1 x2 c r s hF hQ
    rw [F_Mrk_passUpTo_2] at hF
    refine Ev_iload_n d_Mrk_passUpTo_2 rfl ?_
    refine Ev_iload_n d_Mrk_passUpTo_3 rfl ?_
    refine Ev_icmp_gt (tgt := 20) d_Mrk_passUpTo_4 rfl (fun h1 => ?_) (fun h1 => ?_)
    · rw [if_pos h1] at hF
      cases hF
      exact Ev_return d_Mrk_passUpTo_20 rfl hQ
    · rw [if_neg h1] at hF
      refine Ev_aload_n d_Mrk_passUpTo_7 rfl ?_
      refine g_Mrk_21 hp0 rfl d_Mrk_passUpTo_8 ?_
      refine Ev_iload_n d_Mrk_passUpTo_11 rfl ?_
      refine Ev_iconst (v := 1) d_Mrk_passUpTo_12 (by decide) ?_
      obtain ⟨j2, hij2, hjj2, hF⟩ := x_ix_some hF
      refine Ec_zast d_Mrk_passUpTo_13 (P := (p0 + 4)) (x_markA hp0).2.1 (x_markA hp0).2.2 hij2 hjj2 (Or.inr rfl) ?_
      exact T_Mrk_passUpTo_14 hp0 (fun h1 h2 => ih h1 h2) hF hQ
def F_Mrk_passUpTo (p0 : Nat) (x1 : Int32) (c : x_S) : Option (Int32 × x_S) := F_Mrk_passUpTo_2 p0 x_fuel x1 (0 : Int32) c
theorem C_Mrk_passUpTo {E : x_E} {o : x_S} {Q : Int32 → x_H → Prop} {p0 : Nat} (hp0 : x_mark p0) {x1 : Int32} {c : x_S} {r : Int32} {s : x_S} (hF : F_Mrk_passUpTo p0 x1 c = some (r, s)) (hQ : Q r (hpk s o)) : Call E m_Mrk_passUpTo 0 0 [.ref p0, .int x1] (hpk c o) Q := by
  refine Call_of (L := [some (.ref p0), some (.int x1), none]) (by decide) (by intro v hv; simp only [List.mem_cons, List.not_mem_nil, or_false] at hv; rcases hv with rfl | rfl <;> rfl) (Nat.le_of_ble_eq_true rfl) rfl ?_
  unfold F_Mrk_passUpTo at hF
  refine Ev_iconst (v := 0) d_Mrk_passUpTo_0 (by decide) ?_
  refine Ev_istore_n (L' := [some (.ref p0), some (.int x1), some (.int (0 : Int32))]) d_Mrk_passUpTo_1 (by decide) rfl ?_
  exact T_Mrk_passUpTo_2 hp0 x_fuel hF hQ
def F_Mrk_passBehind_39 (p0 : Nat) (K : Int32 → Int32 → Int32 → x_S → Option (Int32 × x_S)) (x1 x2 x3 : Int32) (c : x_S) : Option (Int32 × x_S) := K x1 x2 (x3 + (1 : Int32)) c
theorem T_Mrk_passBehind_39 {E : x_E} {o : x_S} {Q : Int32 → x_H → Prop} {p0 : Nat} (hp0 : x_mark p0) {K : Int32 → Int32 → Int32 → x_S → Option (Int32 × x_S)} (hK : ∀ {x1 x2 x3 : Int32} {c : x_S} {r : Int32} {s : x_S}, K x1 x2 x3 c = some (r, s) → Q r (hpk s o) → Ev E m_Mrk_passBehind 0 0 4 [some (.ref p0), some (.int x1), some (.int x2), some (.int x3)] [] (hpk c o) Q) {x1 x2 x3 : Int32} {c : x_S} {r : Int32} {s : x_S} (hF : F_Mrk_passBehind_39 p0 K x1 x2 x3 c = some (r, s)) (hQ : Q r (hpk s o)) : Ev E m_Mrk_passBehind 0 0 39 [some (.ref p0), some (.int x1), some (.int x2), some (.int x3)] [] (hpk c o) Q := by
  unfold F_Mrk_passBehind_39 at hF
  refine Ev_iinc (v := (x3 + (1 : Int32))) (L' := [some (.ref p0), some (.int x1), some (.int x2), some (.int (x3 + (1 : Int32)))]) d_Mrk_passBehind_39 rfl rfl (by decide) rfl ?_
  refine Ev_goto (tgt := 4) d_Mrk_passBehind_42 rfl ?_
  exact hK hF hQ
def F_Mrk_passBehind_37 (p0 : Nat) (K : Int32 → Int32 → Int32 → x_S → Option (Int32 × x_S)) (x1 x3 : Int32) (c : x_S) : Option (Int32 × x_S) := F_Mrk_passBehind_39 p0 K x1 (1 : Int32) x3 c
theorem T_Mrk_passBehind_37 {E : x_E} {o : x_S} {Q : Int32 → x_H → Prop} {p0 : Nat} (hp0 : x_mark p0) {K : Int32 → Int32 → Int32 → x_S → Option (Int32 × x_S)} (hK : ∀ {x1 x2 x3 : Int32} {c : x_S} {r : Int32} {s : x_S}, K x1 x2 x3 c = some (r, s) → Q r (hpk s o) → Ev E m_Mrk_passBehind 0 0 4 [some (.ref p0), some (.int x1), some (.int x2), some (.int x3)] [] (hpk c o) Q) {l2 : Option Value} {x1 x3 : Int32} {c : x_S} {r : Int32} {s : x_S} (hF : F_Mrk_passBehind_37 p0 K x1 x3 c = some (r, s)) (hQ : Q r (hpk s o)) : Ev E m_Mrk_passBehind 0 0 37 [some (.ref p0), some (.int x1), l2, some (.int x3)] [] (hpk c o) Q := by
  unfold F_Mrk_passBehind_37 at hF
  refine Ev_iconst (v := 1) d_Mrk_passBehind_37 (by decide) ?_
  refine Ev_istore_n (L' := [some (.ref p0), some (.int x1), some (.int (1 : Int32)), some (.int x3)]) d_Mrk_passBehind_38 (by decide) rfl ?_
  exact T_Mrk_passBehind_39 hp0 (fun h1 h2 => hK h1 h2) hF hQ
def F_Mrk_passBehind_26 (p0 : Nat) (K : Int32 → Int32 → Int32 → x_S → Option (Int32 × x_S)) (x1 x2 x3 s0 : Int32) (c : x_S) : Option (Int32 × x_S) := if x1 ≤ s0 then (F_Mrk_passBehind_39 p0 K x1 x2 x3 c) else (x_ix x3 7 (fun j2 => F_Mrk_passBehind_37 p0 K x1 x3 (x_up c (p0 + 4) j2 (1 : Int32))))
theorem T_Mrk_passBehind_26 {E : x_E} {o : x_S} {Q : Int32 → x_H → Prop} {p0 : Nat} (hp0 : x_mark p0) {K : Int32 → Int32 → Int32 → x_S → Option (Int32 × x_S)} (hK : ∀ {x1 x2 x3 : Int32} {c : x_S} {r : Int32} {s : x_S}, K x1 x2 x3 c = some (r, s) → Q r (hpk s o) → Ev E m_Mrk_passBehind 0 0 4 [some (.ref p0), some (.int x1), some (.int x2), some (.int x3)] [] (hpk c o) Q) {x1 x2 x3 s0 : Int32} {c : x_S} {r : Int32} {s : x_S} (hF : F_Mrk_passBehind_26 p0 K x1 x2 x3 s0 c = some (r, s)) (hQ : Q r (hpk s o)) : Ev E m_Mrk_passBehind 0 0 26 [some (.ref p0), some (.int x1), some (.int x2), some (.int x3)] [.int s0] (hpk c o) Q := by
  unfold F_Mrk_passBehind_26 at hF
  refine Ev_iload_n d_Mrk_passBehind_26 rfl ?_
  refine Ev_icmp_ge (tgt := 39) d_Mrk_passBehind_27 rfl (fun h1 => ?_) (fun h1 => ?_)
  · rw [if_pos h1] at hF
    exact T_Mrk_passBehind_39 hp0 (fun h1 h2 => hK h1 h2) hF hQ
  · rw [if_neg h1] at hF
    refine Ev_aload_n d_Mrk_passBehind_30 rfl ?_
    refine g_Mrk_21 hp0 rfl d_Mrk_passBehind_31 ?_
    refine Ev_iload_n d_Mrk_passBehind_34 rfl ?_
    refine Ev_iconst (v := 1) d_Mrk_passBehind_35 (by decide) ?_
    obtain ⟨j2, hij2, hjj2, hF⟩ := x_ix_some hF
    refine Ec_zast d_Mrk_passBehind_36 (P := (p0 + 4)) (x_markA hp0).2.1 (x_markA hp0).2.2 hij2 hjj2 (Or.inr rfl) ?_
    exact T_Mrk_passBehind_37 hp0 (fun h1 h2 => hK h1 h2) hF hQ
def F_Mrk_passBehind_4 (p0 : Nat) : Nat → Int32 → Int32 → Int32 → x_S → Option (Int32 × x_S)
  | 0, _, _, _, _ => none
  | n + 1, x1, x2, x3, c => if (c p0 4) ≤ x3 then (x_b01 x2 (some (x2, c))) else (x_ix x3 7 (fun j3 => if (c (p0 + 4) j3) = 0 then (x_bind (F_Mrk_latest p0 x3 c) (fun r5 c5 => F_Mrk_passBehind_26 p0 (F_Mrk_passBehind_4 p0 n) x1 x2 x3 r5 c5)) else (F_Mrk_passBehind_39 p0 (F_Mrk_passBehind_4 p0 n) x1 x2 x3 c)))
theorem T_Mrk_passBehind_4 {E : x_E} {o : x_S} {Q : Int32 → x_H → Prop} {p0 : Nat} (hp0 : x_mark p0) : ∀ (n : Nat) {x1 x2 x3 : Int32} {c : x_S} {r : Int32} {s : x_S}, F_Mrk_passBehind_4 p0 n x1 x2 x3 c = some (r, s) → Q r (hpk s o) → Ev E m_Mrk_passBehind 0 0 4 [some (.ref p0), some (.int x1), some (.int x2), some (.int x3)] [] (hpk c o) Q := by
  intro n
  induction n with
  | zero => intro x1 x2 x3 c r s hF; rw [F_Mrk_passBehind_4] at hF; cases hF
  | succ n ih =>
    intro x1 x2 x3 c r s hF hQ
    rw [F_Mrk_passBehind_4] at hF
    refine Ev_iload_n d_Mrk_passBehind_4 rfl ?_
    refine Ev_aload_n d_Mrk_passBehind_5 rfl ?_
    refine g_Mrk_25 hp0 rfl d_Mrk_passBehind_6 ?_
    refine Ev_icmp_ge (tgt := 45) d_Mrk_passBehind_9 rfl (fun h1 => ?_) (fun h1 => ?_)
    · rw [if_pos h1] at hF
      refine Ev_iload_n d_Mrk_passBehind_45 rfl ?_
      obtain ⟨hb2, hF⟩ := x_b01_some hF
      cases hF
      exact Ev_zreturn d_Mrk_passBehind_46 rfl hb2 hQ
    · rw [if_neg h1] at hF
      refine Ev_aload_n d_Mrk_passBehind_12 rfl ?_
      refine g_Mrk_21 hp0 rfl d_Mrk_passBehind_13 ?_
      refine Ev_iload_n d_Mrk_passBehind_16 rfl ?_
      obtain ⟨j3, hij3, hjj3, hF⟩ := x_ix_some hF
      refine Ec_zald d_Mrk_passBehind_17 (P := (p0 + 4)) (x_markA hp0).2.1 (x_markA hp0).2.2 hij3 hjj3 ?_
      refine Ev_if_ne (tgt := 39) d_Mrk_passBehind_18 rfl (fun h4 => ?_) (fun h4 => ?_)
      · rw [if_neg h4] at hF
        exact T_Mrk_passBehind_39 hp0 (fun h1 h2 => ih h1 h2) hF hQ
      · rw [if_pos h4] at hF
        refine Ev_aload_n d_Mrk_passBehind_21 rfl ?_
        refine Ev_iload_n d_Mrk_passBehind_22 rfl ?_
        obtain ⟨r5, c5, hC, hF⟩ := x_bind_some hF
        refine k_Mrk_36 hp0 rfl d_Mrk_passBehind_23 ⟨by decide, by decide⟩ (Nat.le_of_ble_eq_true rfl) ?_
        exact C_Mrk_latest hp0 hC (T_Mrk_passBehind_26 hp0 (fun h1 h2 => ih h1 h2) hF hQ)
def F_Mrk_passBehind (p0 : Nat) (x1 : Int32) (c : x_S) : Option (Int32 × x_S) := F_Mrk_passBehind_4 p0 x_fuel x1 (0 : Int32) (0 : Int32) c
theorem C_Mrk_passBehind {E : x_E} {o : x_S} {Q : Int32 → x_H → Prop} {p0 : Nat} (hp0 : x_mark p0) {x1 : Int32} {c : x_S} {r : Int32} {s : x_S} (hF : F_Mrk_passBehind p0 x1 c = some (r, s)) (hQ : Q r (hpk s o)) : Call E m_Mrk_passBehind 0 0 [.ref p0, .int x1] (hpk c o) Q := by
  refine Call_of (L := [some (.ref p0), some (.int x1), none, none]) (by decide) (by intro v hv; simp only [List.mem_cons, List.not_mem_nil, or_false] at hv; rcases hv with rfl | rfl <;> rfl) (Nat.le_of_ble_eq_true rfl) rfl ?_
  unfold F_Mrk_passBehind at hF
  refine Ev_iconst (v := 0) d_Mrk_passBehind_0 (by decide) ?_
  refine Ev_istore_n (L' := [some (.ref p0), some (.int x1), some (.int (0 : Int32)), none]) d_Mrk_passBehind_1 (by decide) rfl ?_
  refine Ev_iconst (v := 0) d_Mrk_passBehind_2 (by decide) ?_
  refine Ev_istore_n (L' := [some (.ref p0), some (.int x1), some (.int (0 : Int32)), some (.int (0 : Int32))]) d_Mrk_passBehind_3 (by decide) rfl ?_
  exact T_Mrk_passBehind_4 hp0 x_fuel hF hQ
def F_Mrk_shown_47 (p0 : Nat) (s0 s1 : Int32) (c : x_S) : Option (Int32 × x_S) := some ((s0 + s1), c)
theorem T_Mrk_shown_47 {E : x_E} {o : x_S} {Q : Int32 → x_H → Prop} {p0 : Nat} (hp0 : x_mark p0) {l0 : Option Value} {l1 : Option Value} {s0 s1 : Int32} {c : x_S} {r : Int32} {s : x_S} (hF : F_Mrk_shown_47 p0 s0 s1 c = some (r, s)) (hQ : Q r (hpk s o)) : Ev E m_Mrk_shown 0 0 47 [l0, l1] [.int s1, .int s0] (hpk c o) Q := by
  unfold F_Mrk_shown_47 at hF
  refine Ev_iadd d_Mrk_shown_47 ?_
  cases hF
  exact Ev_ireturn d_Mrk_shown_48 rfl hQ
def F_Mrk_shown_12 (p0 : Nat) (c : x_S) : Option (Int32 × x_S) := some ((-1 : Int32), c)
theorem T_Mrk_shown_12 {E : x_E} {o : x_S} {Q : Int32 → x_H → Prop} {p0 : Nat} (hp0 : x_mark p0) {l0 : Option Value} {l1 : Option Value} {c : x_S} {r : Int32} {s : x_S} (hF : F_Mrk_shown_12 p0 c = some (r, s)) (hQ : Q r (hpk s o)) : Ev E m_Mrk_shown 0 0 12 [l0, l1] [] (hpk c o) Q := by
  unfold F_Mrk_shown_12 at hF
  refine Ev_iconst (v := (-1)) d_Mrk_shown_12 (by decide) ?_
  cases hF
  exact Ev_ireturn d_Mrk_shown_13 rfl hQ
def F_Mrk_shown (p0 : Nat) (x1 : Int32) (c : x_S) : Option (Int32 × x_S) := if x1 < 0 then (F_Mrk_shown_12 p0 c) else (if x1 < (c p0 4) then (x_ix x1 7 (fun j3 => x_ix x1 7 (fun j4 => x_ix x1 7 (fun j5 => if (c (p0 + 4) j5) = 0 then (F_Mrk_shown_47 p0 (((1000 : Int32) * (c (p0 + 1) j3)) + ((4 : Int32) * (c (p0 + 2) j4))) (0 : Int32) c) else (F_Mrk_shown_47 p0 (((1000 : Int32) * (c (p0 + 1) j3)) + ((4 : Int32) * (c (p0 + 2) j4))) (1 : Int32) c))))) else (F_Mrk_shown_12 p0 c))
theorem C_Mrk_shown {E : x_E} {o : x_S} {Q : Int32 → x_H → Prop} {p0 : Nat} (hp0 : x_mark p0) {x1 : Int32} {c : x_S} {r : Int32} {s : x_S} (hF : F_Mrk_shown p0 x1 c = some (r, s)) (hQ : Q r (hpk s o)) : Call E m_Mrk_shown 0 0 [.ref p0, .int x1] (hpk c o) Q := by
  refine Call_of (L := [some (.ref p0), some (.int x1)]) (by decide) (by intro v hv; simp only [List.mem_cons, List.not_mem_nil, or_false] at hv; rcases hv with rfl | rfl <;> rfl) (Nat.le_of_ble_eq_true rfl) rfl ?_
  unfold F_Mrk_shown at hF
  refine Ev_iload_n d_Mrk_shown_0 rfl ?_
  refine Ev_if_lt (tgt := 12) d_Mrk_shown_1 rfl (fun h1 => ?_) (fun h1 => ?_)
  · rw [if_pos h1] at hF
    exact T_Mrk_shown_12 hp0 hF hQ
  · rw [if_neg h1] at hF
    refine Ev_iload_n d_Mrk_shown_4 rfl ?_
    refine Ev_aload_n d_Mrk_shown_5 rfl ?_
    refine g_Mrk_25 hp0 rfl d_Mrk_shown_6 ?_
    refine Ev_icmp_lt (tgt := 14) d_Mrk_shown_9 rfl (fun h2 => ?_) (fun h2 => ?_)
    · rw [if_pos h2] at hF
      refine Ev_sipush (v := (1000)) d_Mrk_shown_14 (by decide) ?_
      refine Ev_aload_n d_Mrk_shown_17 rfl ?_
      refine g_Mrk_9 hp0 rfl d_Mrk_shown_18 ?_
      refine Ev_iload_n d_Mrk_shown_21 rfl ?_
      obtain ⟨j3, hij3, hjj3, hF⟩ := x_ix_some hF
      refine Ec_iald d_Mrk_shown_22 (P := (p0 + 1)) ((x_markA hp0).1 0 (by decide)).1 ((x_markA hp0).1 0 (by decide)).2 hij3 hjj3 ?_
      refine Ev_imul d_Mrk_shown_23 ?_
      refine Ev_iconst (v := 4) d_Mrk_shown_24 (by decide) ?_
      refine Ev_aload_n d_Mrk_shown_25 rfl ?_
      refine g_Mrk_15 hp0 rfl d_Mrk_shown_26 ?_
      refine Ev_iload_n d_Mrk_shown_29 rfl ?_
      obtain ⟨j4, hij4, hjj4, hF⟩ := x_ix_some hF
      refine Ec_iald d_Mrk_shown_30 (P := (p0 + 2)) ((x_markA hp0).1 1 (by decide)).1 ((x_markA hp0).1 1 (by decide)).2 hij4 hjj4 ?_
      refine Ev_imul d_Mrk_shown_31 ?_
      refine Ev_iadd d_Mrk_shown_32 ?_
      refine Ev_aload_n d_Mrk_shown_33 rfl ?_
      refine g_Mrk_21 hp0 rfl d_Mrk_shown_34 ?_
      refine Ev_iload_n d_Mrk_shown_37 rfl ?_
      obtain ⟨j5, hij5, hjj5, hF⟩ := x_ix_some hF
      refine Ec_zald d_Mrk_shown_38 (P := (p0 + 4)) (x_markA hp0).2.1 (x_markA hp0).2.2 hij5 hjj5 ?_
      refine Ev_if_eq (tgt := 46) d_Mrk_shown_39 rfl (fun h6 => ?_) (fun h6 => ?_)
      · rw [if_pos h6] at hF
        refine Ev_iconst (v := 0) d_Mrk_shown_46 (by decide) ?_
        exact T_Mrk_shown_47 hp0 hF hQ
      · rw [if_neg h6] at hF
        refine Ev_iconst (v := 1) d_Mrk_shown_42 (by decide) ?_
        refine Ev_goto (tgt := 47) d_Mrk_shown_43 rfl ?_
        exact T_Mrk_shown_47 hp0 hF hQ
    · rw [if_neg h2] at hF
      exact T_Mrk_shown_12 hp0 hF hQ
