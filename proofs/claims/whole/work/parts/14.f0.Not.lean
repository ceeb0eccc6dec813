/-! printed by wip/gen/gen4.py: TrainGuard$Notes -/
def F_Not_add_42 (c : x_S) : Option (Int32 × x_S) := some (0, c)
theorem T_Not_add_42 {E : x_E} {o : x_S} {Q : Int32 → x_H → Prop} {l0 : Option Value} {l1 : Option Value} {c : x_S} {r : Int32} {s : x_S} (hF : F_Not_add_42 c = some (r, s)) (hQ : Q r (hpk s o)) : Ev E m_Not_add 0 0 42 [l0, l1] [] (hpk c o) Q := by
  unfold F_Not_add_42 at hF
  cases hF
  exact Ev_return d_Not_add_42 rfl hQ
def F_Not_add_23 (c : x_S) : Option (Int32 × x_S) := if (16 : Int32) ≤ (c 40 1) then (F_Not_add_42 c) else (F_Not_add_42 (x_up c 40 1 ((c 40 1) + (1 : Int32))))
theorem T_Not_add_23 {E : x_E} {o : x_S} {Q : Int32 → x_H → Prop} {l1 : Option Value} {c : x_S} {r : Int32} {s : x_S} (hF : F_Not_add_23 c = some (r, s)) (hQ : Q r (hpk s o)) : Ev E m_Not_add 0 0 23 [some (.ref 40), l1] [] (hpk c o) Q := by
  unfold F_Not_add_23 at hF
  refine Ev_aload_n d_Not_add_23 rfl ?_
  refine g_Not_19 rfl d_Not_add_24 ?_
  refine Ev_bipush (v := (16)) d_Not_add_27 (by decide) ?_
  refine Ev_icmp_ge (tgt := 42) d_Not_add_29 rfl (fun h1 => ?_) (fun h1 => ?_)
  · rw [if_pos h1] at hF
    exact T_Not_add_42 hF hQ
  · rw [if_neg h1] at hF
    refine Ev_aload_n d_Not_add_32 rfl ?_
    refine Ev_dup d_Not_add_33 rfl ?_
    refine g_Not_19 rfl d_Not_add_34 ?_
    refine Ev_iconst (v := 1) d_Not_add_37 (by decide) ?_
    refine Ev_iadd d_Not_add_38 ?_
    refine q_Not_19 rfl d_Not_add_39 ?_
    exact T_Not_add_42 hF hQ
def F_Not_add_10 (c : x_S) : Option (Int32 × x_S) := F_Not_add_23 (x_up c 40 2 (((c 40 2) + (1 : Int32)) - ((c 40 2) + (1 : Int32)) / (16 : Int32) * (16 : Int32)))
theorem T_Not_add_10 {E : x_E} {o : x_S} {Q : Int32 → x_H → Prop} {l1 : Option Value} {c : x_S} {r : Int32} {s : x_S} (hF : F_Not_add_10 c = some (r, s)) (hQ : Q r (hpk s o)) : Ev E m_Not_add 0 0 10 [some (.ref 40), l1] [] (hpk c o) Q := by
  unfold F_Not_add_10 at hF
  refine Ev_aload_n d_Not_add_10 rfl ?_
  refine Ev_aload_n d_Not_add_11 rfl ?_
  refine g_Not_15 rfl d_Not_add_12 ?_
  refine Ev_iconst (v := 1) d_Not_add_15 (by decide) ?_
  refine Ev_iadd d_Not_add_16 ?_
  refine Ev_bipush (v := (16)) d_Not_add_17 (by decide) ?_
  refine Ev_irem d_Not_add_19 (by decide) ?_
  refine q_Not_15 rfl d_Not_add_20 ?_
  exact T_Not_add_23 hF hQ
def F_Not_add (x1 : Int32) (c : x_S) : Option (Int32 × x_S) := x_ix (c 40 2) 16 (fun j1 => F_Not_add_10 (x_up c 41 j1 x1))
theorem C_Not_add {E : x_E} {o : x_S} {Q : Int32 → x_H → Prop} {x1 : Int32} {c : x_S} {r : Int32} {s : x_S} (hF : F_Not_add x1 c = some (r, s)) (hQ : Q r (hpk s o)) : Call E m_Not_add 0 0 [.ref 40, .int x1] (hpk c o) Q := by
  refine Call_of (L := [some (.ref 40), some (.int x1)]) (by decide) (by intro v hv; simp only [List.mem_cons, List.not_mem_nil, or_false] at hv; rcases hv with rfl | rfl <;> rfl) (Nat.le_of_ble_eq_true rfl) rfl ?_
  unfold F_Not_add at hF
  refine Ev_aload_n d_Not_add_0 rfl ?_
  refine g_Not_9 rfl d_Not_add_1 ?_
  refine Ev_aload_n d_Not_add_4 rfl ?_
  refine g_Not_15 rfl d_Not_add_5 ?_
  refine Ev_iload_n d_Not_add_8 rfl ?_
  obtain ⟨j1, hij1, hjj1, hF⟩ := x_ix_some hF
  refine Ec_iast d_Not_add_9 (P := 41) (by decide) rfl hij1 hjj1 ?_
  exact T_Not_add_10 hF hQ
def F_Not_get_12 (c : x_S) : Option (Int32 × x_S) := some ((-1 : Int32), c)
theorem T_Not_get_12 {E : x_E} {o : x_S} {Q : Int32 → x_H → Prop} {l0 : Option Value} {l1 : Option Value} {c : x_S} {r : Int32} {s : x_S} (hF : F_Not_get_12 c = some (r, s)) (hQ : Q r (hpk s o)) : Ev E m_Not_get 0 0 12 [l0, l1] [] (hpk c o) Q := by
  unfold F_Not_get_12 at hF
  refine Ev_iconst (v := (-1)) d_Not_get_12 (by decide) ?_
  cases hF
  exact Ev_ireturn d_Not_get_13 rfl hQ
def F_Not_get (x1 : Int32) (c : x_S) : Option (Int32 × x_S) := if x1 < 0 then (F_Not_get_12 c) else (if x1 < (c 40 1) then (x_ix (((((c 40 2) - (1 : Int32)) - x1) + (16 : Int32)) - ((((c 40 2) - (1 : Int32)) - x1) + (16 : Int32)) / (16 : Int32) * (16 : Int32)) 16 (fun j3 => some ((c 41 j3), c))) else (F_Not_get_12 c))
theorem C_Not_get {E : x_E} {o : x_S} {Q : Int32 → x_H → Prop} {x1 : Int32} {c : x_S} {r : Int32} {s : x_S} (hF : F_Not_get x1 c = some (r, s)) (hQ : Q r (hpk s o)) : Call E m_Not_get 0 0 [.ref 40, .int x1] (hpk c o) Q := by
  refine Call_of (L := [some (.ref 40), some (.int x1)]) (by decide) (by intro v hv; simp only [List.mem_cons, List.not_mem_nil, or_false] at hv; rcases hv with rfl | rfl <;> rfl) (Nat.le_of_ble_eq_true rfl) rfl ?_
  unfold F_Not_get at hF
  refine Ev_iload_n d_Not_get_0 rfl ?_
  refine Ev_if_lt (tgt := 12) d_Not_get_1 rfl (fun h1 => ?_) (fun h1 => ?_)
  · rw [if_pos h1] at hF
    exact T_Not_get_12 hF hQ
  · rw [if_neg h1] at hF
    refine Ev_iload_n d_Not_get_4 rfl ?_
    refine Ev_aload_n d_Not_get_5 rfl ?_
    refine g_Not_19 rfl d_Not_get_6 ?_
    refine Ev_icmp_lt (tgt := 14) d_Not_get_9 rfl (fun h2 => ?_) (fun h2 => ?_)
    · rw [if_pos h2] at hF
      refine Ev_aload_n d_Not_get_14 rfl ?_
      refine g_Not_9 rfl d_Not_get_15 ?_
      refine Ev_aload_n d_Not_get_18 rfl ?_
      refine g_Not_15 rfl d_Not_get_19 ?_
      refine Ev_iconst (v := 1) d_Not_get_22 (by decide) ?_
      refine Ev_isub d_Not_get_23 ?_
      refine Ev_iload_n d_Not_get_24 rfl ?_
      refine Ev_isub d_Not_get_25 ?_
      refine Ev_bipush (v := (16)) d_Not_get_26 (by decide) ?_
      refine Ev_iadd d_Not_get_28 ?_
      refine Ev_bipush (v := (16)) d_Not_get_29 (by decide) ?_
      refine Ev_irem d_Not_get_31 (by decide) ?_
      obtain ⟨j3, hij3, hjj3, hF⟩ := x_ix_some hF
      refine Ec_iald d_Not_get_32 (P := 41) (by decide) rfl hij3 hjj3 ?_
      cases hF
      exact Ev_ireturn d_Not_get_33 rfl hQ
    · rw [if_neg h2] at hF
      exact T_Not_get_12 hF hQ
