/-! printed by wip/gen/gen4.py: TrainGuard$Front -/
def F_Frt_advance_46 (c : x_S) : Option (Int32 × x_S) := some (0, c)
theorem T_Frt_advance_46 {E : x_E} {o : x_S} {Q : Int32 → x_H → Prop} {l0 : Option Value} {l1 : Option Value} {l2 : Option Value} {c : x_S} {r : Int32} {s : x_S} (hF : F_Frt_advance_46 c = some (r, s)) (hQ : Q r (hpk s o)) : Ev E m_Frt_advance 0 0 46 [l0, l1, l2] [] (hpk c o) Q := by
  unfold F_Frt_advance_46 at hF
  cases hF
  exact Ev_return d_Frt_advance_46 rfl hQ
def F_Frt_advance_39 (x1 x2 : Int32) (c : x_S) : Option (Int32 × x_S) := F_Frt_advance_46 (x_up c 1 2 (x1 + x2))
theorem T_Frt_advance_39 {E : x_E} {o : x_S} {Q : Int32 → x_H → Prop} {x1 x2 : Int32} {c : x_S} {r : Int32} {s : x_S} (hF : F_Frt_advance_39 x1 x2 c = some (r, s)) (hQ : Q r (hpk s o)) : Ev E m_Frt_advance 0 0 39 [some (.ref 1), some (.int x1), some (.int x2)] [] (hpk c o) Q := by
  unfold F_Frt_advance_39 at hF
  refine Ev_aload_n d_Frt_advance_39 rfl ?_
  refine Ev_iload_n d_Frt_advance_40 rfl ?_
  refine Ev_iload_n d_Frt_advance_41 rfl ?_
  refine Ev_iadd d_Frt_advance_42 ?_
  refine q_Frt_16 rfl d_Frt_advance_43 ?_
  exact T_Frt_advance_46 hF hQ
def F_Frt_advance_27 (x1 x2 : Int32) (c : x_S) : Option (Int32 × x_S) := F_Frt_advance_39 x1 x2 (x_up c 1 0 ((c 1 0) + (x1 - x2)))
theorem T_Frt_advance_27 {E : x_E} {o : x_S} {Q : Int32 → x_H → Prop} {x1 x2 : Int32} {c : x_S} {r : Int32} {s : x_S} (hF : F_Frt_advance_27 x1 x2 c = some (r, s)) (hQ : Q r (hpk s o)) : Ev E m_Frt_advance 0 0 27 [some (.ref 1), some (.int x1), some (.int x2)] [] (hpk c o) Q := by
  unfold F_Frt_advance_27 at hF
  refine Ev_aload_n d_Frt_advance_27 rfl ?_
  refine Ev_dup d_Frt_advance_28 rfl ?_
  refine g_Frt_13 rfl d_Frt_advance_29 ?_
  refine Ev_iload_n d_Frt_advance_32 rfl ?_
  refine Ev_iload_n d_Frt_advance_33 rfl ?_
  refine Ev_isub d_Frt_advance_34 ?_
  refine Ev_iadd d_Frt_advance_35 ?_
  refine q_Frt_13 rfl d_Frt_advance_36 ?_
  exact T_Frt_advance_39 hF hQ
def F_Frt_advance_14 (x1 s0 : Int32) (c : x_S) : Option (Int32 × x_S) := F_Frt_advance_27 x1 s0 (x_up c 1 1 ((c 1 1) + (x1 + s0)))
theorem T_Frt_advance_14 {E : x_E} {o : x_S} {Q : Int32 → x_H → Prop} {l2 : Option Value} {x1 s0 : Int32} {c : x_S} {r : Int32} {s : x_S} (hF : F_Frt_advance_14 x1 s0 c = some (r, s)) (hQ : Q r (hpk s o)) : Ev E m_Frt_advance 0 0 14 [some (.ref 1), some (.int x1), l2] [.int s0] (hpk c o) Q := by
  unfold F_Frt_advance_14 at hF
  refine Ev_istore_n (L' := [some (.ref 1), some (.int x1), some (.int s0)]) d_Frt_advance_14 (by decide) rfl ?_
  refine Ev_aload_n d_Frt_advance_15 rfl ?_
  refine Ev_dup d_Frt_advance_16 rfl ?_
  refine g_Frt_7 rfl d_Frt_advance_17 ?_
  refine Ev_iload_n d_Frt_advance_20 rfl ?_
  refine Ev_iload_n d_Frt_advance_21 rfl ?_
  refine Ev_iadd d_Frt_advance_22 ?_
  refine Ev_iadd d_Frt_advance_23 ?_
  refine q_Frt_7 rfl d_Frt_advance_24 ?_
  exact T_Frt_advance_27 hF hQ
def F_Frt_advance (x1 : Int32) (c : x_S) : Option (Int32 × x_S) := if x1 = 0 then (F_Frt_advance_14 x1 (0 : Int32) c) else (F_Frt_advance_14 x1 ((1 : Int32) + (x1 / (16 : Int32))) c)
theorem C_Frt_advance {E : x_E} {o : x_S} {Q : Int32 → x_H → Prop} {x1 : Int32} {c : x_S} {r : Int32} {s : x_S} (hF : F_Frt_advance x1 c = some (r, s)) (hQ : Q r (hpk s o)) : Call E m_Frt_advance 0 0 [.ref 1, .int x1] (hpk c o) Q := by
  refine Call_of (L := [some (.ref 1), some (.int x1), none]) (by decide) (by intro v hv; simp only [List.mem_cons, List.not_mem_nil, or_false] at hv; rcases hv with rfl | rfl <;> rfl) (Nat.le_of_ble_eq_true rfl) rfl ?_
  unfold F_Frt_advance at hF
  refine Ev_iload_n d_Frt_advance_0 rfl ?_
  refine Ev_if_ne (tgt := 8) d_Frt_advance_1 rfl (fun h1 => ?_) (fun h1 => ?_)
  · rw [if_neg h1] at hF
    refine Ev_iconst (v := 1) d_Frt_advance_8 (by decide) ?_
    refine Ev_iload_n d_Frt_advance_9 rfl ?_
    refine Ev_bipush (v := (16)) d_Frt_advance_10 (by decide) ?_
    refine Ev_idiv d_Frt_advance_12 (by decide) ?_
    refine Ev_iadd d_Frt_advance_13 ?_
    exact T_Frt_advance_14 hF hQ
  · rw [if_pos h1] at hF
    refine Ev_iconst (v := 0) d_Frt_advance_4 (by decide) ?_
    refine Ev_goto (tgt := 14) d_Frt_advance_5 rfl ?_
    exact T_Frt_advance_14 hF hQ
def F_Frt_narrow_24 (c : x_S) : Option (Int32 × x_S) := some (0, c)
theorem T_Frt_narrow_24 {E : x_E} {o : x_S} {Q : Int32 → x_H → Prop} {l0 : Option Value} {l1 : Option Value} {l2 : Option Value} {c : x_S} {r : Int32} {s : x_S} (hF : F_Frt_narrow_24 c = some (r, s)) (hQ : Q r (hpk s o)) : Ev E m_Frt_narrow 0 0 24 [l0, l1, l2] [] (hpk c o) Q := by
  unfold F_Frt_narrow_24 at hF
  cases hF
  exact Ev_return d_Frt_narrow_24 rfl hQ
def F_Frt_narrow_12 (x2 : Int32) (c : x_S) : Option (Int32 × x_S) := F_Frt_narrow_24 (x_up c 1 1 (if x2 < (c 1 1) then x2 else (c 1 1)))
theorem T_Frt_narrow_12 {E : x_E} {o : x_S} {Q : Int32 → x_H → Prop} {l1 : Option Value} {x2 : Int32} {c : x_S} {r : Int32} {s : x_S} (hF : F_Frt_narrow_12 x2 c = some (r, s)) (hQ : Q r (hpk s o)) : Ev E m_Frt_narrow 0 0 12 [some (.ref 1), l1, some (.int x2)] [] (hpk c o) Q := by
  unfold F_Frt_narrow_12 at hF
  refine Ev_aload_n d_Frt_narrow_12 rfl ?_
  refine Ev_aload_n d_Frt_narrow_13 rfl ?_
  refine g_Frt_7 rfl d_Frt_narrow_14 ?_
  refine Ev_iload_n d_Frt_narrow_17 rfl ?_
  refine Ev_mmin xw_mFrt_25 d_Frt_narrow_18 (by decide) (by decide) (Nat.le_of_ble_eq_true rfl) ?_
  refine q_Frt_7 rfl d_Frt_narrow_21 ?_
  exact T_Frt_narrow_24 hF hQ
def F_Frt_narrow (x1 x2 : Int32) (c : x_S) : Option (Int32 × x_S) := F_Frt_narrow_12 x2 (x_up c 1 0 (if (c 1 0) < x1 then x1 else (c 1 0)))
theorem C_Frt_narrow {E : x_E} {o : x_S} {Q : Int32 → x_H → Prop} {x1 x2 : Int32} {c : x_S} {r : Int32} {s : x_S} (hF : F_Frt_narrow x1 x2 c = some (r, s)) (hQ : Q r (hpk s o)) : Call E m_Frt_narrow 0 0 [.ref 1, .int x1, .int x2] (hpk c o) Q := by
  refine Call_of (L := [some (.ref 1), some (.int x1), some (.int x2)]) (by decide) (by intro v hv; simp only [List.mem_cons, List.not_mem_nil, or_false] at hv; rcases hv with rfl | rfl | rfl <;> rfl) (Nat.le_of_ble_eq_true rfl) rfl ?_
  unfold F_Frt_narrow at hF
  refine Ev_aload_n d_Frt_narrow_0 rfl ?_
  refine Ev_aload_n d_Frt_narrow_1 rfl ?_
  refine g_Frt_13 rfl d_Frt_narrow_2 ?_
  refine Ev_iload_n d_Frt_narrow_5 rfl ?_
  refine Ev_mmax xw_mFrt_19 d_Frt_narrow_6 (by decide) (by decide) (Nat.le_of_ble_eq_true rfl) ?_
  refine q_Frt_13 rfl d_Frt_narrow_9 ?_
  exact T_Frt_narrow_12 hF hQ
