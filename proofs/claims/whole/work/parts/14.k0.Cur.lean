/-! printed by wip/gen/gen4.py: TrainGuard$Curves -/
def F_Cur_begin_15 (c : x_S) : Option (Int32 × x_S) := some (0, c)
theorem T_Cur_begin_15 {E : x_E} {o : x_S} {Q : Int32 → x_H → Prop} {l0 : Option Value} {l1 : Option Value} {l2 : Option Value} {c : x_S} {r : Int32} {s : x_S} (hF : F_Cur_begin_15 c = some (r, s)) (hQ : Q r (hpk s o)) : Ev E m_Cur_begin 0 0 15 [l0, l1, l2] [] (hpk c o) Q := by
  unfold F_Cur_begin_15 at hF
  cases hF
  exact Ev_return d_Cur_begin_15 rfl hQ
def F_Cur_begin_10 (c : x_S) : Option (Int32 × x_S) := F_Cur_begin_15 (x_up c 42 5 (0 : Int32))
theorem T_Cur_begin_10 {E : x_E} {o : x_S} {Q : Int32 → x_H → Prop} {l1 : Option Value} {l2 : Option Value} {c : x_S} {r : Int32} {s : x_S} (hF : F_Cur_begin_10 c = some (r, s)) (hQ : Q r (hpk s o)) : Ev E m_Cur_begin 0 0 10 [some (.ref 42), l1, l2] [] (hpk c o) Q := by
  unfold F_Cur_begin_10 at hF
  refine Ev_aload_n d_Cur_begin_10 rfl ?_
  refine Ev_iconst (v := 0) d_Cur_begin_11 (by decide) ?_
  refine q_Cur_34 rfl d_Cur_begin_12 ?_
  exact T_Cur_begin_15 hF hQ
def F_Cur_begin_5 (x2 : Int32) (c : x_S) : Option (Int32 × x_S) := F_Cur_begin_10 (x_up c 42 7 x2)
theorem T_Cur_begin_5 {E : x_E} {o : x_S} {Q : Int32 → x_H → Prop} {l1 : Option Value} {x2 : Int32} {c : x_S} {r : Int32} {s : x_S} (hF : F_Cur_begin_5 x2 c = some (r, s)) (hQ : Q r (hpk s o)) : Ev E m_Cur_begin 0 0 5 [some (.ref 42), l1, some (.int x2)] [] (hpk c o) Q := by
  unfold F_Cur_begin_5 at hF
  refine Ev_aload_n d_Cur_begin_5 rfl ?_
  refine Ev_iload_n d_Cur_begin_6 rfl ?_
  refine q_Cur_31 rfl d_Cur_begin_7 ?_
  exact T_Cur_begin_10 hF hQ
def F_Cur_begin (x1 x2 : Int32) (c : x_S) : Option (Int32 × x_S) := F_Cur_begin_5 x2 (x_up c 42 6 x1)
theorem C_Cur_begin {E : x_E} {o : x_S} {Q : Int32 → x_H → Prop} {x1 x2 : Int32} {c : x_S} {r : Int32} {s : x_S} (hF : F_Cur_begin x1 x2 c = some (r, s)) (hQ : Q r (hpk s o)) : Call E m_Cur_begin 0 0 [.ref 42, .int x1, .int x2] (hpk c o) Q := by
  refine Call_of (L := [some (.ref 42), some (.int x1), some (.int x2)]) (by decide) (by intro v hv; simp only [List.mem_cons, List.not_mem_nil, or_false] at hv; rcases hv with rfl | rfl | rfl <;> rfl) (Nat.le_of_ble_eq_true rfl) rfl ?_
  unfold F_Cur_begin at hF
  refine Ev_aload_n d_Cur_begin_0 rfl ?_
  refine Ev_iload_n d_Cur_begin_1 rfl ?_
  refine q_Cur_28 rfl d_Cur_begin_2 ?_
  exact T_Cur_begin_5 hF hQ
def F_Cur_add_49 (c : x_S) : Option (Int32 × x_S) := some (0, c)
theorem T_Cur_add_49 {E : x_E} {o : x_S} {Q : Int32 → x_H → Prop} {l0 : Option Value} {l1 : Option Value} {l2 : Option Value} {l3 : Option Value} {c : x_S} {r : Int32} {s : x_S} (hF : F_Cur_add_49 c = some (r, s)) (hQ : Q r (hpk s o)) : Ev E m_Cur_add 0 0 49 [l0, l1, l2, l3] [] (hpk c o) Q := by
  unfold F_Cur_add_49 at hF
  cases hF
  exact Ev_return d_Cur_add_49 rfl hQ
def F_Cur_add_39 (c : x_S) : Option (Int32 × x_S) := F_Cur_add_49 (x_up c 42 5 ((c 42 5) + (1 : Int32)))
theorem T_Cur_add_39 {E : x_E} {o : x_S} {Q : Int32 → x_H → Prop} {l1 : Option Value} {l2 : Option Value} {l3 : Option Value} {c : x_S} {r : Int32} {s : x_S} (hF : F_Cur_add_39 c = some (r, s)) (hQ : Q r (hpk s o)) : Ev E m_Cur_add 0 0 39 [some (.ref 42), l1, l2, l3] [] (hpk c o) Q := by
  unfold F_Cur_add_39 at hF
  refine Ev_aload_n d_Cur_add_39 rfl ?_
  refine Ev_dup d_Cur_add_40 rfl ?_
  refine g_Cur_34 rfl d_Cur_add_41 ?_
  refine Ev_iconst (v := 1) d_Cur_add_44 (by decide) ?_
  refine Ev_iadd d_Cur_add_45 ?_
  refine q_Cur_34 rfl d_Cur_add_46 ?_
  exact T_Cur_add_49 hF hQ
def F_Cur_add_29 (x3 : Int32) (c : x_S) : Option (Int32 × x_S) := x_ix (c 42 5) 15 (fun j1 => F_Cur_add_39 (x_up c 45 j1 x3))
theorem T_Cur_add_29 {E : x_E} {o : x_S} {Q : Int32 → x_H → Prop} {l1 : Option Value} {l2 : Option Value} {x3 : Int32} {c : x_S} {r : Int32} {s : x_S} (hF : F_Cur_add_29 x3 c = some (r, s)) (hQ : Q r (hpk s o)) : Ev E m_Cur_add 0 0 29 [some (.ref 42), l1, l2, some (.int x3)] [] (hpk c o) Q := by
  unfold F_Cur_add_29 at hF
  refine Ev_aload_n d_Cur_add_29 rfl ?_
  refine g_Cur_18 rfl d_Cur_add_30 ?_
  refine Ev_aload_n d_Cur_add_33 rfl ?_
  refine g_Cur_34 rfl d_Cur_add_34 ?_
  refine Ev_iload_n d_Cur_add_37 rfl ?_
  obtain ⟨j1, hij1, hjj1, hF⟩ := x_ix_some hF
  refine Ec_iast d_Cur_add_38 (P := 45) (by decide) rfl hij1 hjj1 ?_
  exact T_Cur_add_39 hF hQ
def F_Cur_add_19 (x2 x3 : Int32) (c : x_S) : Option (Int32 × x_S) := x_ix (c 42 5) 15 (fun j1 => F_Cur_add_29 x3 (x_up c 44 j1 x2))
theorem T_Cur_add_19 {E : x_E} {o : x_S} {Q : Int32 → x_H → Prop} {l1 : Option Value} {x2 x3 : Int32} {c : x_S} {r : Int32} {s : x_S} (hF : F_Cur_add_19 x2 x3 c = some (r, s)) (hQ : Q r (hpk s o)) : Ev E m_Cur_add 0 0 19 [some (.ref 42), l1, some (.int x2), some (.int x3)] [] (hpk c o) Q := by
  unfold F_Cur_add_19 at hF
  refine Ev_aload_n d_Cur_add_19 rfl ?_
  refine g_Cur_15 rfl d_Cur_add_20 ?_
  refine Ev_aload_n d_Cur_add_23 rfl ?_
  refine g_Cur_34 rfl d_Cur_add_24 ?_
  refine Ev_iload_n d_Cur_add_27 rfl ?_
  obtain ⟨j1, hij1, hjj1, hF⟩ := x_ix_some hF
  refine Ec_iast d_Cur_add_28 (P := 44) (by decide) rfl hij1 hjj1 ?_
  exact T_Cur_add_29 hF hQ
def F_Cur_add (x1 x2 x3 : Int32) (c : x_S) : Option (Int32 × x_S) := if (15 : Int32) ≤ (c 42 5) then (F_Cur_add_49 c) else (x_ix (c 42 5) 15 (fun j2 => F_Cur_add_19 x2 x3 (x_up c 43 j2 x1)))
theorem C_Cur_add {E : x_E} {o : x_S} {Q : Int32 → x_H → Prop} {x1 x2 x3 : Int32} {c : x_S} {r : Int32} {s : x_S} (hF : F_Cur_add x1 x2 x3 c = some (r, s)) (hQ : Q r (hpk s o)) : Call E m_Cur_add 0 0 [.ref 42, .int x1, .int x2, .int x3] (hpk c o) Q := by
  refine Call_of (L := [some (.ref 42), some (.int x1), some (.int x2), some (.int x3)]) (by decide) (by intro v hv; simp only [List.mem_cons, List.not_mem_nil, or_false] at hv; rcases hv with rfl | rfl | rfl | rfl <;> rfl) (Nat.le_of_ble_eq_true rfl) rfl ?_
  unfold F_Cur_add at hF
  refine Ev_aload_n d_Cur_add_0 rfl ?_
  refine g_Cur_34 rfl d_Cur_add_1 ?_
  refine Ev_bipush (v := (15)) d_Cur_add_4 (by decide) ?_
  refine Ev_icmp_ge (tgt := 49) d_Cur_add_6 rfl (fun h1 => ?_) (fun h1 => ?_)
  · rw [if_pos h1] at hF
    exact T_Cur_add_49 hF hQ
  · rw [if_neg h1] at hF
    refine Ev_aload_n d_Cur_add_9 rfl ?_
    refine g_Cur_11 rfl d_Cur_add_10 ?_
    refine Ev_aload_n d_Cur_add_13 rfl ?_
    refine g_Cur_34 rfl d_Cur_add_14 ?_
    refine Ev_iload_n d_Cur_add_17 rfl ?_
    obtain ⟨j2, hij2, hjj2, hF⟩ := x_ix_some hF
    refine Ec_iast d_Cur_add_18 (P := 43) (by decide) rfl hij2 hjj2 ?_
    exact T_Cur_add_19 hF hQ
def F_Cur_isOver_95 (s0 : Int32) (c : x_S) : Option (Int32 × x_S) := x_b01 s0 (some (s0, c))
theorem T_Cur_isOver_95 {E : x_E} {o : x_S} {Q : Int32 → x_H → Prop} {l0 : Option Value} {l1 : Option Value} {l2 : Option Value} {l3 : Option Value} {l4 : Option Value} {l5 : Option Value} {l6 : Option Value} {l7 : Option Value} {l8 : Option Value} {s0 : Int32} {c : x_S} {r : Int32} {s : x_S} (hF : F_Cur_isOver_95 s0 c = some (r, s)) (hQ : Q r (hpk s o)) : Ev E m_Cur_isOver 0 0 95 [l0, l1, l2, l3, l4, l5, l6, l7, l8] [.int s0] (hpk c o) Q := by
  unfold F_Cur_isOver_95 at hF
  obtain ⟨hb1, hF⟩ := x_b01_some hF
  cases hF
  exact Ev_zreturn d_Cur_isOver_95 rfl hb1 hQ
def F_Cur_isOver_80 (x1 s0 s1 : Int32) (c : x_S) : Option (Int32 × x_S) := x_ix x1 15 (fun j1 => if (s0 + s1) ≤ (c 43 j1) then (F_Cur_isOver_95 (0 : Int32) c) else (F_Cur_isOver_95 (1 : Int32) c))
theorem T_Cur_isOver_80 {E : x_E} {o : x_S} {Q : Int32 → x_H → Prop} {l2 : Option Value} {l3 : Option Value} {l4 : Option Value} {l5 : Option Value} {l6 : Option Value} {l7 : Option Value} {l8 : Option Value} {x1 s0 s1 : Int32} {c : x_S} {r : Int32} {s : x_S} (hF : F_Cur_isOver_80 x1 s0 s1 c = some (r, s)) (hQ : Q r (hpk s o)) : Ev E m_Cur_isOver 0 0 80 [some (.ref 42), some (.int x1), l2, l3, l4, l5, l6, l7, l8] [.int s1, .int s0] (hpk c o) Q := by
  unfold F_Cur_isOver_80 at hF
  refine Ev_iadd d_Cur_isOver_80 ?_
  refine Ev_aload_n d_Cur_isOver_81 rfl ?_
  refine g_Cur_11 rfl d_Cur_isOver_82 ?_
  refine Ev_iload_n d_Cur_isOver_85 rfl ?_
  obtain ⟨j1, hij1, hjj1, hF⟩ := x_ix_some hF
  refine Ec_iald d_Cur_isOver_86 (P := 43) (by decide) rfl hij1 hjj1 ?_
  refine Ev_icmp_le (tgt := 94) d_Cur_isOver_87 rfl (fun h2 => ?_) (fun h2 => ?_)
  · rw [if_pos h2] at hF
    refine Ev_iconst (v := 0) d_Cur_isOver_94 (by decide) ?_
    exact T_Cur_isOver_95 hF hQ
  · rw [if_neg h2] at hF
    refine Ev_iconst (v := 1) d_Cur_isOver_90 (by decide) ?_
    refine Ev_goto (tgt := 95) d_Cur_isOver_91 rfl ?_
    exact T_Cur_isOver_95 hF hQ
def F_Cur_isOver_77 (x1 s0 s1 s2 s3 : Int32) (c : x_S) : Option (Int32 × x_S) := x_bind (F_G_brakingWay s1 s2 s3 c) (fun r1 c1 => F_Cur_isOver_80 x1 s0 r1 c1)
theorem T_Cur_isOver_77 {E : x_E} {o : x_S} {Q : Int32 → x_H → Prop} {l2 : Option Value} {l3 : Option Value} {l4 : Option Value} {l5 : Option Value} {l6 : Option Value} {l7 : Option Value} {l8 : Option Value} {x1 s0 s1 s2 s3 : Int32} {c : x_S} {r : Int32} {s : x_S} (hF : F_Cur_isOver_77 x1 s0 s1 s2 s3 c = some (r, s)) (hQ : Q r (hpk s o)) : Ev E m_Cur_isOver 0 0 77 [some (.ref 42), some (.int x1), l2, l3, l4, l5, l6, l7, l8] [.int s3, .int s2, .int s1, .int s0] (hpk c o) Q := by
  unfold F_Cur_isOver_77 at hF
  obtain ⟨r1, c1, hC, hF⟩ := x_bind_some hF
  refine k_Cur_53 rfl d_Cur_isOver_77 ⟨by decide, by decide⟩ (Nat.le_of_ble_eq_true rfl) ?_
  exact C_G_brakingWay hC (T_Cur_isOver_80 hF hQ)
def F_Cur_isOver (x1 x2 x3 x4 x5 : Int32) (c : x_S) : Option (Int32 × x_S) := x_ix x1 15 (fun j1 => if (c 44 j1) < (x2 + ((2 : Int32) * x4)) then (x_ix x1 15 (fun j3 => x_ix x1 15 (fun j4 => if (x3 - (c 45 j3)) ≤ (1 : Int32) then (F_Cur_isOver_77 x1 (((c 42 7) + ((x4 * x2) + (x4 * (x4 + (1 : Int32))))) + (x5 * x2)) (x2 + ((2 : Int32) * x4)) (c 44 j4) (1 : Int32) c) else (F_Cur_isOver_77 x1 (((c 42 7) + ((x4 * x2) + (x4 * (x4 + (1 : Int32))))) + (x5 * x2)) (x2 + ((2 : Int32) * x4)) (c 44 j4) (x3 - (c 45 j3)) c)))) else (some ((0 : Int32), c)))
theorem C_Cur_isOver {E : x_E} {o : x_S} {Q : Int32 → x_H → Prop} {x1 x2 x3 x4 x5 : Int32} {c : x_S} {r : Int32} {s : x_S} (hF : F_Cur_isOver x1 x2 x3 x4 x5 c = some (r, s)) (hQ : Q r (hpk s o)) : Call E m_Cur_isOver 0 0 [.ref 42, .int x1, .int x2, .int x3, .int x4, .int x5] (hpk c o) Q := by
  refine Call_of (L := [some (.ref 42), some (.int x1), some (.int x2), some (.int x3), some (.int x4), some (.int x5), none, none, none]) (by decide) (by intro v hv; simp only [List.mem_cons, List.not_mem_nil, or_false] at hv; rcases hv with rfl | rfl | rfl | rfl | rfl | rfl <;> rfl) (Nat.le_of_ble_eq_true rfl) rfl ?_
  unfold F_Cur_isOver at hF
  refine Ev_iload_n d_Cur_isOver_0 rfl ?_
  refine Ev_iconst (v := 2) d_Cur_isOver_1 (by decide) ?_
  refine Ev_iload d_Cur_isOver_2 rfl ?_
  refine Ev_imul d_Cur_isOver_4 ?_
  refine Ev_iadd d_Cur_isOver_5 ?_
  refine Ev_istore (L' := [some (.ref 42), some (.int x1), some (.int x2), some (.int x3), some (.int x4), some (.int x5), some (.int (x2 + ((2 : Int32) * x4))), none, none]) d_Cur_isOver_6 (by decide) rfl ?_
  refine Ev_iload d_Cur_isOver_8 rfl ?_
  refine Ev_aload_n d_Cur_isOver_10 rfl ?_
  refine g_Cur_15 rfl d_Cur_isOver_11 ?_
  refine Ev_iload_n d_Cur_isOver_14 rfl ?_
  obtain ⟨j1, hij1, hjj1, hF⟩ := x_ix_some hF
  refine Ec_iald d_Cur_isOver_15 (P := 44) (by decide) rfl hij1 hjj1 ?_
  refine Ev_icmp_gt (tgt := 21) d_Cur_isOver_16 rfl (fun h2 => ?_) (fun h2 => ?_)
  · rw [if_pos h2] at hF
    refine Ev_iload d_Cur_isOver_21 rfl ?_
    refine Ev_iload_n d_Cur_isOver_23 rfl ?_
    refine Ev_imul d_Cur_isOver_24 ?_
    refine Ev_iload d_Cur_isOver_25 rfl ?_
    refine Ev_iload d_Cur_isOver_27 rfl ?_
    refine Ev_iconst (v := 1) d_Cur_isOver_29 (by decide) ?_
    refine Ev_iadd d_Cur_isOver_30 ?_
    refine Ev_imul d_Cur_isOver_31 ?_
    refine Ev_iadd d_Cur_isOver_32 ?_
    refine Ev_istore (L' := [some (.ref 42), some (.int x1), some (.int x2), some (.int x3), some (.int x4), some (.int x5), some (.int (x2 + ((2 : Int32) * x4))), some (.int ((x4 * x2) + (x4 * (x4 + (1 : Int32))))), none]) d_Cur_isOver_33 (by decide) rfl ?_
    refine Ev_iload_n d_Cur_isOver_35 rfl ?_
    refine Ev_aload_n d_Cur_isOver_36 rfl ?_
    refine g_Cur_18 rfl d_Cur_isOver_37 ?_
    refine Ev_iload_n d_Cur_isOver_40 rfl ?_
    obtain ⟨j3, hij3, hjj3, hF⟩ := x_ix_some hF
    refine Ec_iald d_Cur_isOver_41 (P := 45) (by decide) rfl hij3 hjj3 ?_
    refine Ev_isub d_Cur_isOver_42 ?_
    refine Ev_istore (L' := [some (.ref 42), some (.int x1), some (.int x2), some (.int x3), some (.int x4), some (.int x5), some (.int (x2 + ((2 : Int32) * x4))), some (.int ((x4 * x2) + (x4 * (x4 + (1 : Int32))))), some (.int (x3 - (c 45 j3)))]) d_Cur_isOver_43 (by decide) rfl ?_
    refine Ev_aload_n d_Cur_isOver_45 rfl ?_
    refine g_Cur_31 rfl d_Cur_isOver_46 ?_
    refine Ev_iload d_Cur_isOver_49 rfl ?_
    refine Ev_iadd d_Cur_isOver_51 ?_
    refine Ev_iload d_Cur_isOver_52 rfl ?_
    refine Ev_iload_n d_Cur_isOver_54 rfl ?_
    refine Ev_imul d_Cur_isOver_55 ?_
    refine Ev_iadd d_Cur_isOver_56 ?_
    refine Ev_iload d_Cur_isOver_57 rfl ?_
    refine Ev_aload_n d_Cur_isOver_59 rfl ?_
    refine g_Cur_15 rfl d_Cur_isOver_60 ?_
    refine Ev_iload_n d_Cur_isOver_63 rfl ?_
    obtain ⟨j4, hij4, hjj4, hF⟩ := x_ix_some hF
    refine Ec_iald d_Cur_isOver_64 (P := 44) (by decide) rfl hij4 hjj4 ?_
    refine Ev_iload d_Cur_isOver_65 rfl ?_
    refine Ev_iconst (v := 1) d_Cur_isOver_67 (by decide) ?_
    refine Ev_icmp_le (tgt := 76) d_Cur_isOver_68 rfl (fun h5 => ?_) (fun h5 => ?_)
    · rw [if_pos h5] at hF
      refine Ev_iconst (v := 1) d_Cur_isOver_76 (by decide) ?_
      exact T_Cur_isOver_77 hF hQ
    · rw [if_neg h5] at hF
      refine Ev_iload d_Cur_isOver_71 rfl ?_
      refine Ev_goto (tgt := 77) d_Cur_isOver_73 rfl ?_
      exact T_Cur_isOver_77 hF hQ
  · rw [if_neg h2] at hF
    refine Ev_iconst (v := 0) d_Cur_isOver_19 (by decide) ?_
    cases hF
    exact Ev_zreturn d_Cur_isOver_20 rfl (Or.inl rfl) hQ
def F_Cur_isOverEmergency_22 (K : Int32 → Int32 → x_S → Option (Int32 × x_S)) (x1 x2 s0 : Int32) (c : x_S) : Option (Int32 × x_S) := if s0 = 0 then (K x1 (x2 + (1 : Int32)) c) else (some ((1 : Int32), c))
theorem T_Cur_isOverEmergency_22 {E : x_E} {o : x_S} {Q : Int32 → x_H → Prop} {K : Int32 → Int32 → x_S → Option (Int32 × x_S)} (hK : ∀ {x1 x2 : Int32} {c : x_S} {r : Int32} {s : x_S}, K x1 x2 c = some (r, s) → Q r (hpk s o) → Ev E m_Cur_isOverEmergency 0 0 2 [some (.ref 42), some (.int x1), some (.int x2)] [] (hpk c o) Q) {x1 x2 s0 : Int32} {c : x_S} {r : Int32} {s : x_S} (hF : F_Cur_isOverEmergency_22 K x1 x2 s0 c = some (r, s)) (hQ : Q r (hpk s o)) : Ev E m_Cur_isOverEmergency 0 0 22 [some (.ref 42), some (.int x1), some (.int x2)] [.int s0] (hpk c o) Q := by
  unfold F_Cur_isOverEmergency_22 at hF
  refine Ev_if_eq (tgt := 27) d_Cur_isOverEmergency_22 rfl (fun h1 => ?_) (fun h1 => ?_)
  · rw [if_pos h1] at hF
    refine Ev_iinc (v := (x2 + (1 : Int32))) (L' := [some (.ref 42), some (.int x1), some (.int (x2 + (1 : Int32)))]) d_Cur_isOverEmergency_27 rfl rfl (by decide) rfl ?_
    refine Ev_goto (tgt := 2) d_Cur_isOverEmergency_30 rfl ?_
    exact hK hF hQ
  · rw [if_neg h1] at hF
    refine Ev_iconst (v := 1) d_Cur_isOverEmergency_25 (by decide) ?_
    cases hF
    exact Ev_zreturn d_Cur_isOverEmergency_26 rfl (Or.inr rfl) hQ
def F_Cur_isOverEmergency_2 : Nat → Int32 → Int32 → x_S → Option (Int32 × x_S)
  | 0, _, _, _ => none
  | n + 1, x1, x2, c => if (c 42 5) ≤ x2 then (some ((0 : Int32), c)) else (x_bind (F_Cur_isOver x2 x1 (c 42 0) (2 : Int32) (0 : Int32) c) (fun r2 c2 => F_Cur_isOverEmergency_22 (F_Cur_isOverEmergency_2 n) x1 x2 r2 c2))
theorem T_Cur_isOverEmergency_2 {E : x_E} {o : x_S} {Q : Int32 → x_H → Prop} : ∀ (n : Nat) {x1 x2 : Int32} {c : x_S} {r : Int32} {s : x_S}, F_Cur_isOverEmergency_2 n x1 x2 c = some (r, s) → Q r (hpk s o) → Ev E m_Cur_isOverEmergency 0 0 2 [some (.ref 42), some (.int x1), some (.int x2)] [] (hpk c o) Q := by
  intro n
  induction n with
  | zero => intro x1 x2 c r s hF; rw [F_Cur_isOverEmergency_2] at hF; cases hF
  | succ n ih =>
    intro x1 x2 c r s hF hQ
    rw [F_Cur_isOverEmergency_2] at hF
    refine Ev_iload_n d_Cur_isOverEmergency_2 rfl ?_
    refine Ev_aload_n d_Cur_isOverEmergency_3 rfl ?_
    refine g_Cur_34 rfl d_Cur_isOverEmergency_4 ?_
    refine Ev_icmp_ge (tgt := 33) d_Cur_isOverEmergency_7 rfl (fun h1 => ?_) (fun h1 => ?_)
    · rw [if_pos h1] at hF
      refine Ev_iconst (v := 0) d_Cur_isOverEmergency_33 (by decide) ?_
      cases hF
      exact Ev_zreturn d_Cur_isOverEmergency_34 rfl (Or.inl rfl) hQ
    · rw [if_neg h1] at hF
      refine Ev_aload_n d_Cur_isOverEmergency_10 rfl ?_
      refine Ev_iload_n d_Cur_isOverEmergency_11 rfl ?_
      refine Ev_iload_n d_Cur_isOverEmergency_12 rfl ?_
      refine Ev_aload_n d_Cur_isOverEmergency_13 rfl ?_
      refine g_Cur_21 rfl d_Cur_isOverEmergency_14 ?_
      refine Ev_iconst (v := 2) d_Cur_isOverEmergency_17 (by decide) ?_
      refine Ev_iconst (v := 0) d_Cur_isOverEmergency_18 (by decide) ?_
      obtain ⟨r2, c2, hC, hF⟩ := x_bind_some hF
      refine k_Cur_49 rfl d_Cur_isOverEmergency_19 ⟨by decide, by decide⟩ (Nat.le_of_ble_eq_true rfl) ?_
      exact C_Cur_isOver hC (T_Cur_isOverEmergency_22 (fun h1 h2 => ih h1 h2) hF hQ)
def F_Cur_isOverEmergency (x1 : Int32) (c : x_S) : Option (Int32 × x_S) := F_Cur_isOverEmergency_2 x_fuel x1 (1 : Int32) c
theorem C_Cur_isOverEmergency {E : x_E} {o : x_S} {Q : Int32 → x_H → Prop} {x1 : Int32} {c : x_S} {r : Int32} {s : x_S} (hF : F_Cur_isOverEmergency x1 c = some (r, s)) (hQ : Q r (hpk s o)) : Call E m_Cur_isOverEmergency 0 0 [.ref 42, .int x1] (hpk c o) Q := by
  refine Call_of (L := [some (.ref 42), some (.int x1), none]) (by decide) (by intro v hv; simp only [List.mem_cons, List.not_mem_nil, or_false] at hv; rcases hv with rfl | rfl <;> rfl) (Nat.le_of_ble_eq_true rfl) rfl ?_
  unfold F_Cur_isOverEmergency at hF
  refine Ev_iconst (v := 1) d_Cur_isOverEmergency_0 (by decide) ?_
  refine Ev_istore_n (L' := [some (.ref 42), some (.int x1), some (.int (1 : Int32))]) d_Cur_isOverEmergency_1 (by decide) rfl ?_
  exact T_Cur_isOverEmergency_2 x_fuel hF hQ
def F_Cur_isOverService_24 (K : Int32 → Int32 → Int32 → x_S → Option (Int32 × x_S)) (x1 x2 x3 s0 : Int32) (c : x_S) : Option (Int32 × x_S) := if s0 = 0 then (K x1 x2 (x3 + (1 : Int32)) c) else (some ((1 : Int32), c))
theorem T_Cur_isOverService_24 {E : x_E} {o : x_S} {Q : Int32 → x_H → Prop} {K : Int32 → Int32 → Int32 → x_S → Option (Int32 × x_S)} (hK : ∀ {x1 x2 x3 : Int32} {c : x_S} {r : Int32} {s : x_S}, K x1 x2 x3 c = some (r, s) → Q r (hpk s o) → Ev E m_Cur_isOverService 0 0 2 [some (.ref 42), some (.int x1), some (.int x2), some (.int x3)] [] (hpk c o) Q) {x1 x2 x3 s0 : Int32} {c : x_S} {r : Int32} {s : x_S} (hF : F_Cur_isOverService_24 K x1 x2 x3 s0 c = some (r, s)) (hQ : Q r (hpk s o)) : Ev E m_Cur_isOverService 0 0 24 [some (.ref 42), some (.int x1), some (.int x2), some (.int x3)] [.int s0] (hpk c o) Q := by
  unfold F_Cur_isOverService_24 at hF
  refine Ev_if_eq (tgt := 29) d_Cur_isOverService_24 rfl (fun h1 => ?_) (fun h1 => ?_)
  · rw [if_pos h1] at hF
    refine Ev_iinc (v := (x3 + (1 : Int32))) (L' := [some (.ref 42), some (.int x1), some (.int x2), some (.int (x3 + (1 : Int32)))]) d_Cur_isOverService_29 rfl rfl (by decide) rfl ?_
    refine Ev_goto (tgt := 2) d_Cur_isOverService_32 rfl ?_
    exact hK hF hQ
  · rw [if_neg h1] at hF
    refine Ev_iconst (v := 1) d_Cur_isOverService_27 (by decide) ?_
    cases hF
    exact Ev_zreturn d_Cur_isOverService_28 rfl (Or.inr rfl) hQ
def F_Cur_isOverService_2 : Nat → Int32 → Int32 → Int32 → x_S → Option (Int32 × x_S)
  | 0, _, _, _, _ => none
  | n + 1, x1, x2, x3, c => if ((c 42 5) - (1 : Int32)) ≤ x3 then (some ((0 : Int32), c)) else (x_bind (F_Cur_isOver x3 x1 (c 42 1) (3 : Int32) x2 c) (fun r2 c2 => F_Cur_isOverService_24 (F_Cur_isOverService_2 n) x1 x2 x3 r2 c2))
theorem T_Cur_isOverService_2 {E : x_E} {o : x_S} {Q : Int32 → x_H → Prop} : ∀ (n : Nat) {x1 x2 x3 : Int32} {c : x_S} {r : Int32} {s : x_S}, F_Cur_isOverService_2 n x1 x2 x3 c = some (r, s) → Q r (hpk s o) → Ev E m_Cur_isOverService 0 0 2 [some (.ref 42), some (.int x1), some (.int x2), some (.int x3)] [] (hpk c o) Q := by
  intro n
  induction n with
  | zero => intro x1 x2 x3 c r s hF; rw [F_Cur_isOverService_2] at hF; cases hF
  | succ n ih =>
    intro x1 x2 x3 c r s hF hQ
    rw [F_Cur_isOverService_2] at hF
    refine Ev_iload_n d_Cur_isOverService_2 rfl ?_
    refine Ev_aload_n d_Cur_isOverService_3 rfl ?_
    refine g_Cur_34 rfl d_Cur_isOverService_4 ?_
    refine Ev_iconst (v := 1) d_Cur_isOverService_7 (by decide) ?_
    refine Ev_isub d_Cur_isOverService_8 ?_
    refine Ev_icmp_ge (tgt := 35) d_Cur_isOverService_9 rfl (fun h1 => ?_) (fun h1 => ?_)
    · rw [if_pos h1] at hF
      refine Ev_iconst (v := 0) d_Cur_isOverService_35 (by decide) ?_
      cases hF
      exact Ev_zreturn d_Cur_isOverService_36 rfl (Or.inl rfl) hQ
    · rw [if_neg h1] at hF
      refine Ev_aload_n d_Cur_isOverService_12 rfl ?_
      refine Ev_iload_n d_Cur_isOverService_13 rfl ?_
      refine Ev_iload_n d_Cur_isOverService_14 rfl ?_
      refine Ev_aload_n d_Cur_isOverService_15 rfl ?_
      refine g_Cur_25 rfl d_Cur_isOverService_16 ?_
      refine Ev_iconst (v := 3) d_Cur_isOverService_19 (by decide) ?_
      refine Ev_iload_n d_Cur_isOverService_20 rfl ?_
      obtain ⟨r2, c2, hC, hF⟩ := x_bind_some hF
      refine k_Cur_49 rfl d_Cur_isOverService_21 ⟨by decide, by decide⟩ (Nat.le_of_ble_eq_true rfl) ?_
      exact C_Cur_isOver hC (T_Cur_isOverService_24 (fun h1 h2 => ih h1 h2) hF hQ)
def F_Cur_isOverService (x1 x2 : Int32) (c : x_S) : Option (Int32 × x_S) := F_Cur_isOverService_2 x_fuel x1 x2 (0 : Int32) c
theorem C_Cur_isOverService {E : x_E} {o : x_S} {Q : Int32 → x_H → Prop} {x1 x2 : Int32} {c : x_S} {r : Int32} {s : x_S} (hF : F_Cur_isOverService x1 x2 c = some (r, s)) (hQ : Q r (hpk s o)) : Call E m_Cur_isOverService 0 0 [.ref 42, .int x1, .int x2] (hpk c o) Q := by
  refine Call_of (L := [some (.ref 42), some (.int x1), some (.int x2), none]) (by decide) (by intro v hv; simp only [List.mem_cons, List.not_mem_nil, or_false] at hv; rcases hv with rfl | rfl | rfl <;> rfl) (Nat.le_of_ble_eq_true rfl) rfl ?_
  unfold F_Cur_isOverService at hF
  refine Ev_iconst (v := 0) d_Cur_isOverService_0 (by decide) ?_
  refine Ev_istore_n (L' := [some (.ref 42), some (.int x1), some (.int x2), some (.int (0 : Int32))]) d_Cur_isOverService_1 (by decide) rfl ?_
  exact T_Cur_isOverService_2 x_fuel hF hQ
def F_Cur_gradeOf_85 (s0 : Int32) (c : x_S) : Option (Int32 × x_S) := some (s0, c)
theorem T_Cur_gradeOf_85 {E : x_E} {o : x_S} {Q : Int32 → x_H → Prop} {l0 : Option Value} {l1 : Option Value} {s0 : Int32} {c : x_S} {r : Int32} {s : x_S} (hF : F_Cur_gradeOf_85 s0 c = some (r, s)) (hQ : Q r (hpk s o)) : Ev E m_Cur_gradeOf 0 0 85 [l0, l1] [.int s0] (hpk c o) Q := by
  unfold F_Cur_gradeOf_85 at hF
  cases hF
  exact Ev_ireturn d_Cur_gradeOf_85 rfl hQ
def F_Cur_gradeOf_80 (c : x_S) : Option (Int32 × x_S) := F_Cur_gradeOf_85 (1 : Int32) c
theorem T_Cur_gradeOf_80 {E : x_E} {o : x_S} {Q : Int32 → x_H → Prop} {l0 : Option Value} {l1 : Option Value} {c : x_S} {r : Int32} {s : x_S} (hF : F_Cur_gradeOf_80 c = some (r, s)) (hQ : Q r (hpk s o)) : Ev E m_Cur_gradeOf 0 0 80 [l0, l1] [] (hpk c o) Q := by
  unfold F_Cur_gradeOf_80 at hF
  refine Ev_iconst (v := 1) d_Cur_gradeOf_80 (by decide) ?_
  refine Ev_goto (tgt := 85) d_Cur_gradeOf_81 rfl ?_
  exact T_Cur_gradeOf_85 hF hQ
def F_Cur_gradeOf_77 (s0 : Int32) (c : x_S) : Option (Int32 × x_S) := if s0 = 0 then (F_Cur_gradeOf_85 (0 : Int32) c) else (F_Cur_gradeOf_80 c)
theorem T_Cur_gradeOf_77 {E : x_E} {o : x_S} {Q : Int32 → x_H → Prop} {l0 : Option Value} {l1 : Option Value} {s0 : Int32} {c : x_S} {r : Int32} {s : x_S} (hF : F_Cur_gradeOf_77 s0 c = some (r, s)) (hQ : Q r (hpk s o)) : Ev E m_Cur_gradeOf 0 0 77 [l0, l1] [.int s0] (hpk c o) Q := by
  unfold F_Cur_gradeOf_77 at hF
  refine Ev_if_eq (tgt := 84) d_Cur_gradeOf_77 rfl (fun h1 => ?_) (fun h1 => ?_)
  · rw [if_pos h1] at hF
    refine Ev_iconst (v := 0) d_Cur_gradeOf_84 (by decide) ?_
    exact T_Cur_gradeOf_85 hF hQ
  · rw [if_neg h1] at hF
    exact T_Cur_gradeOf_80 hF hQ
def F_Cur_gradeOf_61 (c : x_S) : Option (Int32 × x_S) := some ((2 : Int32), c)
theorem T_Cur_gradeOf_61 {E : x_E} {o : x_S} {Q : Int32 → x_H → Prop} {l0 : Option Value} {l1 : Option Value} {c : x_S} {r : Int32} {s : x_S} (hF : F_Cur_gradeOf_61 c = some (r, s)) (hQ : Q r (hpk s o)) : Ev E m_Cur_gradeOf 0 0 61 [l0, l1] [] (hpk c o) Q := by
  unfold F_Cur_gradeOf_61 at hF
  refine Ev_iconst (v := 2) d_Cur_gradeOf_61 (by decide) ?_
  cases hF
  exact Ev_ireturn d_Cur_gradeOf_62 rfl hQ
def F_Cur_gradeOf_58 (x1 s0 : Int32) (c : x_S) : Option (Int32 × x_S) := if s0 = 0 then (if (c 42 6) < x1 then (F_Cur_gradeOf_80 c) else (x_bind (F_Cur_isOverService x1 (4 : Int32) c) (fun r3 c3 => F_Cur_gradeOf_77 r3 c3))) else (F_Cur_gradeOf_61 c)
theorem T_Cur_gradeOf_58 {E : x_E} {o : x_S} {Q : Int32 → x_H → Prop} {x1 s0 : Int32} {c : x_S} {r : Int32} {s : x_S} (hF : F_Cur_gradeOf_58 x1 s0 c = some (r, s)) (hQ : Q r (hpk s o)) : Ev E m_Cur_gradeOf 0 0 58 [some (.ref 42), some (.int x1)] [.int s0] (hpk c o) Q := by
  unfold F_Cur_gradeOf_58 at hF
  refine Ev_if_eq (tgt := 63) d_Cur_gradeOf_58 rfl (fun h1 => ?_) (fun h1 => ?_)
  · rw [if_pos h1] at hF
    refine Ev_iload_n d_Cur_gradeOf_63 rfl ?_
    refine Ev_aload_n d_Cur_gradeOf_64 rfl ?_
    refine g_Cur_28 rfl d_Cur_gradeOf_65 ?_
    refine Ev_icmp_gt (tgt := 80) d_Cur_gradeOf_68 rfl (fun h2 => ?_) (fun h2 => ?_)
    · rw [if_pos h2] at hF
      exact T_Cur_gradeOf_80 hF hQ
    · rw [if_neg h2] at hF
      refine Ev_aload_n d_Cur_gradeOf_71 rfl ?_
      refine Ev_iload_n d_Cur_gradeOf_72 rfl ?_
      refine Ev_iconst (v := 4) d_Cur_gradeOf_73 (by decide) ?_
      obtain ⟨r3, c3, hC, hF⟩ := x_bind_some hF
      refine k_Cur_41 rfl d_Cur_gradeOf_74 ⟨by decide, by decide⟩ (Nat.le_of_ble_eq_true rfl) ?_
      exact C_Cur_isOverService hC (T_Cur_gradeOf_77 hF hQ)
  · rw [if_neg h1] at hF
    exact T_Cur_gradeOf_61 hF hQ
def F_Cur_gradeOf_40 (c : x_S) : Option (Int32 × x_S) := some ((3 : Int32), c)
theorem T_Cur_gradeOf_40 {E : x_E} {o : x_S} {Q : Int32 → x_H → Prop} {l0 : Option Value} {l1 : Option Value} {c : x_S} {r : Int32} {s : x_S} (hF : F_Cur_gradeOf_40 c = some (r, s)) (hQ : Q r (hpk s o)) : Ev E m_Cur_gradeOf 0 0 40 [l0, l1] [] (hpk c o) Q := by
  unfold F_Cur_gradeOf_40 at hF
  refine Ev_iconst (v := 3) d_Cur_gradeOf_40 (by decide) ?_
  cases hF
  exact Ev_ireturn d_Cur_gradeOf_41 rfl hQ
def F_Cur_gradeOf_37 (x1 s0 : Int32) (c : x_S) : Option (Int32 × x_S) := if s0 = 0 then (if ((c 42 6) + (3 : Int32)) < x1 then (F_Cur_gradeOf_61 c) else (x_bind (F_Cur_isOverService x1 (2 : Int32) c) (fun r3 c3 => F_Cur_gradeOf_58 x1 r3 c3))) else (F_Cur_gradeOf_40 c)
theorem T_Cur_gradeOf_37 {E : x_E} {o : x_S} {Q : Int32 → x_H → Prop} {x1 s0 : Int32} {c : x_S} {r : Int32} {s : x_S} (hF : F_Cur_gradeOf_37 x1 s0 c = some (r, s)) (hQ : Q r (hpk s o)) : Ev E m_Cur_gradeOf 0 0 37 [some (.ref 42), some (.int x1)] [.int s0] (hpk c o) Q := by
  unfold F_Cur_gradeOf_37 at hF
  refine Ev_if_eq (tgt := 42) d_Cur_gradeOf_37 rfl (fun h1 => ?_) (fun h1 => ?_)
  · rw [if_pos h1] at hF
    refine Ev_iload_n d_Cur_gradeOf_42 rfl ?_
    refine Ev_aload_n d_Cur_gradeOf_43 rfl ?_
    refine g_Cur_28 rfl d_Cur_gradeOf_44 ?_
    refine Ev_iconst (v := 3) d_Cur_gradeOf_47 (by decide) ?_
    refine Ev_iadd d_Cur_gradeOf_48 ?_
    refine Ev_icmp_gt (tgt := 61) d_Cur_gradeOf_49 rfl (fun h2 => ?_) (fun h2 => ?_)
    · rw [if_pos h2] at hF
      exact T_Cur_gradeOf_61 hF hQ
    · rw [if_neg h2] at hF
      refine Ev_aload_n d_Cur_gradeOf_52 rfl ?_
      refine Ev_iload_n d_Cur_gradeOf_53 rfl ?_
      refine Ev_iconst (v := 2) d_Cur_gradeOf_54 (by decide) ?_
      obtain ⟨r3, c3, hC, hF⟩ := x_bind_some hF
      refine k_Cur_41 rfl d_Cur_gradeOf_55 ⟨by decide, by decide⟩ (Nat.le_of_ble_eq_true rfl) ?_
      exact C_Cur_isOverService hC (T_Cur_gradeOf_58 hF hQ)
  · rw [if_neg h1] at hF
    exact T_Cur_gradeOf_40 hF hQ
def F_Cur_gradeOf_19 (c : x_S) : Option (Int32 × x_S) := some ((4 : Int32), c)
theorem T_Cur_gradeOf_19 {E : x_E} {o : x_S} {Q : Int32 → x_H → Prop} {l0 : Option Value} {l1 : Option Value} {c : x_S} {r : Int32} {s : x_S} (hF : F_Cur_gradeOf_19 c = some (r, s)) (hQ : Q r (hpk s o)) : Ev E m_Cur_gradeOf 0 0 19 [l0, l1] [] (hpk c o) Q := by
  unfold F_Cur_gradeOf_19 at hF
  refine Ev_iconst (v := 4) d_Cur_gradeOf_19 (by decide) ?_
  cases hF
  exact Ev_ireturn d_Cur_gradeOf_20 rfl hQ
def F_Cur_gradeOf_16 (x1 s0 : Int32) (c : x_S) : Option (Int32 × x_S) := if s0 = 0 then (if ((c 42 6) + (5 : Int32)) < x1 then (F_Cur_gradeOf_40 c) else (x_bind (F_Cur_isOverService x1 (0 : Int32) c) (fun r3 c3 => F_Cur_gradeOf_37 x1 r3 c3))) else (F_Cur_gradeOf_19 c)
theorem T_Cur_gradeOf_16 {E : x_E} {o : x_S} {Q : Int32 → x_H → Prop} {x1 s0 : Int32} {c : x_S} {r : Int32} {s : x_S} (hF : F_Cur_gradeOf_16 x1 s0 c = some (r, s)) (hQ : Q r (hpk s o)) : Ev E m_Cur_gradeOf 0 0 16 [some (.ref 42), some (.int x1)] [.int s0] (hpk c o) Q := by
  unfold F_Cur_gradeOf_16 at hF
  refine Ev_if_eq (tgt := 21) d_Cur_gradeOf_16 rfl (fun h1 => ?_) (fun h1 => ?_)
  · rw [if_pos h1] at hF
    refine Ev_iload_n d_Cur_gradeOf_21 rfl ?_
    refine Ev_aload_n d_Cur_gradeOf_22 rfl ?_
    refine g_Cur_28 rfl d_Cur_gradeOf_23 ?_
    refine Ev_iconst (v := 5) d_Cur_gradeOf_26 (by decide) ?_
    refine Ev_iadd d_Cur_gradeOf_27 ?_
    refine Ev_icmp_gt (tgt := 40) d_Cur_gradeOf_28 rfl (fun h2 => ?_) (fun h2 => ?_)
    · rw [if_pos h2] at hF
      exact T_Cur_gradeOf_40 hF hQ
    · rw [if_neg h2] at hF
      refine Ev_aload_n d_Cur_gradeOf_31 rfl ?_
      refine Ev_iload_n d_Cur_gradeOf_32 rfl ?_
      refine Ev_iconst (v := 0) d_Cur_gradeOf_33 (by decide) ?_
      obtain ⟨r3, c3, hC, hF⟩ := x_bind_some hF
      refine k_Cur_41 rfl d_Cur_gradeOf_34 ⟨by decide, by decide⟩ (Nat.le_of_ble_eq_true rfl) ?_
      exact C_Cur_isOverService hC (T_Cur_gradeOf_37 hF hQ)
  · rw [if_neg h1] at hF
    exact T_Cur_gradeOf_19 hF hQ
def F_Cur_gradeOf (x1 : Int32) (c : x_S) : Option (Int32 × x_S) := if ((c 42 6) + (8 : Int32)) < x1 then (F_Cur_gradeOf_19 c) else (x_bind (F_Cur_isOverEmergency x1 c) (fun r2 c2 => F_Cur_gradeOf_16 x1 r2 c2))
theorem C_Cur_gradeOf {E : x_E} {o : x_S} {Q : Int32 → x_H → Prop} {x1 : Int32} {c : x_S} {r : Int32} {s : x_S} (hF : F_Cur_gradeOf x1 c = some (r, s)) (hQ : Q r (hpk s o)) : Call E m_Cur_gradeOf 0 0 [.ref 42, .int x1] (hpk c o) Q := by
  refine Call_of (L := [some (.ref 42), some (.int x1)]) (by decide) (by intro v hv; simp only [List.mem_cons, List.not_mem_nil, or_false] at hv; rcases hv with rfl | rfl <;> rfl) (Nat.le_of_ble_eq_true rfl) rfl ?_
  unfold F_Cur_gradeOf at hF
  refine Ev_iload_n d_Cur_gradeOf_0 rfl ?_
  refine Ev_aload_n d_Cur_gradeOf_1 rfl ?_
  refine g_Cur_28 rfl d_Cur_gradeOf_2 ?_
  refine Ev_bipush (v := (8)) d_Cur_gradeOf_5 (by decide) ?_
  refine Ev_iadd d_Cur_gradeOf_7 ?_
  refine Ev_icmp_gt (tgt := 19) d_Cur_gradeOf_8 rfl (fun h1 => ?_) (fun h1 => ?_)
  · rw [if_pos h1] at hF
    exact T_Cur_gradeOf_19 hF hQ
  · rw [if_neg h1] at hF
    refine Ev_aload_n d_Cur_gradeOf_11 rfl ?_
    refine Ev_iload_n d_Cur_gradeOf_12 rfl ?_
    obtain ⟨r2, c2, hC, hF⟩ := x_bind_some hF
    refine k_Cur_37 rfl d_Cur_gradeOf_13 ⟨by decide, by decide⟩ (Nat.le_of_ble_eq_true rfl) ?_
    exact C_Cur_isOverEmergency hC (T_Cur_gradeOf_16 hF hQ)
def F_Cur_allowed_63 (x1 : Int32) (c : x_S) : Option (Int32 × x_S) := some (x1, c)
theorem T_Cur_allowed_63 {E : x_E} {o : x_S} {Q : Int32 → x_H → Prop} {l0 : Option Value} {l2 : Option Value} {l3 : Option Value} {l4 : Option Value} {l5 : Option Value} {x1 : Int32} {c : x_S} {r : Int32} {s : x_S} (hF : F_Cur_allowed_63 x1 c = some (r, s)) (hQ : Q r (hpk s o)) : Ev E m_Cur_allowed 0 0 63 [l0, some (.int x1), l2, l3, l4, l5] [] (hpk c o) Q := by
  unfold F_Cur_allowed_63 at hF
  refine Ev_iload_n d_Cur_allowed_63 rfl ?_
  cases hF
  exact Ev_ireturn d_Cur_allowed_64 rfl hQ
def F_Cur_allowed_57 (K : Int32 → Int32 → Int32 → Int32 → x_S → Option (Int32 × x_S)) (x1 x2 x3 x4 : Int32) (c : x_S) : Option (Int32 × x_S) := K x1 x2 x3 (x4 + (1 : Int32)) c
theorem T_Cur_allowed_57 {E : x_E} {o : x_S} {Q : Int32 → x_H → Prop} {K : Int32 → Int32 → Int32 → Int32 → x_S → Option (Int32 × x_S)} (hK : ∀ {l5 : Option Value} {x1 x2 x3 x4 : Int32} {c : x_S} {r : Int32} {s : x_S}, K x1 x2 x3 x4 c = some (r, s) → Q r (hpk s o) → Ev E m_Cur_allowed 0 0 12 [some (.ref 42), some (.int x1), some (.int x2), some (.int x3), some (.int x4), l5] [] (hpk c o) Q) {l5 : Option Value} {x1 x2 x3 x4 : Int32} {c : x_S} {r : Int32} {s : x_S} (hF : F_Cur_allowed_57 K x1 x2 x3 x4 c = some (r, s)) (hQ : Q r (hpk s o)) : Ev E m_Cur_allowed 0 0 57 [some (.ref 42), some (.int x1), some (.int x2), some (.int x3), some (.int x4), l5] [] (hpk c o) Q := by
  unfold F_Cur_allowed_57 at hF
  refine Ev_iinc (v := (x4 + (1 : Int32))) (L' := [some (.ref 42), some (.int x1), some (.int x2), some (.int x3), some (.int (x4 + (1 : Int32))), l5]) d_Cur_allowed_57 rfl rfl (by decide) rfl ?_
  refine Ev_goto (tgt := 12) d_Cur_allowed_60 rfl ?_
  exact hK hF hQ
def F_Cur_allowed_38 (K : Int32 → Int32 → Int32 → Int32 → x_S → Option (Int32 × x_S)) (x1 x2 x3 x4 x5 s0 : Int32) (c : x_S) : Option (Int32 × x_S) := if s0 = 0 then (F_Cur_allowed_57 K x5 (x5 + (1 : Int32)) x3 x4 c) else (F_Cur_allowed_57 K x1 x2 (x5 - (1 : Int32)) x4 c)
theorem T_Cur_allowed_38 {E : x_E} {o : x_S} {Q : Int32 → x_H → Prop} {K : Int32 → Int32 → Int32 → Int32 → x_S → Option (Int32 × x_S)} (hK : ∀ {l5 : Option Value} {x1 x2 x3 x4 : Int32} {c : x_S} {r : Int32} {s : x_S}, K x1 x2 x3 x4 c = some (r, s) → Q r (hpk s o) → Ev E m_Cur_allowed 0 0 12 [some (.ref 42), some (.int x1), some (.int x2), some (.int x3), some (.int x4), l5] [] (hpk c o) Q) {x1 x2 x3 x4 x5 s0 : Int32} {c : x_S} {r : Int32} {s : x_S} (hF : F_Cur_allowed_38 K x1 x2 x3 x4 x5 s0 c = some (r, s)) (hQ : Q r (hpk s o)) : Ev E m_Cur_allowed 0 0 38 [some (.ref 42), some (.int x1), some (.int x2), some (.int x3), some (.int x4), some (.int x5)] [.int s0] (hpk c o) Q := by
  unfold F_Cur_allowed_38 at hF
  refine Ev_if_ne (tgt := 52) d_Cur_allowed_38 rfl (fun h1 => ?_) (fun h1 => ?_)
  · rw [if_neg h1] at hF
    refine Ev_iload d_Cur_allowed_52 rfl ?_
    refine Ev_iconst (v := 1) d_Cur_allowed_54 (by decide) ?_
    refine Ev_isub d_Cur_allowed_55 ?_
    refine Ev_istore_n (L' := [some (.ref 42), some (.int x1), some (.int x2), some (.int (x5 - (1 : Int32))), some (.int x4), some (.int x5)]) d_Cur_allowed_56 (by decide) rfl ?_
    exact T_Cur_allowed_57 (fun h1 h2 => hK h1 h2) hF hQ
  · rw [if_pos h1] at hF
    refine Ev_iload d_Cur_allowed_41 rfl ?_
    refine Ev_istore_n (L' := [some (.ref 42), some (.int x5), some (.int x2), some (.int x3), some (.int x4), some (.int x5)]) d_Cur_allowed_43 (by decide) rfl ?_
    refine Ev_iload d_Cur_allowed_44 rfl ?_
    refine Ev_iconst (v := 1) d_Cur_allowed_46 (by decide) ?_
    refine Ev_iadd d_Cur_allowed_47 ?_
    refine Ev_istore_n (L' := [some (.ref 42), some (.int x5), some (.int (x5 + (1 : Int32))), some (.int x3), some (.int x4), some (.int x5)]) d_Cur_allowed_48 (by decide) rfl ?_
    refine Ev_goto (tgt := 57) d_Cur_allowed_49 rfl ?_
    exact T_Cur_allowed_57 (fun h1 h2 => hK h1 h2) hF hQ
def F_Cur_allowed_12 : Nat → Int32 → Int32 → Int32 → Int32 → x_S → Option (Int32 × x_S)
  | 0, _, _, _, _, _ => none
  | n + 1, x1, x2, x3, x4, c => if (600 : Int32) ≤ x4 then (F_Cur_allowed_63 x1 c) else (if x3 < x2 then (F_Cur_allowed_63 x1 c) else (x_bind (F_Cur_gradeOf ((x2 + x3) / (2 : Int32)) c) (fun r3 c3 => F_Cur_allowed_38 (F_Cur_allowed_12 n) x1 x2 x3 x4 ((x2 + x3) / (2 : Int32)) r3 c3)))
theorem T_Cur_allowed_12 {E : x_E} {o : x_S} {Q : Int32 → x_H → Prop} : ∀ (n : Nat) {l5 : Option Value} {x1 x2 x3 x4 : Int32} {c : x_S} {r : Int32} {s : x_S}, F_Cur_allowed_12 n x1 x2 x3 x4 c = some (r, s) → Q r (hpk s o) → Ev E m_Cur_allowed 0 0 12 [some (.ref 42), some (.int x1), some (.int x2), some (.int x3), some (.int x4), l5] [] (hpk c o) Q := by
  intro n
  induction n with
  | zero => intro l5 x1 x2 x3 x4 c r s hF; rw [F_Cur_allowed_12] at hF; cases hF
  | succ n ih =>
    intro l5 x1 x2 x3 x4 c r s hF hQ
    rw [F_Cur_allowed_12] at hF
    refine Ev_iload d_Cur_allowed_12 rfl ?_
    refine Ev_sipush (v := (600)) d_Cur_allowed_14 (by decide) ?_
    refine Ev_icmp_ge (tgt := 63) d_Cur_allowed_17 rfl (fun h1 => ?_) (fun h1 => ?_)
    · rw [if_pos h1] at hF
      exact T_Cur_allowed_63 hF hQ
    · rw [if_neg h1] at hF
      refine Ev_iload_n d_Cur_allowed_20 rfl ?_
      refine Ev_iload_n d_Cur_allowed_21 rfl ?_
      refine Ev_icmp_gt (tgt := 63) d_Cur_allowed_22 rfl (fun h2 => ?_) (fun h2 => ?_)
      · rw [if_pos h2] at hF
        exact T_Cur_allowed_63 hF hQ
      · rw [if_neg h2] at hF
        refine Ev_iload_n d_Cur_allowed_25 rfl ?_
        refine Ev_iload_n d_Cur_allowed_26 rfl ?_
        refine Ev_iadd d_Cur_allowed_27 ?_
        refine Ev_iconst (v := 2) d_Cur_allowed_28 (by decide) ?_
        refine Ev_idiv d_Cur_allowed_29 (by decide) ?_
        refine Ev_istore (L' := [some (.ref 42), some (.int x1), some (.int x2), some (.int x3), some (.int x4), some (.int ((x2 + x3) / (2 : Int32)))]) d_Cur_allowed_30 (by decide) rfl ?_
        refine Ev_aload_n d_Cur_allowed_32 rfl ?_
        refine Ev_iload d_Cur_allowed_33 rfl ?_
        obtain ⟨r3, c3, hC, hF⟩ := x_bind_some hF
        refine k_Cur_45 rfl d_Cur_allowed_35 ⟨by decide, by decide⟩ (Nat.le_of_ble_eq_true rfl) ?_
        exact C_Cur_gradeOf hC (T_Cur_allowed_38 (fun h1 h2 => ih h1 h2) hF hQ)
def F_Cur_allowed (c : x_S) : Option (Int32 × x_S) := F_Cur_allowed_12 x_fuel (0 : Int32) (1 : Int32) (c 42 6) (0 : Int32) c
theorem C_Cur_allowed {E : x_E} {o : x_S} {Q : Int32 → x_H → Prop} {c : x_S} {r : Int32} {s : x_S} (hF : F_Cur_allowed c = some (r, s)) (hQ : Q r (hpk s o)) : Call E m_Cur_allowed 0 0 [.ref 42] (hpk c o) Q := by
  refine Call_of (L := [some (.ref 42), none, none, none, none, none]) (by decide) (by intro v hv; simp only [List.mem_cons, List.not_mem_nil, or_false] at hv; rw [hv]; rfl) (Nat.le_of_ble_eq_true rfl) rfl ?_
  unfold F_Cur_allowed at hF
  refine Ev_iconst (v := 0) d_Cur_allowed_0 (by decide) ?_
  refine Ev_istore_n (L' := [some (.ref 42), some (.int (0 : Int32)), none, none, none, none]) d_Cur_allowed_1 (by decide) rfl ?_
  refine Ev_iconst (v := 1) d_Cur_allowed_2 (by decide) ?_
  refine Ev_istore_n (L' := [some (.ref 42), some (.int (0 : Int32)), some (.int (1 : Int32)), none, none, none]) d_Cur_allowed_3 (by decide) rfl ?_
  refine Ev_aload_n d_Cur_allowed_4 rfl ?_
  refine g_Cur_28 rfl d_Cur_allowed_5 ?_
  refine Ev_istore_n (L' := [some (.ref 42), some (.int (0 : Int32)), some (.int (1 : Int32)), some (.int (c 42 6)), none, none]) d_Cur_allowed_8 (by decide) rfl ?_
  refine Ev_iconst (v := 0) d_Cur_allowed_9 (by decide) ?_
  refine Ev_istore (L' := [some (.ref 42), some (.int (0 : Int32)), some (.int (1 : Int32)), some (.int (c 42 6)), some (.int (0 : Int32)), none]) d_Cur_allowed_10 (by decide) rfl ?_
  exact T_Cur_allowed_12 x_fuel hF hQ
