/-! printed by wip/gen/gen4.py: TrainGuard$Brakes -/
def F_Brk_apply_99 (s0 : Int32) (c : x_S) : Option (Int32 × x_S) := x_b01 s0 (some (s0, c))
theorem T_Brk_apply_99 {E : x_E} {o : x_S} {Q : Int32 → x_H → Prop} {l0 : Option Value} {l1 : Option Value} {l2 : Option Value} {l3 : Option Value} {l4 : Option Value} {s0 : Int32} {c : x_S} {r : Int32} {s : x_S} (hF : F_Brk_apply_99 s0 c = some (r, s)) (hQ : Q r (hpk s o)) : Ev E m_Brk_apply 0 0 99 [l0, l1, l2, l3, l4] [.int s0] (hpk c o) Q := by
  unfold F_Brk_apply_99 at hF
  obtain ⟨hb1, hF⟩ := x_b01_some hF
  cases hF
  exact Ev_zreturn d_Brk_apply_99 rfl hb1 hQ
def F_Brk_apply_85 (x4 : Int32) (c : x_S) : Option (Int32 × x_S) := if (c 39 2) = x4 then (F_Brk_apply_99 (0 : Int32) c) else (F_Brk_apply_99 (1 : Int32) c)
theorem T_Brk_apply_85 {E : x_E} {o : x_S} {Q : Int32 → x_H → Prop} {l1 : Option Value} {l2 : Option Value} {l3 : Option Value} {x4 : Int32} {c : x_S} {r : Int32} {s : x_S} (hF : F_Brk_apply_85 x4 c = some (r, s)) (hQ : Q r (hpk s o)) : Ev E m_Brk_apply 0 0 85 [some (.ref 39), l1, l2, l3, some (.int x4)] [] (hpk c o) Q := by
  unfold F_Brk_apply_85 at hF
  refine Ev_aload_n d_Brk_apply_85 rfl ?_
  refine g_Brk_18 rfl d_Brk_apply_86 ?_
  refine Ev_iload d_Brk_apply_89 rfl ?_
  refine Ev_icmp_eq (tgt := 98) d_Brk_apply_91 rfl (fun h1 => ?_) (fun h1 => ?_)
  · rw [if_pos h1] at hF
    refine Ev_iconst (v := 0) d_Brk_apply_98 (by decide) ?_
    exact T_Brk_apply_99 hF hQ
  · rw [if_neg h1] at hF
    refine Ev_iconst (v := 1) d_Brk_apply_94 (by decide) ?_
    refine Ev_goto (tgt := 99) d_Brk_apply_95 rfl ?_
    exact T_Brk_apply_99 hF hQ
def F_Brk_apply_82 (x4 s1 : Int32) (c : x_S) : Option (Int32 × x_S) := F_Brk_apply_85 x4 (x_up c 39 2 s1)
theorem T_Brk_apply_82 {E : x_E} {o : x_S} {Q : Int32 → x_H → Prop} {l1 : Option Value} {l2 : Option Value} {l3 : Option Value} {x4 s1 : Int32} {c : x_S} {r : Int32} {s : x_S} (hF : F_Brk_apply_82 x4 s1 c = some (r, s)) (hQ : Q r (hpk s o)) : Ev E m_Brk_apply 0 0 82 [some (.ref 39), l1, l2, l3, some (.int x4)] [.int s1, .ref 39] (hpk c o) Q := by
  unfold F_Brk_apply_82 at hF
  refine q_Brk_18 rfl d_Brk_apply_82 ?_
  exact T_Brk_apply_85 hF hQ
def F_Brk_apply_77 (x4 : Int32) (c : x_S) : Option (Int32 × x_S) := F_Brk_apply_82 x4 (1 : Int32) c
theorem T_Brk_apply_77 {E : x_E} {o : x_S} {Q : Int32 → x_H → Prop} {l1 : Option Value} {l2 : Option Value} {l3 : Option Value} {x4 : Int32} {c : x_S} {r : Int32} {s : x_S} (hF : F_Brk_apply_77 x4 c = some (r, s)) (hQ : Q r (hpk s o)) : Ev E m_Brk_apply 0 0 77 [some (.ref 39), l1, l2, l3, some (.int x4)] [.ref 39] (hpk c o) Q := by
  unfold F_Brk_apply_77 at hF
  refine Ev_iconst (v := 1) d_Brk_apply_77 (by decide) ?_
  refine Ev_goto (tgt := 82) d_Brk_apply_78 rfl ?_
  exact T_Brk_apply_82 hF hQ
def F_Brk_apply_48 (x3 : Int32) (c : x_S) : Option (Int32 × x_S) := if (c 39 0) = 0 then (if (c 39 1) = 0 then (if x3 = 0 then (F_Brk_apply_82 (c 39 2) (0 : Int32) c) else (F_Brk_apply_77 (c 39 2) c)) else (F_Brk_apply_77 (c 39 2) c)) else (F_Brk_apply_82 (c 39 2) (2 : Int32) c)
theorem T_Brk_apply_48 {E : x_E} {o : x_S} {Q : Int32 → x_H → Prop} {l1 : Option Value} {l2 : Option Value} {l4 : Option Value} {x3 : Int32} {c : x_S} {r : Int32} {s : x_S} (hF : F_Brk_apply_48 x3 c = some (r, s)) (hQ : Q r (hpk s o)) : Ev E m_Brk_apply 0 0 48 [some (.ref 39), l1, l2, some (.int x3), l4] [] (hpk c o) Q := by
  unfold F_Brk_apply_48 at hF
  refine Ev_aload_n d_Brk_apply_48 rfl ?_
  refine g_Brk_18 rfl d_Brk_apply_49 ?_
  refine Ev_istore (L' := [some (.ref 39), l1, l2, some (.int x3), some (.int (c 39 2))]) d_Brk_apply_52 (by decide) rfl ?_
  refine Ev_aload_n d_Brk_apply_54 rfl ?_
  refine Ev_aload_n d_Brk_apply_55 rfl ?_
  refine g_Brk_9 rfl d_Brk_apply_56 ?_
  refine Ev_if_eq (tgt := 66) d_Brk_apply_59 rfl (fun h1 => ?_) (fun h1 => ?_)
  · rw [if_pos h1] at hF
    refine Ev_aload_n d_Brk_apply_66 rfl ?_
    refine g_Brk_15 rfl d_Brk_apply_67 ?_
    refine Ev_if_ne (tgt := 77) d_Brk_apply_70 rfl (fun h2 => ?_) (fun h2 => ?_)
    · rw [if_neg h2] at hF
      exact T_Brk_apply_77 hF hQ
    · rw [if_pos h2] at hF
      refine Ev_iload_n d_Brk_apply_73 rfl ?_
      refine Ev_if_eq (tgt := 81) d_Brk_apply_74 rfl (fun h3 => ?_) (fun h3 => ?_)
      · rw [if_pos h3] at hF
        refine Ev_iconst (v := 0) d_Brk_apply_81 (by decide) ?_
        exact T_Brk_apply_82 hF hQ
      · rw [if_neg h3] at hF
        exact T_Brk_apply_77 hF hQ
  · rw [if_neg h1] at hF
    refine Ev_iconst (v := 2) d_Brk_apply_62 (by decide) ?_
    refine Ev_goto (tgt := 82) d_Brk_apply_63 rfl ?_
    exact T_Brk_apply_82 hF hQ
def F_Brk_apply_43 (x3 : Int32) (c : x_S) : Option (Int32 × x_S) := F_Brk_apply_48 x3 (x_up c 39 1 (0 : Int32))
theorem T_Brk_apply_43 {E : x_E} {o : x_S} {Q : Int32 → x_H → Prop} {l1 : Option Value} {l2 : Option Value} {l4 : Option Value} {x3 : Int32} {c : x_S} {r : Int32} {s : x_S} (hF : F_Brk_apply_43 x3 c = some (r, s)) (hQ : Q r (hpk s o)) : Ev E m_Brk_apply 0 0 43 [some (.ref 39), l1, l2, some (.int x3), l4] [] (hpk c o) Q := by
  unfold F_Brk_apply_43 at hF
  refine Ev_aload_n d_Brk_apply_43 rfl ?_
  refine Ev_iconst (v := 0) d_Brk_apply_44 (by decide) ?_
  refine q_Brk_15 rfl d_Brk_apply_45 (Or.inl rfl) ?_
  exact T_Brk_apply_48 hF hQ
def F_Brk_apply_32 (x3 : Int32) (c : x_S) : Option (Int32 × x_S) := F_Brk_apply_48 x3 c
theorem T_Brk_apply_32 {E : x_E} {o : x_S} {Q : Int32 → x_H → Prop} {l1 : Option Value} {l2 : Option Value} {l4 : Option Value} {x3 : Int32} {c : x_S} {r : Int32} {s : x_S} (hF : F_Brk_apply_32 x3 c = some (r, s)) (hQ : Q r (hpk s o)) : Ev E m_Brk_apply 0 0 32 [some (.ref 39), l1, l2, some (.int x3), l4] [] (hpk c o) Q := by
  unfold F_Brk_apply_32 at hF
  refine Ev_goto (tgt := 48) d_Brk_apply_32 rfl ?_
  exact T_Brk_apply_48 hF hQ
def F_Brk_apply_22 (x1 x2 x3 : Int32) (c : x_S) : Option (Int32 × x_S) := if x1 < (3 : Int32) then (if x2 = 0 then (if x1 = 0 then (F_Brk_apply_43 x3 c) else (F_Brk_apply_48 x3 c)) else (F_Brk_apply_43 x3 c)) else (F_Brk_apply_32 x3 (x_up c 39 1 (1 : Int32)))
theorem T_Brk_apply_22 {E : x_E} {o : x_S} {Q : Int32 → x_H → Prop} {l4 : Option Value} {x1 x2 x3 : Int32} {c : x_S} {r : Int32} {s : x_S} (hF : F_Brk_apply_22 x1 x2 x3 c = some (r, s)) (hQ : Q r (hpk s o)) : Ev E m_Brk_apply 0 0 22 [some (.ref 39), some (.int x1), some (.int x2), some (.int x3), l4] [] (hpk c o) Q := by
  unfold F_Brk_apply_22 at hF
  refine Ev_iload_n d_Brk_apply_22 rfl ?_
  refine Ev_iconst (v := 3) d_Brk_apply_23 (by decide) ?_
  refine Ev_icmp_lt (tgt := 35) d_Brk_apply_24 rfl (fun h1 => ?_) (fun h1 => ?_)
  · rw [if_pos h1] at hF
    refine Ev_iload_n d_Brk_apply_35 rfl ?_
    refine Ev_if_ne (tgt := 43) d_Brk_apply_36 rfl (fun h2 => ?_) (fun h2 => ?_)
    · rw [if_neg h2] at hF
      exact T_Brk_apply_43 hF hQ
    · rw [if_pos h2] at hF
      refine Ev_iload_n d_Brk_apply_39 rfl ?_
      refine Ev_if_ne (tgt := 48) d_Brk_apply_40 rfl (fun h3 => ?_) (fun h3 => ?_)
      · rw [if_neg h3] at hF
        exact T_Brk_apply_48 hF hQ
      · rw [if_pos h3] at hF
        exact T_Brk_apply_43 hF hQ
  · rw [if_neg h1] at hF
    refine Ev_aload_n d_Brk_apply_27 rfl ?_
    refine Ev_iconst (v := 1) d_Brk_apply_28 (by decide) ?_
    refine q_Brk_15 rfl d_Brk_apply_29 (Or.inr rfl) ?_
    exact T_Brk_apply_32 hF hQ
def F_Brk_apply_10 (x1 x2 x3 : Int32) (c : x_S) : Option (Int32 × x_S) := F_Brk_apply_22 x1 x2 x3 c
theorem T_Brk_apply_10 {E : x_E} {o : x_S} {Q : Int32 → x_H → Prop} {l4 : Option Value} {x1 x2 x3 : Int32} {c : x_S} {r : Int32} {s : x_S} (hF : F_Brk_apply_10 x1 x2 x3 c = some (r, s)) (hQ : Q r (hpk s o)) : Ev E m_Brk_apply 0 0 10 [some (.ref 39), some (.int x1), some (.int x2), some (.int x3), l4] [] (hpk c o) Q := by
  unfold F_Brk_apply_10 at hF
  refine Ev_goto (tgt := 22) d_Brk_apply_10 rfl ?_
  exact T_Brk_apply_22 hF hQ
def F_Brk_apply (x1 x2 x3 : Int32) (c : x_S) : Option (Int32 × x_S) := if x1 < (4 : Int32) then (if x2 = 0 then (F_Brk_apply_22 x1 x2 x3 c) else (F_Brk_apply_22 x1 x2 x3 (x_up c 39 0 (0 : Int32)))) else (F_Brk_apply_10 x1 x2 x3 (x_up c 39 0 (1 : Int32)))
theorem C_Brk_apply {E : x_E} {o : x_S} {Q : Int32 → x_H → Prop} {x1 x2 x3 : Int32} {c : x_S} {r : Int32} {s : x_S} (hF : F_Brk_apply x1 x2 x3 c = some (r, s)) (hQ : Q r (hpk s o)) : Call E m_Brk_apply 0 0 [.ref 39, .int x1, .int x2, .int x3] (hpk c o) Q := by
  refine Call_of (L := [some (.ref 39), some (.int x1), some (.int x2), some (.int x3), none]) (by decide) (by intro v hv; simp only [List.mem_cons, List.not_mem_nil, or_false] at hv; rcases hv with rfl | rfl | rfl | rfl <;> rfl) (Nat.le_of_ble_eq_true rfl) rfl ?_
  unfold F_Brk_apply at hF
  refine Ev_iload_n d_Brk_apply_0 rfl ?_
  refine Ev_iconst (v := 4) d_Brk_apply_1 (by decide) ?_
  refine Ev_icmp_lt (tgt := 13) d_Brk_apply_2 rfl (fun h1 => ?_) (fun h1 => ?_)
  · rw [if_pos h1] at hF
    refine Ev_iload_n d_Brk_apply_13 rfl ?_
    refine Ev_if_eq (tgt := 22) d_Brk_apply_14 rfl (fun h2 => ?_) (fun h2 => ?_)
    · rw [if_pos h2] at hF
      exact T_Brk_apply_22 hF hQ
    · rw [if_neg h2] at hF
      refine Ev_aload_n d_Brk_apply_17 rfl ?_
      refine Ev_iconst (v := 0) d_Brk_apply_18 (by decide) ?_
      refine q_Brk_9 rfl d_Brk_apply_19 (Or.inl rfl) ?_
      exact T_Brk_apply_22 hF hQ
  · rw [if_neg h1] at hF
    refine Ev_aload_n d_Brk_apply_5 rfl ?_
    refine Ev_iconst (v := 1) d_Brk_apply_6 (by decide) ?_
    refine q_Brk_9 rfl d_Brk_apply_7 (Or.inr rfl) ?_
    exact T_Brk_apply_10 hF hQ
