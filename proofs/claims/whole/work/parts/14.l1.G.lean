/-! printed by wip/gen/gen4.py: TrainGuard -/
def F_G_message_71 (c : x_S) : Option (Int32 × x_S) := some ((0 : Int32), c)
theorem T_G_message_71 {E : x_E} {o : x_S} {Q : Int32 → x_H → Prop} {l0 : Option Value} {l1 : Option Value} {c : x_S} {r : Int32} {s : x_S} (hF : F_G_message_71 c = some (r, s)) (hQ : Q r (hpk s o)) : Ev E m_G_message 0 0 71 [l0, l1] [] (hpk c o) Q := by
  unfold F_G_message_71 at hF
  refine Ev_iconst (v := 0) d_G_message_71 (by decide) ?_
  cases hF
  exact Ev_ireturn d_G_message_72 rfl hQ
def F_G_message_67 (c : x_S) : Option (Int32 × x_S) := x_bind (F_G_obeyReceived c) (fun _ c1 => F_G_message_71 c1)
theorem T_G_message_67 {E : x_E} {o : x_S} {Q : Int32 → x_H → Prop} {l1 : Option Value} {c : x_S} {r : Int32} {s : x_S} (hF : F_G_message_67 c = some (r, s)) (hQ : Q r (hpk s o)) : Ev E m_G_message 0 0 67 [some (.ref 0), l1] [] (hpk c o) Q := by
  unfold F_G_message_67 at hF
  refine Ev_aload_n d_G_message_67 rfl ?_
  obtain ⟨r1, c1, hC, hF⟩ := x_bind_some hF
  refine k_G_98 rfl d_G_message_68 ⟨by decide, by decide⟩ (Nat.le_of_ble_eq_true rfl) ?_
  exact C_G_obeyReceived hC (T_G_message_71 hF hQ)
def F_G_message_56 (c : x_S) : Option (Int32 × x_S) := F_G_message_67 (x_up c 0 11 (c 24 5))
theorem T_G_message_56 {E : x_E} {o : x_S} {Q : Int32 → x_H → Prop} {l1 : Option Value} {c : x_S} {r : Int32} {s : x_S} (hF : F_G_message_56 c = some (r, s)) (hQ : Q r (hpk s o)) : Ev E m_G_message 0 0 56 [some (.ref 0), l1] [] (hpk c o) Q := by
  unfold F_G_message_56 at hF
  refine Ev_aload_n d_G_message_56 rfl ?_
  refine Ev_aload_n d_G_message_57 rfl ?_
  refine g_G_33 rfl d_G_message_58 ?_
  refine g_G_95 rfl d_G_message_61 ?_
  refine q_G_55 rfl d_G_message_64 ?_
  exact T_G_message_67 hF hQ
def F_G_message_42 (x1 : Int32) (c : x_S) : Option (Int32 × x_S) := some (x1, c)
theorem T_G_message_42 {E : x_E} {o : x_S} {Q : Int32 → x_H → Prop} {l0 : Option Value} {x1 : Int32} {c : x_S} {r : Int32} {s : x_S} (hF : F_G_message_42 x1 c = some (r, s)) (hQ : Q r (hpk s o)) : Ev E m_G_message 0 0 42 [l0, some (.int x1)] [] (hpk c o) Q := by
  unfold F_G_message_42 at hF
  refine Ev_iload_n d_G_message_42 rfl ?_
  cases hF
  exact Ev_ireturn d_G_message_43 rfl hQ
def F_G_message_32 (x1 : Int32) (c : x_S) : Option (Int32 × x_S) := if x1 = 0 then (x_bind (F_G_write (3 : Int32) (c 24 4) c) (fun _ c2 => F_G_message_56 c2)) else (x_bind (F_G_write (4 : Int32) x1 c) (fun _ c3 => F_G_message_42 x1 c3))
theorem T_G_message_32 {E : x_E} {o : x_S} {Q : Int32 → x_H → Prop} {x1 : Int32} {c : x_S} {r : Int32} {s : x_S} (hF : F_G_message_32 x1 c = some (r, s)) (hQ : Q r (hpk s o)) : Ev E m_G_message 0 0 32 [some (.ref 0), some (.int x1)] [] (hpk c o) Q := by
  unfold F_G_message_32 at hF
  refine Ev_iload_n d_G_message_32 rfl ?_
  refine Ev_if_eq (tgt := 44) d_G_message_33 rfl (fun h1 => ?_) (fun h1 => ?_)
  · rw [if_pos h1] at hF
    refine Ev_aload_n d_G_message_44 rfl ?_
    refine Ev_iconst (v := 3) d_G_message_45 (by decide) ?_
    refine Ev_aload_n d_G_message_46 rfl ?_
    refine g_G_33 rfl d_G_message_47 ?_
    refine g_G_92 rfl d_G_message_50 ?_
    obtain ⟨r2, c2, hC, hF⟩ := x_bind_some hF
    refine k_G_89 rfl d_G_message_53 ⟨by decide, by decide⟩ (Nat.le_of_ble_eq_true rfl) ?_
    exact C_G_write hC (T_G_message_56 hF hQ)
  · rw [if_neg h1] at hF
    refine Ev_aload_n d_G_message_36 rfl ?_
    refine Ev_iconst (v := 4) d_G_message_37 (by decide) ?_
    refine Ev_iload_n d_G_message_38 rfl ?_
    obtain ⟨r3, c3, hC, hF⟩ := x_bind_some hF
    refine k_G_89 rfl d_G_message_39 ⟨by decide, by decide⟩ (Nat.le_of_ble_eq_true rfl) ?_
    exact C_G_write hC (T_G_message_42 hF hQ)
def F_G_message_31 (s0 : Int32) (c : x_S) : Option (Int32 × x_S) := F_G_message_32 s0 c
theorem T_G_message_31 {E : x_E} {o : x_S} {Q : Int32 → x_H → Prop} {l1 : Option Value} {s0 : Int32} {c : x_S} {r : Int32} {s : x_S} (hF : F_G_message_31 s0 c = some (r, s)) (hQ : Q r (hpk s o)) : Ev E m_G_message 0 0 31 [some (.ref 0), l1] [.int s0] (hpk c o) Q := by
  unfold F_G_message_31 at hF
  refine Ev_istore_n (L' := [some (.ref 0), some (.int s0)]) d_G_message_31 (by decide) rfl ?_
  exact T_G_message_32 hF hQ
def F_G_message_23 (x1 : Int32) (c : x_S) : Option (Int32 × x_S) := if x1 = 0 then (x_bind (F_G_faultOfReceived c) (fun r2 c2 => F_G_message_31 r2 c2)) else (F_G_message_32 x1 c)
theorem T_G_message_23 {E : x_E} {o : x_S} {Q : Int32 → x_H → Prop} {x1 : Int32} {c : x_S} {r : Int32} {s : x_S} (hF : F_G_message_23 x1 c = some (r, s)) (hQ : Q r (hpk s o)) : Ev E m_G_message 0 0 23 [some (.ref 0), some (.int x1)] [] (hpk c o) Q := by
  unfold F_G_message_23 at hF
  refine Ev_iload_n d_G_message_23 rfl ?_
  refine Ev_if_ne (tgt := 32) d_G_message_24 rfl (fun h1 => ?_) (fun h1 => ?_)
  · rw [if_neg h1] at hF
    exact T_G_message_32 hF hQ
  · rw [if_pos h1] at hF
    refine Ev_aload_n d_G_message_27 rfl ?_
    obtain ⟨r2, c2, hC, hF⟩ := x_bind_some hF
    refine k_G_85 rfl d_G_message_28 ⟨by decide, by decide⟩ (Nat.le_of_ble_eq_true rfl) ?_
    exact C_G_faultOfReceived hC (T_G_message_31 hF hQ)
def F_G_message_15 (s0 : Int32) (c : x_S) : Option (Int32 × x_S) := x_bind (F_Bit_clear c) (fun _ c1 => F_G_message_23 s0 c1)
theorem T_G_message_15 {E : x_E} {o : x_S} {Q : Int32 → x_H → Prop} {l1 : Option Value} {s0 : Int32} {c : x_S} {r : Int32} {s : x_S} (hF : F_G_message_15 s0 c = some (r, s)) (hQ : Q r (hpk s o)) : Ev E m_G_message 0 0 15 [some (.ref 0), l1] [.int s0] (hpk c o) Q := by
  unfold F_G_message_15 at hF
  refine Ev_istore_n (L' := [some (.ref 0), some (.int s0)]) d_G_message_15 (by decide) rfl ?_
  refine Ev_aload_n d_G_message_16 rfl ?_
  refine g_G_26 rfl d_G_message_17 ?_
  obtain ⟨r1, c1, hC, hF⟩ := x_bind_some hF
  refine k_G_82 rfl d_G_message_20 ⟨by decide, by decide⟩ (Nat.le_of_ble_eq_true rfl) ?_
  exact C_Bit_clear hC (T_G_message_23 hF hQ)
def F_G_message (c : x_S) : Option (Int32 × x_S) := x_bind (F_Msg_readFrom (c 0 11) c) (fun r1 c1 => F_G_message_15 r1 c1)
theorem C_G_message {E : x_E} {o : x_S} {Q : Int32 → x_H → Prop} {c : x_S} {r : Int32} {s : x_S} (hF : F_G_message c = some (r, s)) (hQ : Q r (hpk s o)) : Call E m_G_message 0 0 [.ref 0] (hpk c o) Q := by
  refine Call_of (L := [some (.ref 0), none]) (by decide) (by intro v hv; simp only [List.mem_cons, List.not_mem_nil, or_false] at hv; rw [hv]; rfl) (Nat.le_of_ble_eq_true rfl) rfl ?_
  unfold F_G_message at hF
  refine Ev_aload_n d_G_message_0 rfl ?_
  refine g_G_33 rfl d_G_message_1 ?_
  refine Ev_aload_n d_G_message_4 rfl ?_
  refine g_G_26 rfl d_G_message_5 ?_
  refine Ev_aload_n d_G_message_8 rfl ?_
  refine g_G_55 rfl d_G_message_9 ?_
  obtain ⟨r1, c1, hC, hF⟩ := x_bind_some hF
  refine k_G_78 rfl d_G_message_12 ⟨by decide, by decide⟩ (Nat.le_of_ble_eq_true rfl) ?_
  exact C_Msg_readFrom hC (T_G_message_15 hF hQ)
def F_G_faultOfMarks_18 (c : x_S) : Option (Int32 × x_S) := some (0, c)
theorem T_G_faultOfMarks_18 {E : x_E} {o : x_S} {Q : Int32 → x_H → Prop} {l0 : Option Value} {c : x_S} {r : Int32} {s : x_S} (hF : F_G_faultOfMarks_18 c = some (r, s)) (hQ : Q r (hpk s o)) : Ev E m_G_faultOfMarks 0 0 18 [l0] [] (hpk c o) Q := by
  unfold F_G_faultOfMarks_18 at hF
  cases hF
  exact Ev_return d_G_faultOfMarks_18 rfl hQ
def F_G_faultOfMarks_11 (s0 : Int32) (c : x_S) : Option (Int32 × x_S) := if s0 = 0 then (F_G_faultOfMarks_18 c) else (x_bind (F_G_trip c) (fun _ c2 => F_G_faultOfMarks_18 c2))
theorem T_G_faultOfMarks_11 {E : x_E} {o : x_S} {Q : Int32 → x_H → Prop} {s0 : Int32} {c : x_S} {r : Int32} {s : x_S} (hF : F_G_faultOfMarks_11 s0 c = some (r, s)) (hQ : Q r (hpk s o)) : Ev E m_G_faultOfMarks 0 0 11 [some (.ref 0)] [.int s0] (hpk c o) Q := by
  unfold F_G_faultOfMarks_11 at hF
  refine Ev_if_eq (tgt := 18) d_G_faultOfMarks_11 rfl (fun h1 => ?_) (fun h1 => ?_)
  · rw [if_pos h1] at hF
    exact T_G_faultOfMarks_18 hF hQ
  · rw [if_neg h1] at hF
    refine Ev_aload_n d_G_faultOfMarks_14 rfl ?_
    obtain ⟨r2, c2, hC, hF⟩ := x_bind_some hF
    refine k_G_224 rfl d_G_faultOfMarks_15 ⟨by decide, by decide⟩ (Nat.le_of_ble_eq_true rfl) ?_
    exact C_G_trip hC (T_G_faultOfMarks_18 hF hQ)
def F_G_faultOfMarks_7 (c : x_S) : Option (Int32 × x_S) := x_bind (F_G_isGuided c) (fun r1 c1 => F_G_faultOfMarks_11 r1 c1)
theorem T_G_faultOfMarks_7 {E : x_E} {o : x_S} {Q : Int32 → x_H → Prop} {c : x_S} {r : Int32} {s : x_S} (hF : F_G_faultOfMarks_7 c = some (r, s)) (hQ : Q r (hpk s o)) : Ev E m_G_faultOfMarks 0 0 7 [some (.ref 0)] [] (hpk c o) Q := by
  unfold F_G_faultOfMarks_7 at hF
  refine Ev_aload_n d_G_faultOfMarks_7 rfl ?_
  obtain ⟨r1, c1, hC, hF⟩ := x_bind_some hF
  refine k_G_221 rfl d_G_faultOfMarks_8 ⟨by decide, by decide⟩ (Nat.le_of_ble_eq_true rfl) ?_
  exact C_G_isGuided hC (T_G_faultOfMarks_11 hF hQ)
def F_G_faultOfMarks (c : x_S) : Option (Int32 × x_S) := x_bind (F_G_write (6 : Int32) (0 : Int32) c) (fun _ c1 => F_G_faultOfMarks_7 c1)
theorem C_G_faultOfMarks {E : x_E} {o : x_S} {Q : Int32 → x_H → Prop} {c : x_S} {r : Int32} {s : x_S} (hF : F_G_faultOfMarks c = some (r, s)) (hQ : Q r (hpk s o)) : Call E m_G_faultOfMarks 0 0 [.ref 0] (hpk c o) Q := by
  refine Call_of (L := [some (.ref 0)]) (by decide) (by intro v hv; simp only [List.mem_cons, List.not_mem_nil, or_false] at hv; rw [hv]; rfl) (Nat.le_of_ble_eq_true rfl) rfl ?_
  unfold F_G_faultOfMarks at hF
  refine Ev_aload_n d_G_faultOfMarks_0 rfl ?_
  refine Ev_bipush (v := (6)) d_G_faultOfMarks_1 (by decide) ?_
  refine Ev_iconst (v := 0) d_G_faultOfMarks_3 (by decide) ?_
  obtain ⟨r1, c1, hC, hF⟩ := x_bind_some hF
  refine k_G_89 rfl d_G_faultOfMarks_4 ⟨by decide, by decide⟩ (Nat.le_of_ble_eq_true rfl) ?_
  exact C_G_write hC (T_G_faultOfMarks_7 hF hQ)
def F_G_mark_108 (c : x_S) : Option (Int32 × x_S) := some ((1 : Int32), c)
theorem T_G_mark_108 {E : x_E} {o : x_S} {Q : Int32 → x_H → Prop} {l0 : Option Value} {l1 : Option Value} {l2 : Option Value} {l3 : Option Value} {l4 : Option Value} {c : x_S} {r : Int32} {s : x_S} (hF : F_G_mark_108 c = some (r, s)) (hQ : Q r (hpk s o)) : Ev E m_G_mark 0 0 108 [l0, l1, l2, l3, l4] [] (hpk c o) Q := by
  unfold F_G_mark_108 at hF
  refine Ev_iconst (v := 1) d_G_mark_108 (by decide) ?_
  cases hF
  exact Ev_zreturn d_G_mark_109 rfl (Or.inr rfl) hQ
def F_G_mark_105 (s1 s2 : Int32) (c : x_S) : Option (Int32 × x_S) := x_bind (F_Frt_narrow s1 s2 c) (fun _ c1 => F_G_mark_108 c1)
theorem T_G_mark_105 {E : x_E} {o : x_S} {Q : Int32 → x_H → Prop} {l0 : Option Value} {l1 : Option Value} {l2 : Option Value} {l3 : Option Value} {l4 : Option Value} {s1 s2 : Int32} {c : x_S} {r : Int32} {s : x_S} (hF : F_G_mark_105 s1 s2 c = some (r, s)) (hQ : Q r (hpk s o)) : Ev E m_G_mark 0 0 105 [l0, l1, l2, l3, l4] [.int s2, .int s1, .ref 1] (hpk c o) Q := by
  unfold F_G_mark_105 at hF
  obtain ⟨r1, c1, hC, hF⟩ := x_bind_some hF
  refine k_G_134 rfl d_G_mark_105 ⟨by decide, by decide⟩ (Nat.le_of_ble_eq_true rfl) ?_
  exact C_Frt_narrow hC (T_G_mark_108 hF hQ)
def F_G_mark_100 (x3 s1 : Int32) (c : x_S) : Option (Int32 × x_S) := x_bind (F_Mrk_latest 17 x3 c) (fun r1 c1 => F_G_mark_105 s1 r1 c1)
theorem T_G_mark_100 {E : x_E} {o : x_S} {Q : Int32 → x_H → Prop} {l0 : Option Value} {l1 : Option Value} {l4 : Option Value} {x3 s1 : Int32} {c : x_S} {r : Int32} {s : x_S} (hF : F_G_mark_100 x3 s1 c = some (r, s)) (hQ : Q r (hpk s o)) : Ev E m_G_mark 0 0 100 [l0, l1, some (.ref 17), some (.int x3), l4] [.int s1, .ref 1] (hpk c o) Q := by
  unfold F_G_mark_100 at hF
  refine Ev_aload_n d_G_mark_100 rfl ?_
  refine Ev_iload_n d_G_mark_101 rfl ?_
  obtain ⟨r1, c1, hC, hF⟩ := x_bind_some hF
  refine k_G_124 (by simp [x_mark]) rfl d_G_mark_102 ⟨by decide, by decide⟩ (Nat.le_of_ble_eq_true rfl) ?_
  exact C_Mrk_latest (by simp [x_mark]) hC (T_G_mark_105 hF hQ)
def F_G_mark_88 (c : x_S) : Option (Int32 × x_S) := F_G_mark_108 c
theorem T_G_mark_88 {E : x_E} {o : x_S} {Q : Int32 → x_H → Prop} {l0 : Option Value} {l1 : Option Value} {l2 : Option Value} {l3 : Option Value} {l4 : Option Value} {c : x_S} {r : Int32} {s : x_S} (hF : F_G_mark_88 c = some (r, s)) (hQ : Q r (hpk s o)) : Ev E m_G_mark 0 0 88 [l0, l1, l2, l3, l4] [] (hpk c o) Q := by
  unfold F_G_mark_88 at hF
  refine Ev_goto (tgt := 108) d_G_mark_88 rfl ?_
  exact T_G_mark_108 hF hQ
def F_G_mark_79 (x3 x4 : Int32) (c : x_S) : Option (Int32 × x_S) := if x4 = 0 then (x_bind (F_Mrk_earliest 17 x3 c) (fun r2 c2 => F_G_mark_100 x3 r2 c2)) else (x_bind (F_G_faultOfMarks c) (fun _ c3 => F_G_mark_88 c3))
theorem T_G_mark_79 {E : x_E} {o : x_S} {Q : Int32 → x_H → Prop} {l1 : Option Value} {x3 x4 : Int32} {c : x_S} {r : Int32} {s : x_S} (hF : F_G_mark_79 x3 x4 c = some (r, s)) (hQ : Q r (hpk s o)) : Ev E m_G_mark 0 0 79 [some (.ref 0), l1, some (.ref 17), some (.int x3), some (.int x4)] [] (hpk c o) Q := by
  unfold F_G_mark_79 at hF
  refine Ev_iload d_G_mark_79 rfl ?_
  refine Ev_if_eq (tgt := 91) d_G_mark_81 rfl (fun h1 => ?_) (fun h1 => ?_)
  · rw [if_pos h1] at hF
    refine Ev_aload_n d_G_mark_91 rfl ?_
    refine g_G_10 rfl d_G_mark_92 ?_
    refine Ev_aload_n d_G_mark_95 rfl ?_
    refine Ev_iload_n d_G_mark_96 rfl ?_
    obtain ⟨r2, c2, hC, hF⟩ := x_bind_some hF
    refine k_G_118 (by simp [x_mark]) rfl d_G_mark_97 ⟨by decide, by decide⟩ (Nat.le_of_ble_eq_true rfl) ?_
    exact C_Mrk_earliest (by simp [x_mark]) hC (T_G_mark_100 hF hQ)
  · rw [if_neg h1] at hF
    refine Ev_aload_n d_G_mark_84 rfl ?_
    obtain ⟨r3, c3, hC, hF⟩ := x_bind_some hF
    refine k_G_131 rfl d_G_mark_85 ⟨by decide, by decide⟩ (Nat.le_of_ble_eq_true rfl) ?_
    exact C_G_faultOfMarks hC (T_G_mark_88 hF hQ)
def F_G_mark_70 (x1 x3 x4 : Int32) (c : x_S) : Option (Int32 × x_S) := x_bind (F_G_write (5 : Int32) (x1 - x1 / (100 : Int32) * (100 : Int32)) c) (fun _ c1 => F_G_mark_79 x3 x4 c1)
theorem T_G_mark_70 {E : x_E} {o : x_S} {Q : Int32 → x_H → Prop} {x1 x3 x4 : Int32} {c : x_S} {r : Int32} {s : x_S} (hF : F_G_mark_70 x1 x3 x4 c = some (r, s)) (hQ : Q r (hpk s o)) : Ev E m_G_mark 0 0 70 [some (.ref 0), some (.int x1), some (.ref 17), some (.int x3), some (.int x4)] [] (hpk c o) Q := by
  unfold F_G_mark_70 at hF
  refine Ev_aload_n d_G_mark_70 rfl ?_
  refine Ev_iconst (v := 5) d_G_mark_71 (by decide) ?_
  refine Ev_iload_n d_G_mark_72 rfl ?_
  refine Ev_bipush (v := (100)) d_G_mark_73 (by decide) ?_
  refine Ev_irem d_G_mark_75 (by decide) ?_
  obtain ⟨r1, c1, hC, hF⟩ := x_bind_some hF
  refine k_G_89 rfl d_G_mark_76 ⟨by decide, by decide⟩ (Nat.le_of_ble_eq_true rfl) ?_
  exact C_G_write hC (T_G_mark_79 hF hQ)
def F_G_mark_63 (x1 x3 s0 : Int32) (c : x_S) : Option (Int32 × x_S) := x_bind (F_Mrk_passUpTo 17 x3 c) (fun _ c1 => F_G_mark_70 x1 x3 s0 c1)
theorem T_G_mark_63 {E : x_E} {o : x_S} {Q : Int32 → x_H → Prop} {l4 : Option Value} {x1 x3 s0 : Int32} {c : x_S} {r : Int32} {s : x_S} (hF : F_G_mark_63 x1 x3 s0 c = some (r, s)) (hQ : Q r (hpk s o)) : Ev E m_G_mark 0 0 63 [some (.ref 0), some (.int x1), some (.ref 17), some (.int x3), l4] [.int s0] (hpk c o) Q := by
  unfold F_G_mark_63 at hF
  refine Ev_istore (L' := [some (.ref 0), some (.int x1), some (.ref 17), some (.int x3), some (.int s0)]) d_G_mark_63 (by decide) rfl ?_
  refine Ev_aload_n d_G_mark_65 rfl ?_
  refine Ev_iload_n d_G_mark_66 rfl ?_
  obtain ⟨r1, c1, hC, hF⟩ := x_bind_some hF
  refine k_G_127 (by simp [x_mark]) rfl d_G_mark_67 ⟨by decide, by decide⟩ (Nat.le_of_ble_eq_true rfl) ?_
  exact C_Mrk_passUpTo (by simp [x_mark]) hC (T_G_mark_70 hF hQ)
def F_G_mark_58 (x1 x3 : Int32) (c : x_S) : Option (Int32 × x_S) := F_G_mark_63 x1 x3 (1 : Int32) c
theorem T_G_mark_58 {E : x_E} {o : x_S} {Q : Int32 → x_H → Prop} {l4 : Option Value} {x1 x3 : Int32} {c : x_S} {r : Int32} {s : x_S} (hF : F_G_mark_58 x1 x3 c = some (r, s)) (hQ : Q r (hpk s o)) : Ev E m_G_mark 0 0 58 [some (.ref 0), some (.int x1), some (.ref 17), some (.int x3), l4] [] (hpk c o) Q := by
  unfold F_G_mark_58 at hF
  refine Ev_iconst (v := 1) d_G_mark_58 (by decide) ?_
  refine Ev_goto (tgt := 63) d_G_mark_59 rfl ?_
  exact T_G_mark_63 hF hQ
def F_G_mark_55 (x1 x3 s0 s1 : Int32) (c : x_S) : Option (Int32 × x_S) := if s0 ≤ s1 then (F_G_mark_63 x1 x3 (0 : Int32) c) else (F_G_mark_58 x1 x3 c)
theorem T_G_mark_55 {E : x_E} {o : x_S} {Q : Int32 → x_H → Prop} {l4 : Option Value} {x1 x3 s0 s1 : Int32} {c : x_S} {r : Int32} {s : x_S} (hF : F_G_mark_55 x1 x3 s0 s1 c = some (r, s)) (hQ : Q r (hpk s o)) : Ev E m_G_mark 0 0 55 [some (.ref 0), some (.int x1), some (.ref 17), some (.int x3), l4] [.int s1, .int s0] (hpk c o) Q := by
  unfold F_G_mark_55 at hF
  refine Ev_icmp_le (tgt := 62) d_G_mark_55 rfl (fun h1 => ?_) (fun h1 => ?_)
  · rw [if_pos h1] at hF
    refine Ev_iconst (v := 0) d_G_mark_62 (by decide) ?_
    exact T_G_mark_63 hF hQ
  · rw [if_neg h1] at hF
    exact T_G_mark_58 hF hQ
def F_G_mark_40 (x1 x3 s0 s1 : Int32) (c : x_S) : Option (Int32 × x_S) := if s0 < s1 then (F_G_mark_58 x1 x3 c) else (x_bind (F_Mrk_latest 17 x3 c) (fun r2 c2 => F_G_mark_55 x1 x3 (c 1 0) r2 c2))
theorem T_G_mark_40 {E : x_E} {o : x_S} {Q : Int32 → x_H → Prop} {l4 : Option Value} {x1 x3 s0 s1 : Int32} {c : x_S} {r : Int32} {s : x_S} (hF : F_G_mark_40 x1 x3 s0 s1 c = some (r, s)) (hQ : Q r (hpk s o)) : Ev E m_G_mark 0 0 40 [some (.ref 0), some (.int x1), some (.ref 17), some (.int x3), l4] [.int s1, .int s0] (hpk c o) Q := by
  unfold F_G_mark_40 at hF
  refine Ev_icmp_lt (tgt := 58) d_G_mark_40 rfl (fun h1 => ?_) (fun h1 => ?_)
  · rw [if_pos h1] at hF
    exact T_G_mark_58 hF hQ
  · rw [if_neg h1] at hF
    refine Ev_aload_n d_G_mark_43 rfl ?_
    refine g_G_10 rfl d_G_mark_44 ?_
    refine g_G_121 rfl d_G_mark_47 ?_
    refine Ev_aload_n d_G_mark_50 rfl ?_
    refine Ev_iload_n d_G_mark_51 rfl ?_
    obtain ⟨r2, c2, hC, hF⟩ := x_bind_some hF
    refine k_G_124 (by simp [x_mark]) rfl d_G_mark_52 ⟨by decide, by decide⟩ (Nat.le_of_ble_eq_true rfl) ?_
    exact C_Mrk_latest (by simp [x_mark]) hC (T_G_mark_55 hF hQ)
def F_G_mark_25 (x1 x3 s0 : Int32) (c : x_S) : Option (Int32 × x_S) := if s0 = 0 then (x_bind (F_Mrk_earliest 17 x3 c) (fun r2 c2 => F_G_mark_40 x1 x3 (c 1 1) r2 c2)) else (F_G_mark_58 x1 x3 c)
theorem T_G_mark_25 {E : x_E} {o : x_S} {Q : Int32 → x_H → Prop} {l4 : Option Value} {x1 x3 s0 : Int32} {c : x_S} {r : Int32} {s : x_S} (hF : F_G_mark_25 x1 x3 s0 c = some (r, s)) (hQ : Q r (hpk s o)) : Ev E m_G_mark 0 0 25 [some (.ref 0), some (.int x1), some (.ref 17), some (.int x3), l4] [.int s0] (hpk c o) Q := by
  unfold F_G_mark_25 at hF
  refine Ev_if_ne (tgt := 58) d_G_mark_25 rfl (fun h1 => ?_) (fun h1 => ?_)
  · rw [if_neg h1] at hF
    exact T_G_mark_58 hF hQ
  · rw [if_pos h1] at hF
    refine Ev_aload_n d_G_mark_28 rfl ?_
    refine g_G_10 rfl d_G_mark_29 ?_
    refine g_G_115 rfl d_G_mark_32 ?_
    refine Ev_aload_n d_G_mark_35 rfl ?_
    refine Ev_iload_n d_G_mark_36 rfl ?_
    obtain ⟨r2, c2, hC, hF⟩ := x_bind_some hF
    refine k_G_118 (by simp [x_mark]) rfl d_G_mark_37 ⟨by decide, by decide⟩ (Nat.le_of_ble_eq_true rfl) ?_
    exact C_Mrk_earliest (by simp [x_mark]) hC (T_G_mark_40 hF hQ)
def F_G_mark_13 (x1 s0 : Int32) (c : x_S) : Option (Int32 × x_S) := if 0 ≤ s0 then (x_bind (F_Mrk_anyOpenBefore 17 s0 c) (fun r2 c2 => F_G_mark_25 x1 s0 r2 c2)) else (some ((0 : Int32), c))
theorem T_G_mark_13 {E : x_E} {o : x_S} {Q : Int32 → x_H → Prop} {l3 : Option Value} {l4 : Option Value} {x1 s0 : Int32} {c : x_S} {r : Int32} {s : x_S} (hF : F_G_mark_13 x1 s0 c = some (r, s)) (hQ : Q r (hpk s o)) : Ev E m_G_mark 0 0 13 [some (.ref 0), some (.int x1), some (.ref 17), l3, l4] [.int s0] (hpk c o) Q := by
  unfold F_G_mark_13 at hF
  refine Ev_istore_n (L' := [some (.ref 0), some (.int x1), some (.ref 17), some (.int s0), l4]) d_G_mark_13 (by decide) rfl ?_
  refine Ev_iload_n d_G_mark_14 rfl ?_
  refine Ev_if_ge (tgt := 20) d_G_mark_15 rfl (fun h1 => ?_) (fun h1 => ?_)
  · rw [if_pos h1] at hF
    refine Ev_aload_n d_G_mark_20 rfl ?_
    refine Ev_iload_n d_G_mark_21 rfl ?_
    obtain ⟨r2, c2, hC, hF⟩ := x_bind_some hF
    refine k_G_111 (by simp [x_mark]) rfl d_G_mark_22 ⟨by decide, by decide⟩ (Nat.le_of_ble_eq_true rfl) ?_
    exact C_Mrk_anyOpenBefore (by simp [x_mark]) hC (T_G_mark_25 hF hQ)
  · rw [if_neg h1] at hF
    refine Ev_iconst (v := 0) d_G_mark_18 (by decide) ?_
    cases hF
    exact Ev_zreturn d_G_mark_19 rfl (Or.inl rfl) hQ
def F_G_mark (x1 : Int32) (c : x_S) : Option (Int32 × x_S) := x_bind (F_Mrk_firstOpen 17 x1 c) (fun r1 c1 => F_G_mark_13 x1 r1 c1)
theorem C_G_mark {E : x_E} {o : x_S} {Q : Int32 → x_H → Prop} {x1 : Int32} {c : x_S} {r : Int32} {s : x_S} (hF : F_G_mark x1 c = some (r, s)) (hQ : Q r (hpk s o)) : Call E m_G_mark 0 0 [.ref 0, .int x1] (hpk c o) Q := by
  refine Call_of (L := [some (.ref 0), some (.int x1), none, none, none]) (by decide) (by intro v hv; simp only [List.mem_cons, List.not_mem_nil, or_false] at hv; rcases hv with rfl | rfl <;> rfl) (Nat.le_of_ble_eq_true rfl) rfl ?_
  unfold F_G_mark at hF
  refine Ev_aload_n d_G_mark_0 rfl ?_
  refine g_G_19 rfl d_G_mark_1 ?_
  refine g_G_101 rfl d_G_mark_4 ?_
  refine Ev_astore_n (L' := [some (.ref 0), some (.int x1), some (.ref 17), none, none]) d_G_mark_7 (by decide) rfl ?_
  refine Ev_aload_n d_G_mark_8 rfl ?_
  refine Ev_iload_n d_G_mark_9 rfl ?_
  obtain ⟨r1, c1, hC, hF⟩ := x_bind_some hF
  refine k_G_105 (by simp [x_mark]) rfl d_G_mark_10 ⟨by decide, by decide⟩ (Nat.le_of_ble_eq_true rfl) ?_
  exact C_Mrk_firstOpen (by simp [x_mark]) hC (T_G_mark_13 hF hQ)
def F_G_lookForTrip_84 (c : x_S) : Option (Int32 × x_S) := some (0, c)
theorem T_G_lookForTrip_84 {E : x_E} {o : x_S} {Q : Int32 → x_H → Prop} {l0 : Option Value} {c : x_S} {r : Int32} {s : x_S} (hF : F_G_lookForTrip_84 c = some (r, s)) (hQ : Q r (hpk s o)) : Ev E m_G_lookForTrip 0 0 84 [l0] [] (hpk c o) Q := by
  unfold F_G_lookForTrip_84 at hF
  cases hF
  exact Ev_return d_G_lookForTrip_84 rfl hQ
def F_G_lookForTrip_55 (c : x_S) : Option (Int32 × x_S) := F_G_lookForTrip_84 c
theorem T_G_lookForTrip_55 {E : x_E} {o : x_S} {Q : Int32 → x_H → Prop} {l0 : Option Value} {c : x_S} {r : Int32} {s : x_S} (hF : F_G_lookForTrip_55 c = some (r, s)) (hQ : Q r (hpk s o)) : Ev E m_G_lookForTrip 0 0 55 [l0] [] (hpk c o) Q := by
  unfold F_G_lookForTrip_55 at hF
  refine Ev_goto (tgt := 84) d_G_lookForTrip_55 rfl ?_
  exact T_G_lookForTrip_84 hF hQ
def F_G_lookForTrip_31 (c : x_S) : Option (Int32 × x_S) := F_G_lookForTrip_84 c
theorem T_G_lookForTrip_31 {E : x_E} {o : x_S} {Q : Int32 → x_H → Prop} {l0 : Option Value} {c : x_S} {r : Int32} {s : x_S} (hF : F_G_lookForTrip_31 c = some (r, s)) (hQ : Q r (hpk s o)) : Ev E m_G_lookForTrip 0 0 31 [l0] [] (hpk c o) Q := by
  unfold F_G_lookForTrip_31 at hF
  refine Ev_goto (tgt := 84) d_G_lookForTrip_31 rfl ?_
  exact T_G_lookForTrip_84 hF hQ
def F_G_lookForTrip_24 (s0 : Int32) (c : x_S) : Option (Int32 × x_S) := if s0 = 0 then (if (c 1 0) ≤ (c 2 5) then (F_G_lookForTrip_84 c) else (x_bind (F_G_trip c) (fun _ c3 => F_G_lookForTrip_55 c3))) else (x_bind (F_G_faultOfMarks c) (fun _ c4 => F_G_lookForTrip_31 c4))
theorem T_G_lookForTrip_24 {E : x_E} {o : x_S} {Q : Int32 → x_H → Prop} {s0 : Int32} {c : x_S} {r : Int32} {s : x_S} (hF : F_G_lookForTrip_24 s0 c = some (r, s)) (hQ : Q r (hpk s o)) : Ev E m_G_lookForTrip 0 0 24 [some (.ref 0)] [.int s0] (hpk c o) Q := by
  unfold F_G_lookForTrip_24 at hF
  refine Ev_if_eq (tgt := 34) d_G_lookForTrip_24 rfl (fun h1 => ?_) (fun h1 => ?_)
  · rw [if_pos h1] at hF
    refine Ev_aload_n d_G_lookForTrip_34 rfl ?_
    refine g_G_10 rfl d_G_lookForTrip_35 ?_
    refine g_G_121 rfl d_G_lookForTrip_38 ?_
    refine Ev_aload_n d_G_lookForTrip_41 rfl ?_
    refine g_G_19 rfl d_G_lookForTrip_42 ?_
    refine g_G_184 rfl d_G_lookForTrip_45 ?_
    refine Ev_icmp_le (tgt := 84) d_G_lookForTrip_48 rfl (fun h2 => ?_) (fun h2 => ?_)
    · rw [if_pos h2] at hF
      exact T_G_lookForTrip_84 hF hQ
    · rw [if_neg h2] at hF
      refine Ev_aload_n d_G_lookForTrip_51 rfl ?_
      obtain ⟨r3, c3, hC, hF⟩ := x_bind_some hF
      refine k_G_224 rfl d_G_lookForTrip_52 ⟨by decide, by decide⟩ (Nat.le_of_ble_eq_true rfl) ?_
      exact C_G_trip hC (T_G_lookForTrip_55 hF hQ)
  · rw [if_neg h1] at hF
    refine Ev_aload_n d_G_lookForTrip_27 rfl ?_
    obtain ⟨r4, c4, hC, hF⟩ := x_bind_some hF
    refine k_G_131 rfl d_G_lookForTrip_28 ⟨by decide, by decide⟩ (Nat.le_of_ble_eq_true rfl) ?_
    exact C_G_faultOfMarks hC (T_G_lookForTrip_31 hF hQ)
def F_G_lookForTrip_4 (s0 : Int32) (c : x_S) : Option (Int32 × x_S) := if s0 = 0 then (if (c 0 8) = (1 : Int32) then (if (c 1 0) ≤ (c 0 9) then (F_G_lookForTrip_84 c) else (x_bind (F_G_trip c) (fun _ c4 => F_G_lookForTrip_84 c4))) else (F_G_lookForTrip_84 c)) else (x_bind (F_Mrk_passBehind 17 (c 1 0) c) (fun r5 c5 => F_G_lookForTrip_24 r5 c5))
theorem T_G_lookForTrip_4 {E : x_E} {o : x_S} {Q : Int32 → x_H → Prop} {s0 : Int32} {c : x_S} {r : Int32} {s : x_S} (hF : F_G_lookForTrip_4 s0 c = some (r, s)) (hQ : Q r (hpk s o)) : Ev E m_G_lookForTrip 0 0 4 [some (.ref 0)] [.int s0] (hpk c o) Q := by
  unfold F_G_lookForTrip_4 at hF
  refine Ev_if_eq (tgt := 58) d_G_lookForTrip_4 rfl (fun h1 => ?_) (fun h1 => ?_)
  · rw [if_pos h1] at hF
    refine Ev_aload_n d_G_lookForTrip_58 rfl ?_
    refine g_G_51 rfl d_G_lookForTrip_59 ?_
    refine Ev_iconst (v := 1) d_G_lookForTrip_62 (by decide) ?_
    refine Ev_icmp_ne (tgt := 84) d_G_lookForTrip_63 rfl (fun h2 => ?_) (fun h2 => ?_)
    · rw [if_neg h2] at hF
      exact T_G_lookForTrip_84 hF hQ
    · rw [if_pos h2] at hF
      refine Ev_aload_n d_G_lookForTrip_66 rfl ?_
      refine g_G_10 rfl d_G_lookForTrip_67 ?_
      refine g_G_121 rfl d_G_lookForTrip_70 ?_
      refine Ev_aload_n d_G_lookForTrip_73 rfl ?_
      refine g_G_230 rfl d_G_lookForTrip_74 ?_
      refine Ev_icmp_le (tgt := 84) d_G_lookForTrip_77 rfl (fun h3 => ?_) (fun h3 => ?_)
      · rw [if_pos h3] at hF
        exact T_G_lookForTrip_84 hF hQ
      · rw [if_neg h3] at hF
        refine Ev_aload_n d_G_lookForTrip_80 rfl ?_
        obtain ⟨r4, c4, hC, hF⟩ := x_bind_some hF
        refine k_G_224 rfl d_G_lookForTrip_81 ⟨by decide, by decide⟩ (Nat.le_of_ble_eq_true rfl) ?_
        exact C_G_trip hC (T_G_lookForTrip_84 hF hQ)
  · rw [if_neg h1] at hF
    refine Ev_aload_n d_G_lookForTrip_7 rfl ?_
    refine g_G_19 rfl d_G_lookForTrip_8 ?_
    refine g_G_101 rfl d_G_lookForTrip_11 ?_
    refine Ev_aload_n d_G_lookForTrip_14 rfl ?_
    refine g_G_10 rfl d_G_lookForTrip_15 ?_
    refine g_G_121 rfl d_G_lookForTrip_18 ?_
    obtain ⟨r5, c5, hC, hF⟩ := x_bind_some hF
    refine k_G_227 (by simp [x_mark]) rfl d_G_lookForTrip_21 ⟨by decide, by decide⟩ (Nat.le_of_ble_eq_true rfl) ?_
    exact C_Mrk_passBehind (by simp [x_mark]) hC (T_G_lookForTrip_24 hF hQ)
def F_G_lookForTrip (c : x_S) : Option (Int32 × x_S) := x_bind (F_G_isGuided c) (fun r1 c1 => F_G_lookForTrip_4 r1 c1)
theorem C_G_lookForTrip {E : x_E} {o : x_S} {Q : Int32 → x_H → Prop} {c : x_S} {r : Int32} {s : x_S} (hF : F_G_lookForTrip c = some (r, s)) (hQ : Q r (hpk s o)) : Call E m_G_lookForTrip 0 0 [.ref 0] (hpk c o) Q := by
  refine Call_of (L := [some (.ref 0)]) (by decide) (by intro v hv; simp only [List.mem_cons, List.not_mem_nil, or_false] at hv; rw [hv]; rfl) (Nat.le_of_ble_eq_true rfl) rfl ?_
  unfold F_G_lookForTrip at hF
  refine Ev_aload_n d_G_lookForTrip_0 rfl ?_
  obtain ⟨r1, c1, hC, hF⟩ := x_bind_some hF
  refine k_G_221 rfl d_G_lookForTrip_1 ⟨by decide, by decide⟩ (Nat.le_of_ble_eq_true rfl) ?_
  exact C_G_isGuided hC (T_G_lookForTrip_4 hF hQ)
def F_G_gradeNow_11 (s0 : Int32) (c : x_S) : Option (Int32 × x_S) := some (s0, c)
theorem T_G_gradeNow_11 {E : x_E} {o : x_S} {Q : Int32 → x_H → Prop} {l0 : Option Value} {s0 : Int32} {c : x_S} {r : Int32} {s : x_S} (hF : F_G_gradeNow_11 s0 c = some (r, s)) (hQ : Q r (hpk s o)) : Ev E m_G_gradeNow 0 0 11 [l0] [.int s0] (hpk c o) Q := by
  unfold F_G_gradeNow_11 at hF
  cases hF
  exact Ev_ireturn d_G_gradeNow_11 rfl hQ
def F_G_gradeNow (c : x_S) : Option (Int32 × x_S) := x_bind (F_G_gradeWithEnd (c 2 5) c) (fun r1 c1 => F_G_gradeNow_11 r1 c1)
theorem C_G_gradeNow {E : x_E} {o : x_S} {Q : Int32 → x_H → Prop} {c : x_S} {r : Int32} {s : x_S} (hF : F_G_gradeNow c = some (r, s)) (hQ : Q r (hpk s o)) : Call E m_G_gradeNow 0 0 [.ref 0] (hpk c o) Q := by
  refine Call_of (L := [some (.ref 0)]) (by decide) (by intro v hv; simp only [List.mem_cons, List.not_mem_nil, or_false] at hv; rw [hv]; rfl) (Nat.le_of_ble_eq_true rfl) rfl ?_
  unfold F_G_gradeNow at hF
  refine Ev_aload_n d_G_gradeNow_0 rfl ?_
  refine Ev_aload_n d_G_gradeNow_1 rfl ?_
  refine g_G_19 rfl d_G_gradeNow_2 ?_
  refine g_G_184 rfl d_G_gradeNow_5 ?_
  obtain ⟨r1, c1, hC, hF⟩ := x_bind_some hF
  refine k_G_253 rfl d_G_gradeNow_8 ⟨by decide, by decide⟩ (Nat.le_of_ble_eq_true rfl) ?_
  exact C_G_gradeWithEnd hC (T_G_gradeNow_11 hF hQ)
def F_G_cycle_125 (c : x_S) : Option (Int32 × x_S) := some ((c 39 2), c)
theorem T_G_cycle_125 {E : x_E} {o : x_S} {Q : Int32 → x_H → Prop} {l1 : Option Value} {l2 : Option Value} {c : x_S} {r : Int32} {s : x_S} (hF : F_G_cycle_125 c = some (r, s)) (hQ : Q r (hpk s o)) : Ev E m_G_cycle 0 0 125 [some (.ref 0), l1, l2] [] (hpk c o) Q := by
  unfold F_G_cycle_125 at hF
  refine Ev_aload_n d_G_cycle_125 rfl ?_
  refine g_G_40 rfl d_G_cycle_126 ?_
  refine g_G_163 rfl d_G_cycle_129 ?_
  cases hF
  exact Ev_ireturn d_G_cycle_132 rfl hQ
def F_G_cycle_110 (s0 : Int32) (c : x_S) : Option (Int32 × x_S) := if s0 = 0 then (F_G_cycle_125 c) else (x_bind (F_G_write (2 : Int32) (c 39 2) c) (fun _ c2 => F_G_cycle_125 c2))
theorem T_G_cycle_110 {E : x_E} {o : x_S} {Q : Int32 → x_H → Prop} {l1 : Option Value} {l2 : Option Value} {s0 : Int32} {c : x_S} {r : Int32} {s : x_S} (hF : F_G_cycle_110 s0 c = some (r, s)) (hQ : Q r (hpk s o)) : Ev E m_G_cycle 0 0 110 [some (.ref 0), l1, l2] [.int s0] (hpk c o) Q := by
  unfold F_G_cycle_110 at hF
  refine Ev_if_eq (tgt := 125) d_G_cycle_110 rfl (fun h1 => ?_) (fun h1 => ?_)
  · rw [if_pos h1] at hF
    exact T_G_cycle_125 hF hQ
  · rw [if_neg h1] at hF
    refine Ev_aload_n d_G_cycle_113 rfl ?_
    refine Ev_iconst (v := 2) d_G_cycle_114 (by decide) ?_
    refine Ev_aload_n d_G_cycle_115 rfl ?_
    refine g_G_40 rfl d_G_cycle_116 ?_
    refine g_G_163 rfl d_G_cycle_119 ?_
    obtain ⟨r2, c2, hC, hF⟩ := x_bind_some hF
    refine k_G_89 rfl d_G_cycle_122 ⟨by decide, by decide⟩ (Nat.le_of_ble_eq_true rfl) ?_
    exact C_G_write hC (T_G_cycle_125 hF hQ)
def F_G_cycle_106 (x2 s1 s2 : Int32) (c : x_S) : Option (Int32 × x_S) := x_bind (F_Brk_apply s1 s2 x2 c) (fun r1 c1 => F_G_cycle_110 r1 c1)
theorem T_G_cycle_106 {E : x_E} {o : x_S} {Q : Int32 → x_H → Prop} {l1 : Option Value} {x2 s1 s2 : Int32} {c : x_S} {r : Int32} {s : x_S} (hF : F_G_cycle_106 x2 s1 s2 c = some (r, s)) (hQ : Q r (hpk s o)) : Ev E m_G_cycle 0 0 106 [some (.ref 0), l1, some (.int x2)] [.int s2, .int s1, .ref 39] (hpk c o) Q := by
  unfold F_G_cycle_106 at hF
  refine Ev_iload_n d_G_cycle_106 rfl ?_
  obtain ⟨r1, c1, hC, hF⟩ := x_bind_some hF
  refine k_G_159 rfl d_G_cycle_107 ⟨by decide, by decide⟩ (Nat.le_of_ble_eq_true rfl) ?_
  exact C_Brk_apply hC (T_G_cycle_110 hF hQ)
def F_G_cycle_97 (x1 x2 s1 : Int32) (c : x_S) : Option (Int32 × x_S) := if x1 = 0 then (F_G_cycle_106 x2 s1 (1 : Int32) c) else (F_G_cycle_106 x2 s1 (0 : Int32) c)
theorem T_G_cycle_97 {E : x_E} {o : x_S} {Q : Int32 → x_H → Prop} {x1 x2 s1 : Int32} {c : x_S} {r : Int32} {s : x_S} (hF : F_G_cycle_97 x1 x2 s1 c = some (r, s)) (hQ : Q r (hpk s o)) : Ev E m_G_cycle 0 0 97 [some (.ref 0), some (.int x1), some (.int x2)] [.int s1, .ref 39] (hpk c o) Q := by
  unfold F_G_cycle_97 at hF
  refine Ev_iload_n d_G_cycle_97 rfl ?_
  refine Ev_if_ne (tgt := 105) d_G_cycle_98 rfl (fun h1 => ?_) (fun h1 => ?_)
  · rw [if_neg h1] at hF
    refine Ev_iconst (v := 0) d_G_cycle_105 (by decide) ?_
    exact T_G_cycle_106 hF hQ
  · rw [if_pos h1] at hF
    refine Ev_iconst (v := 1) d_G_cycle_101 (by decide) ?_
    refine Ev_goto (tgt := 106) d_G_cycle_102 rfl ?_
    exact T_G_cycle_106 hF hQ
def F_G_cycle_88 (x1 s0 : Int32) (c : x_S) : Option (Int32 × x_S) := x_bind (F_G_gradeNow c) (fun r1 c1 => F_G_cycle_97 x1 s0 r1 c1)
theorem T_G_cycle_88 {E : x_E} {o : x_S} {Q : Int32 → x_H → Prop} {l2 : Option Value} {x1 s0 : Int32} {c : x_S} {r : Int32} {s : x_S} (hF : F_G_cycle_88 x1 s0 c = some (r, s)) (hQ : Q r (hpk s o)) : Ev E m_G_cycle 0 0 88 [some (.ref 0), some (.int x1), l2] [.int s0] (hpk c o) Q := by
  unfold F_G_cycle_88 at hF
  refine Ev_istore_n (L' := [some (.ref 0), some (.int x1), some (.int s0)]) d_G_cycle_88 (by decide) rfl ?_
  refine Ev_aload_n d_G_cycle_89 rfl ?_
  refine g_G_40 rfl d_G_cycle_90 ?_
  refine Ev_aload_n d_G_cycle_93 rfl ?_
  obtain ⟨r1, c1, hC, hF⟩ := x_bind_some hF
  refine k_G_156 rfl d_G_cycle_94 ⟨by decide, by decide⟩ (Nat.le_of_ble_eq_true rfl) ?_
  exact C_G_gradeNow hC (T_G_cycle_97 hF hQ)
def F_G_cycle_87 (x1 : Int32) (c : x_S) : Option (Int32 × x_S) := F_G_cycle_88 x1 (0 : Int32) c
theorem T_G_cycle_87 {E : x_E} {o : x_S} {Q : Int32 → x_H → Prop} {l2 : Option Value} {x1 : Int32} {c : x_S} {r : Int32} {s : x_S} (hF : F_G_cycle_87 x1 c = some (r, s)) (hQ : Q r (hpk s o)) : Ev E m_G_cycle 0 0 87 [some (.ref 0), some (.int x1), l2] [] (hpk c o) Q := by
  unfold F_G_cycle_87 at hF
  refine Ev_iconst (v := 0) d_G_cycle_87 (by decide) ?_
  exact T_G_cycle_88 hF hQ
def F_G_cycle_68 (x1 : Int32) (c : x_S) : Option (Int32 × x_S) := if (c 0 12) = 0 then (F_G_cycle_87 x1 c) else (if (c 0 13) < (3 : Int32) then (F_G_cycle_87 x1 c) else (F_G_cycle_88 x1 (1 : Int32) c))
theorem T_G_cycle_68 {E : x_E} {o : x_S} {Q : Int32 → x_H → Prop} {l2 : Option Value} {x1 : Int32} {c : x_S} {r : Int32} {s : x_S} (hF : F_G_cycle_68 x1 c = some (r, s)) (hQ : Q r (hpk s o)) : Ev E m_G_cycle 0 0 68 [some (.ref 0), some (.int x1), l2] [] (hpk c o) Q := by
  unfold F_G_cycle_68 at hF
  refine Ev_aload_n d_G_cycle_68 rfl ?_
  refine g_G_149 rfl d_G_cycle_69 ?_
  refine Ev_if_eq (tgt := 87) d_G_cycle_72 rfl (fun h1 => ?_) (fun h1 => ?_)
  · rw [if_pos h1] at hF
    exact T_G_cycle_87 hF hQ
  · rw [if_neg h1] at hF
    refine Ev_aload_n d_G_cycle_75 rfl ?_
    refine g_G_153 rfl d_G_cycle_76 ?_
    refine Ev_iconst (v := 3) d_G_cycle_79 (by decide) ?_
    refine Ev_icmp_lt (tgt := 87) d_G_cycle_80 rfl (fun h2 => ?_) (fun h2 => ?_)
    · rw [if_pos h2] at hF
      exact T_G_cycle_87 hF hQ
    · rw [if_neg h2] at hF
      refine Ev_iconst (v := 1) d_G_cycle_83 (by decide) ?_
      refine Ev_goto (tgt := 88) d_G_cycle_84 rfl ?_
      exact T_G_cycle_88 hF hQ
def F_G_cycle_51 (x1 : Int32) (c : x_S) : Option (Int32 × x_S) := if (c 0 12) = 0 then (F_G_cycle_68 x1 c) else (F_G_cycle_68 x1 (x_up c 0 13 ((c 0 13) + (1 : Int32))))
theorem T_G_cycle_51 {E : x_E} {o : x_S} {Q : Int32 → x_H → Prop} {l2 : Option Value} {x1 : Int32} {c : x_S} {r : Int32} {s : x_S} (hF : F_G_cycle_51 x1 c = some (r, s)) (hQ : Q r (hpk s o)) : Ev E m_G_cycle 0 0 51 [some (.ref 0), some (.int x1), l2] [] (hpk c o) Q := by
  unfold F_G_cycle_51 at hF
  refine Ev_aload_n d_G_cycle_51 rfl ?_
  refine g_G_149 rfl d_G_cycle_52 ?_
  refine Ev_if_eq (tgt := 68) d_G_cycle_55 rfl (fun h1 => ?_) (fun h1 => ?_)
  · rw [if_pos h1] at hF
    exact T_G_cycle_68 hF hQ
  · rw [if_neg h1] at hF
    refine Ev_aload_n d_G_cycle_58 rfl ?_
    refine Ev_dup d_G_cycle_59 rfl ?_
    refine g_G_153 rfl d_G_cycle_60 ?_
    refine Ev_iconst (v := 1) d_G_cycle_63 (by decide) ?_
    refine Ev_iadd d_G_cycle_64 ?_
    refine q_G_153 rfl d_G_cycle_65 ?_
    exact T_G_cycle_68 hF hQ
def F_G_cycle_47 (x1 : Int32) (c : x_S) : Option (Int32 × x_S) := x_bind (F_G_lookForTrip c) (fun _ c1 => F_G_cycle_51 x1 c1)
theorem T_G_cycle_47 {E : x_E} {o : x_S} {Q : Int32 → x_H → Prop} {l2 : Option Value} {x1 : Int32} {c : x_S} {r : Int32} {s : x_S} (hF : F_G_cycle_47 x1 c = some (r, s)) (hQ : Q r (hpk s o)) : Ev E m_G_cycle 0 0 47 [some (.ref 0), some (.int x1), l2] [] (hpk c o) Q := by
  unfold F_G_cycle_47 at hF
  refine Ev_aload_n d_G_cycle_47 rfl ?_
  obtain ⟨r1, c1, hC, hF⟩ := x_bind_some hF
  refine k_G_146 rfl d_G_cycle_48 ⟨by decide, by decide⟩ (Nat.le_of_ble_eq_true rfl) ?_
  exact C_G_lookForTrip hC (T_G_cycle_51 hF hQ)
def F_G_cycle_36 (x1 : Int32) (c : x_S) : Option (Int32 × x_S) := F_G_cycle_51 x1 c
theorem T_G_cycle_36 {E : x_E} {o : x_S} {Q : Int32 → x_H → Prop} {l2 : Option Value} {x1 : Int32} {c : x_S} {r : Int32} {s : x_S} (hF : F_G_cycle_36 x1 c = some (r, s)) (hQ : Q r (hpk s o)) : Ev E m_G_cycle 0 0 36 [some (.ref 0), some (.int x1), l2] [] (hpk c o) Q := by
  unfold F_G_cycle_36 at hF
  refine Ev_goto (tgt := 51) d_G_cycle_36 rfl ?_
  exact T_G_cycle_51 hF hQ
def F_G_cycle_30 (x1 : Int32) (c : x_S) : Option (Int32 × x_S) := x_bind (F_G_become (6 : Int32) c) (fun _ c1 => F_G_cycle_36 x1 c1)
theorem T_G_cycle_30 {E : x_E} {o : x_S} {Q : Int32 → x_H → Prop} {l2 : Option Value} {x1 : Int32} {c : x_S} {r : Int32} {s : x_S} (hF : F_G_cycle_30 x1 c = some (r, s)) (hQ : Q r (hpk s o)) : Ev E m_G_cycle 0 0 30 [some (.ref 0), some (.int x1), l2] [] (hpk c o) Q := by
  unfold F_G_cycle_30 at hF
  refine Ev_aload_n d_G_cycle_30 rfl ?_
  refine Ev_bipush (v := (6)) d_G_cycle_31 (by decide) ?_
  obtain ⟨r1, c1, hC, hF⟩ := x_bind_some hF
  refine k_G_140 rfl d_G_cycle_33 ⟨by decide, by decide⟩ (Nat.le_of_ble_eq_true rfl) ?_
  exact C_G_become hC (T_G_cycle_36 hF hQ)
def F_G_cycle_10 (x1 : Int32) (c : x_S) : Option (Int32 × x_S) := if (c 0 8) = (6 : Int32) then (F_G_cycle_30 x1 c) else (if x1 < 0 then (F_G_cycle_30 x1 c) else (if x1 ≤ (500 : Int32) then (x_bind (F_Frt_advance x1 c) (fun _ c4 => F_G_cycle_47 x1 c4)) else (F_G_cycle_30 x1 c)))
theorem T_G_cycle_10 {E : x_E} {o : x_S} {Q : Int32 → x_H → Prop} {l2 : Option Value} {x1 : Int32} {c : x_S} {r : Int32} {s : x_S} (hF : F_G_cycle_10 x1 c = some (r, s)) (hQ : Q r (hpk s o)) : Ev E m_G_cycle 0 0 10 [some (.ref 0), some (.int x1), l2] [] (hpk c o) Q := by
  unfold F_G_cycle_10 at hF
  refine Ev_aload_n d_G_cycle_10 rfl ?_
  refine g_G_51 rfl d_G_cycle_11 ?_
  refine Ev_bipush (v := (6)) d_G_cycle_14 (by decide) ?_
  refine Ev_icmp_eq (tgt := 30) d_G_cycle_16 rfl (fun h1 => ?_) (fun h1 => ?_)
  · rw [if_pos h1] at hF
    exact T_G_cycle_30 hF hQ
  · rw [if_neg h1] at hF
    refine Ev_iload_n d_G_cycle_19 rfl ?_
    refine Ev_if_lt (tgt := 30) d_G_cycle_20 rfl (fun h2 => ?_) (fun h2 => ?_)
    · rw [if_pos h2] at hF
      exact T_G_cycle_30 hF hQ
    · rw [if_neg h2] at hF
      refine Ev_iload_n d_G_cycle_23 rfl ?_
      refine Ev_sipush (v := (500)) d_G_cycle_24 (by decide) ?_
      refine Ev_icmp_le (tgt := 39) d_G_cycle_27 rfl (fun h3 => ?_) (fun h3 => ?_)
      · rw [if_pos h3] at hF
        refine Ev_aload_n d_G_cycle_39 rfl ?_
        refine g_G_10 rfl d_G_cycle_40 ?_
        refine Ev_iload_n d_G_cycle_43 rfl ?_
        obtain ⟨r4, c4, hC, hF⟩ := x_bind_some hF
        refine k_G_143 rfl d_G_cycle_44 ⟨by decide, by decide⟩ (Nat.le_of_ble_eq_true rfl) ?_
        exact C_Frt_advance hC (T_G_cycle_47 hF hQ)
      · rw [if_neg h3] at hF
        exact T_G_cycle_30 hF hQ
def F_G_cycle (x1 : Int32) (c : x_S) : Option (Int32 × x_S) := F_G_cycle_10 x1 (x_up c 0 10 ((c 0 10) + (1 : Int32)))
theorem C_G_cycle {E : x_E} {o : x_S} {Q : Int32 → x_H → Prop} {x1 : Int32} {c : x_S} {r : Int32} {s : x_S} (hF : F_G_cycle x1 c = some (r, s)) (hQ : Q r (hpk s o)) : Call E m_G_cycle 0 0 [.ref 0, .int x1] (hpk c o) Q := by
  refine Call_of (L := [some (.ref 0), some (.int x1), none]) (by decide) (by intro v hv; simp only [List.mem_cons, List.not_mem_nil, or_false] at hv; rcases hv with rfl | rfl <;> rfl) (Nat.le_of_ble_eq_true rfl) rfl ?_
  unfold F_G_cycle at hF
  refine Ev_aload_n d_G_cycle_0 rfl ?_
  refine Ev_dup d_G_cycle_1 rfl ?_
  refine g_G_137 rfl d_G_cycle_2 ?_
  refine Ev_iconst (v := 1) d_G_cycle_5 (by decide) ?_
  refine Ev_iadd d_G_cycle_6 ?_
  refine q_G_137 rfl d_G_cycle_7 ?_
  exact T_G_cycle_10 hF hQ
def F_G_driverMay_87 (s0 : Int32) (c : x_S) : Option (Int32 × x_S) := x_b01 s0 (some (s0, c))
theorem T_G_driverMay_87 {E : x_E} {o : x_S} {Q : Int32 → x_H → Prop} {l0 : Option Value} {l1 : Option Value} {s0 : Int32} {c : x_S} {r : Int32} {s : x_S} (hF : F_G_driverMay_87 s0 c = some (r, s)) (hQ : Q r (hpk s o)) : Ev E m_G_driverMay 0 0 87 [l0, l1] [.int s0] (hpk c o) Q := by
  unfold F_G_driverMay_87 at hF
  obtain ⟨hb1, hF⟩ := x_b01_some hF
  cases hF
  exact Ev_zreturn d_G_driverMay_87 rfl hb1 hQ
def F_G_driverMay_86 (c : x_S) : Option (Int32 × x_S) := F_G_driverMay_87 (0 : Int32) c
theorem T_G_driverMay_86 {E : x_E} {o : x_S} {Q : Int32 → x_H → Prop} {l0 : Option Value} {l1 : Option Value} {c : x_S} {r : Int32} {s : x_S} (hF : F_G_driverMay_86 c = some (r, s)) (hQ : Q r (hpk s o)) : Ev E m_G_driverMay 0 0 86 [l0, l1] [] (hpk c o) Q := by
  unfold F_G_driverMay_86 at hF
  refine Ev_iconst (v := 0) d_G_driverMay_86 (by decide) ?_
  exact T_G_driverMay_87 hF hQ
def F_G_driverMay_58 (s0 : Int32) (c : x_S) : Option (Int32 × x_S) := x_b01 s0 (some (s0, c))
theorem T_G_driverMay_58 {E : x_E} {o : x_S} {Q : Int32 → x_H → Prop} {l0 : Option Value} {l1 : Option Value} {s0 : Int32} {c : x_S} {r : Int32} {s : x_S} (hF : F_G_driverMay_58 s0 c = some (r, s)) (hQ : Q r (hpk s o)) : Ev E m_G_driverMay 0 0 58 [l0, l1] [.int s0] (hpk c o) Q := by
  unfold F_G_driverMay_58 at hF
  obtain ⟨hb1, hF⟩ := x_b01_some hF
  cases hF
  exact Ev_zreturn d_G_driverMay_58 rfl hb1 hQ
def F_G_driverMay_57 (c : x_S) : Option (Int32 × x_S) := F_G_driverMay_58 (0 : Int32) c
theorem T_G_driverMay_57 {E : x_E} {o : x_S} {Q : Int32 → x_H → Prop} {l0 : Option Value} {l1 : Option Value} {c : x_S} {r : Int32} {s : x_S} (hF : F_G_driverMay_57 c = some (r, s)) (hQ : Q r (hpk s o)) : Ev E m_G_driverMay 0 0 57 [l0, l1] [] (hpk c o) Q := by
  unfold F_G_driverMay_57 at hF
  refine Ev_iconst (v := 0) d_G_driverMay_57 (by decide) ?_
  exact T_G_driverMay_58 hF hQ
def F_G_driverMay_43 (c : x_S) : Option (Int32 × x_S) := if (c 1 2) = 0 then (F_G_driverMay_58 (1 : Int32) c) else (F_G_driverMay_57 c)
theorem T_G_driverMay_43 {E : x_E} {o : x_S} {Q : Int32 → x_H → Prop} {l1 : Option Value} {c : x_S} {r : Int32} {s : x_S} (hF : F_G_driverMay_43 c = some (r, s)) (hQ : Q r (hpk s o)) : Ev E m_G_driverMay 0 0 43 [some (.ref 0), l1] [] (hpk c o) Q := by
  unfold F_G_driverMay_43 at hF
  refine Ev_aload_n d_G_driverMay_43 rfl ?_
  refine g_G_10 rfl d_G_driverMay_44 ?_
  refine g_G_172 rfl d_G_driverMay_47 ?_
  refine Ev_if_ne (tgt := 57) d_G_driverMay_50 rfl (fun h1 => ?_) (fun h1 => ?_)
  · rw [if_neg h1] at hF
    exact T_G_driverMay_57 hF hQ
  · rw [if_pos h1] at hF
    refine Ev_iconst (v := 1) d_G_driverMay_53 (by decide) ?_
    refine Ev_goto (tgt := 58) d_G_driverMay_54 rfl ?_
    exact T_G_driverMay_58 hF hQ
def F_G_driverMay (x1 : Int32) (c : x_S) : Option (Int32 × x_S) := if x1 = 0 then (if (c 0 8) = 0 then (F_G_driverMay_43 c) else (if (c 0 8) = (5 : Int32) then (F_G_driverMay_43 c) else (F_G_driverMay_57 c))) else (if x1 = 1 then (x_b01 (c 0 12) (some ((c 0 12), c))) else (if x1 = 2 then (if (c 0 8) = (4 : Int32) then (if (c 1 2) = 0 then (F_G_driverMay_87 (1 : Int32) c) else (F_G_driverMay_86 c)) else (F_G_driverMay_86 c)) else (some ((0 : Int32), c))))
theorem C_G_driverMay {E : x_E} {o : x_S} {Q : Int32 → x_H → Prop} {x1 : Int32} {c : x_S} {r : Int32} {s : x_S} (hF : F_G_driverMay x1 c = some (r, s)) (hQ : Q r (hpk s o)) : Call E m_G_driverMay 0 0 [.ref 0, .int x1] (hpk c o) Q := by
  refine Call_of (L := [some (.ref 0), some (.int x1)]) (by decide) (by intro v hv; simp only [List.mem_cons, List.not_mem_nil, or_false] at hv; rcases hv with rfl | rfl <;> rfl) (Nat.le_of_ble_eq_true rfl) rfl ?_
  unfold F_G_driverMay at hF
  refine Ev_iload_n d_G_driverMay_0 rfl ?_
  by_cases h1 : x1 = 0
  · rw [if_pos h1] at hF
    refine Ev_tableIn (off := 27) (tgt := 28) d_G_driverMay_1 (by rw [h1]; decide) (by rw [h1]; decide) (by rw [h1]; decide) rfl ?_
    refine Ev_aload_n d_G_driverMay_28 rfl ?_
    refine g_G_51 rfl d_G_driverMay_29 ?_
    refine Ev_if_eq (tgt := 43) d_G_driverMay_32 rfl (fun h2 => ?_) (fun h2 => ?_)
    · rw [if_pos h2] at hF
      exact T_G_driverMay_43 hF hQ
    · rw [if_neg h2] at hF
      refine Ev_aload_n d_G_driverMay_35 rfl ?_
      refine g_G_51 rfl d_G_driverMay_36 ?_
      refine Ev_iconst (v := 5) d_G_driverMay_39 (by decide) ?_
      refine Ev_icmp_ne (tgt := 57) d_G_driverMay_40 rfl (fun h3 => ?_) (fun h3 => ?_)
      · rw [if_neg h3] at hF
        exact T_G_driverMay_57 hF hQ
      · rw [if_pos h3] at hF
        exact T_G_driverMay_43 hF hQ
  · rw [if_neg h1] at hF
    by_cases h4 : x1 = 1
    · rw [if_pos h4] at hF
      refine Ev_tableIn (off := 58) (tgt := 59) d_G_driverMay_1 (by rw [h4]; decide) (by rw [h4]; decide) (by rw [h4]; decide) rfl ?_
      refine Ev_aload_n d_G_driverMay_59 rfl ?_
      refine g_G_149 rfl d_G_driverMay_60 ?_
      obtain ⟨hb5, hF⟩ := x_b01_some hF
      cases hF
      exact Ev_zreturn d_G_driverMay_63 rfl hb5 hQ
    · rw [if_neg h4] at hF
      by_cases h6 : x1 = 2
      · rw [if_pos h6] at hF
        refine Ev_tableIn (off := 63) (tgt := 64) d_G_driverMay_1 (by rw [h6]; decide) (by rw [h6]; decide) (by rw [h6]; decide) rfl ?_
        refine Ev_aload_n d_G_driverMay_64 rfl ?_
        refine g_G_51 rfl d_G_driverMay_65 ?_
        refine Ev_iconst (v := 4) d_G_driverMay_68 (by decide) ?_
        refine Ev_icmp_ne (tgt := 86) d_G_driverMay_69 rfl (fun h7 => ?_) (fun h7 => ?_)
        · rw [if_neg h7] at hF
          exact T_G_driverMay_86 hF hQ
        · rw [if_pos h7] at hF
          refine Ev_aload_n d_G_driverMay_72 rfl ?_
          refine g_G_10 rfl d_G_driverMay_73 ?_
          refine g_G_172 rfl d_G_driverMay_76 ?_
          refine Ev_if_ne (tgt := 86) d_G_driverMay_79 rfl (fun h8 => ?_) (fun h8 => ?_)
          · rw [if_neg h8] at hF
            exact T_G_driverMay_86 hF hQ
          · rw [if_pos h8] at hF
            refine Ev_iconst (v := 1) d_G_driverMay_82 (by decide) ?_
            refine Ev_goto (tgt := 87) d_G_driverMay_83 rfl ?_
            exact T_G_driverMay_87 hF hQ
      · rw [if_neg h6] at hF
        have eh1 := lv_neT h1 (show (0 : Int32).toInt = 0 by decide)
        have eh4 := lv_neT h4 (show (1 : Int32).toInt = 1 by decide)
        have eh6 := lv_neT h6 (show (2 : Int32).toInt = 2 by decide)
        refine Ev_tableOut (tgt := 88) d_G_driverMay_1 (by omega) rfl ?_
        refine Ev_iconst (v := 0) d_G_driverMay_88 (by decide) ?_
        cases hF
        exact Ev_zreturn d_G_driverMay_89 rfl (Or.inl rfl) hQ
def F_G_start_50 (c : x_S) : Option (Int32 × x_S) := some (0, c)
theorem T_G_start_50 {E : x_E} {o : x_S} {Q : Int32 → x_H → Prop} {l0 : Option Value} {c : x_S} {r : Int32} {s : x_S} (hF : F_G_start_50 c = some (r, s)) (hQ : Q r (hpk s o)) : Ev E m_G_start 0 0 50 [l0] [] (hpk c o) Q := by
  unfold F_G_start_50 at hF
  cases hF
  exact Ev_return d_G_start_50 rfl hQ
def F_G_start_35 (c : x_S) : Option (Int32 × x_S) := F_G_start_50 (x_up c 0 9 ((c 1 1) + (3000 : Int32)))
theorem T_G_start_35 {E : x_E} {o : x_S} {Q : Int32 → x_H → Prop} {c : x_S} {r : Int32} {s : x_S} (hF : F_G_start_35 c = some (r, s)) (hQ : Q r (hpk s o)) : Ev E m_G_start 0 0 35 [some (.ref 0)] [] (hpk c o) Q := by
  unfold F_G_start_35 at hF
  refine Ev_aload_n d_G_start_35 rfl ?_
  refine Ev_aload_n d_G_start_36 rfl ?_
  refine g_G_10 rfl d_G_start_37 ?_
  refine g_G_115 rfl d_G_start_40 ?_
  refine Ev_sipush (v := (3000)) d_G_start_43 (by decide) ?_
  refine Ev_iadd d_G_start_46 ?_
  refine q_G_230 rfl d_G_start_47 ?_
  exact T_G_start_50 hF hQ
def F_G_start_30 (c : x_S) : Option (Int32 × x_S) := x_bind (F_G_become (1 : Int32) c) (fun _ c1 => F_G_start_35 c1)
theorem T_G_start_30 {E : x_E} {o : x_S} {Q : Int32 → x_H → Prop} {c : x_S} {r : Int32} {s : x_S} (hF : F_G_start_30 c = some (r, s)) (hQ : Q r (hpk s o)) : Ev E m_G_start 0 0 30 [some (.ref 0)] [] (hpk c o) Q := by
  unfold F_G_start_30 at hF
  refine Ev_aload_n d_G_start_30 rfl ?_
  refine Ev_iconst (v := 1) d_G_start_31 (by decide) ?_
  obtain ⟨r1, c1, hC, hF⟩ := x_bind_some hF
  refine k_G_140 rfl d_G_start_32 ⟨by decide, by decide⟩ (Nat.le_of_ble_eq_true rfl) ?_
  exact C_G_become hC (T_G_start_35 hF hQ)
def F_G_start_27 (c : x_S) : Option (Int32 × x_S) := F_G_start_50 c
theorem T_G_start_27 {E : x_E} {o : x_S} {Q : Int32 → x_H → Prop} {l0 : Option Value} {c : x_S} {r : Int32} {s : x_S} (hF : F_G_start_27 c = some (r, s)) (hQ : Q r (hpk s o)) : Ev E m_G_start 0 0 27 [l0] [] (hpk c o) Q := by
  unfold F_G_start_27 at hF
  refine Ev_goto (tgt := 50) d_G_start_27 rfl ?_
  exact T_G_start_50 hF hQ
def F_G_start_20 (s0 : Int32) (c : x_S) : Option (Int32 × x_S) := if s0 = 0 then (x_bind (F_G_enterModeOfAuthority c) (fun _ c2 => F_G_start_27 c2)) else (F_G_start_30 c)
theorem T_G_start_20 {E : x_E} {o : x_S} {Q : Int32 → x_H → Prop} {s0 : Int32} {c : x_S} {r : Int32} {s : x_S} (hF : F_G_start_20 s0 c = some (r, s)) (hQ : Q r (hpk s o)) : Ev E m_G_start 0 0 20 [some (.ref 0)] [.int s0] (hpk c o) Q := by
  unfold F_G_start_20 at hF
  refine Ev_if_ne (tgt := 30) d_G_start_20 rfl (fun h1 => ?_) (fun h1 => ?_)
  · rw [if_neg h1] at hF
    exact T_G_start_30 hF hQ
  · rw [if_pos h1] at hF
    refine Ev_aload_n d_G_start_23 rfl ?_
    obtain ⟨r2, c2, hC, hF⟩ := x_bind_some hF
    refine k_G_245 rfl d_G_start_24 ⟨by decide, by decide⟩ (Nat.le_of_ble_eq_true rfl) ?_
    exact C_G_enterModeOfAuthority hC (T_G_start_27 hF hQ)
def F_G_start (c : x_S) : Option (Int32 × x_S) := if (c 2 4) = 0 then (F_G_start_30 c) else (x_bind (F_Spn_isEmpty 3 c) (fun r2 c2 => F_G_start_20 r2 c2))
theorem C_G_start {E : x_E} {o : x_S} {Q : Int32 → x_H → Prop} {c : x_S} {r : Int32} {s : x_S} (hF : F_G_start c = some (r, s)) (hQ : Q r (hpk s o)) : Call E m_G_start 0 0 [.ref 0] (hpk c o) Q := by
  refine Call_of (L := [some (.ref 0)]) (by decide) (by intro v hv; simp only [List.mem_cons, List.not_mem_nil, or_false] at hv; rw [hv]; rfl) (Nat.le_of_ble_eq_true rfl) rfl ?_
  unfold F_G_start at hF
  refine Ev_aload_n d_G_start_0 rfl ?_
  refine g_G_19 rfl d_G_start_1 ?_
  refine g_G_181 rfl d_G_start_4 ?_
  refine Ev_if_eq (tgt := 30) d_G_start_7 rfl (fun h1 => ?_) (fun h1 => ?_)
  · rw [if_pos h1] at hF
    exact T_G_start_30 hF hQ
  · rw [if_neg h1] at hF
    refine Ev_aload_n d_G_start_10 rfl ?_
    refine g_G_19 rfl d_G_start_11 ?_
    refine g_G_236 rfl d_G_start_14 ?_
    obtain ⟨r2, c2, hC, hF⟩ := x_bind_some hF
    refine k_G_240 (by simp [x_span]) rfl d_G_start_17 ⟨by decide, by decide⟩ (Nat.le_of_ble_eq_true rfl) ?_
    exact C_Spn_isEmpty (by simp [x_span]) hC (T_G_start_20 hF hQ)
def F_G_driver_46 (c : x_S) : Option (Int32 × x_S) := some ((1 : Int32), c)
theorem T_G_driver_46 {E : x_E} {o : x_S} {Q : Int32 → x_H → Prop} {l0 : Option Value} {l1 : Option Value} {c : x_S} {r : Int32} {s : x_S} (hF : F_G_driver_46 c = some (r, s)) (hQ : Q r (hpk s o)) : Ev E m_G_driver 0 0 46 [l0, l1] [] (hpk c o) Q := by
  unfold F_G_driver_46 at hF
  refine Ev_iconst (v := 1) d_G_driver_46 (by decide) ?_
  cases hF
  exact Ev_zreturn d_G_driver_47 rfl (Or.inr rfl) hQ
def F_G_driver_38 (c : x_S) : Option (Int32 × x_S) := F_G_driver_46 c
theorem T_G_driver_38 {E : x_E} {o : x_S} {Q : Int32 → x_H → Prop} {l0 : Option Value} {l1 : Option Value} {c : x_S} {r : Int32} {s : x_S} (hF : F_G_driver_38 c = some (r, s)) (hQ : Q r (hpk s o)) : Ev E m_G_driver 0 0 38 [l0, l1] [] (hpk c o) Q := by
  unfold F_G_driver_38 at hF
  refine Ev_goto (tgt := 46) d_G_driver_38 rfl ?_
  exact T_G_driver_46 hF hQ
def F_G_driver_25 (c : x_S) : Option (Int32 × x_S) := F_G_driver_46 c
theorem T_G_driver_25 {E : x_E} {o : x_S} {Q : Int32 → x_H → Prop} {l0 : Option Value} {l1 : Option Value} {c : x_S} {r : Int32} {s : x_S} (hF : F_G_driver_25 c = some (r, s)) (hQ : Q r (hpk s o)) : Ev E m_G_driver 0 0 25 [l0, l1] [] (hpk c o) Q := by
  unfold F_G_driver_25 at hF
  refine Ev_goto (tgt := 46) d_G_driver_25 rfl ?_
  exact T_G_driver_46 hF hQ
def F_G_driver_17 (x1 : Int32) (c : x_S) : Option (Int32 × x_S) := if x1 = 0 then (x_bind (F_G_start c) (fun _ c4 => F_G_driver_25 c4)) else (if x1 = (1 : Int32) then (F_G_driver_38 (x_up c 0 12 (0 : Int32))) else (x_bind (F_G_become (5 : Int32) c) (fun _ c3 => F_G_driver_46 c3)))
theorem T_G_driver_17 {E : x_E} {o : x_S} {Q : Int32 → x_H → Prop} {x1 : Int32} {c : x_S} {r : Int32} {s : x_S} (hF : F_G_driver_17 x1 c = some (r, s)) (hQ : Q r (hpk s o)) : Ev E m_G_driver 0 0 17 [some (.ref 0), some (.int x1)] [] (hpk c o) Q := by
  unfold F_G_driver_17 at hF
  refine Ev_iload_n d_G_driver_17 rfl ?_
  refine Ev_if_ne (tgt := 28) d_G_driver_18 rfl (fun h1 => ?_) (fun h1 => ?_)
  · rw [if_neg h1] at hF
    refine Ev_iload_n d_G_driver_28 rfl ?_
    refine Ev_iconst (v := 1) d_G_driver_29 (by decide) ?_
    refine Ev_icmp_ne (tgt := 41) d_G_driver_30 rfl (fun h2 => ?_) (fun h2 => ?_)
    · rw [if_neg h2] at hF
      refine Ev_aload_n d_G_driver_41 rfl ?_
      refine Ev_iconst (v := 5) d_G_driver_42 (by decide) ?_
      obtain ⟨r3, c3, hC, hF⟩ := x_bind_some hF
      refine k_G_140 rfl d_G_driver_43 ⟨by decide, by decide⟩ (Nat.le_of_ble_eq_true rfl) ?_
      exact C_G_become hC (T_G_driver_46 hF hQ)
    · rw [if_pos h2] at hF
      refine Ev_aload_n d_G_driver_33 rfl ?_
      refine Ev_iconst (v := 0) d_G_driver_34 (by decide) ?_
      refine q_G_149 rfl d_G_driver_35 (Or.inl rfl) ?_
      exact T_G_driver_38 hF hQ
  · rw [if_pos h1] at hF
    refine Ev_aload_n d_G_driver_21 rfl ?_
    obtain ⟨r4, c4, hC, hF⟩ := x_bind_some hF
    refine k_G_169 rfl d_G_driver_22 ⟨by decide, by decide⟩ (Nat.le_of_ble_eq_true rfl) ?_
    exact C_G_start hC (T_G_driver_25 hF hQ)
def F_G_driver_5 (x1 s0 : Int32) (c : x_S) : Option (Int32 × x_S) := if s0 = 0 then (some ((0 : Int32), c)) else (x_bind (F_G_write (7 : Int32) x1 c) (fun _ c2 => F_G_driver_17 x1 c2))
theorem T_G_driver_5 {E : x_E} {o : x_S} {Q : Int32 → x_H → Prop} {x1 s0 : Int32} {c : x_S} {r : Int32} {s : x_S} (hF : F_G_driver_5 x1 s0 c = some (r, s)) (hQ : Q r (hpk s o)) : Ev E m_G_driver 0 0 5 [some (.ref 0), some (.int x1)] [.int s0] (hpk c o) Q := by
  unfold F_G_driver_5 at hF
  refine Ev_if_ne (tgt := 10) d_G_driver_5 rfl (fun h1 => ?_) (fun h1 => ?_)
  · rw [if_neg h1] at hF
    refine Ev_aload_n d_G_driver_10 rfl ?_
    refine Ev_bipush (v := (7)) d_G_driver_11 (by decide) ?_
    refine Ev_iload_n d_G_driver_13 rfl ?_
    obtain ⟨r2, c2, hC, hF⟩ := x_bind_some hF
    refine k_G_89 rfl d_G_driver_14 ⟨by decide, by decide⟩ (Nat.le_of_ble_eq_true rfl) ?_
    exact C_G_write hC (T_G_driver_17 hF hQ)
  · rw [if_pos h1] at hF
    refine Ev_iconst (v := 0) d_G_driver_8 (by decide) ?_
    cases hF
    exact Ev_zreturn d_G_driver_9 rfl (Or.inl rfl) hQ
def F_G_driver (x1 : Int32) (c : x_S) : Option (Int32 × x_S) := x_bind (F_G_driverMay x1 c) (fun r1 c1 => F_G_driver_5 x1 r1 c1)
theorem C_G_driver {E : x_E} {o : x_S} {Q : Int32 → x_H → Prop} {x1 : Int32} {c : x_S} {r : Int32} {s : x_S} (hF : F_G_driver x1 c = some (r, s)) (hQ : Q r (hpk s o)) : Call E m_G_driver 0 0 [.ref 0, .int x1] (hpk c o) Q := by
  refine Call_of (L := [some (.ref 0), some (.int x1)]) (by decide) (by intro v hv; simp only [List.mem_cons, List.not_mem_nil, or_false] at hv; rcases hv with rfl | rfl <;> rfl) (Nat.le_of_ble_eq_true rfl) rfl ?_
  unfold F_G_driver at hF
  refine Ev_aload_n d_G_driver_0 rfl ?_
  refine Ev_iload_n d_G_driver_1 rfl ?_
  obtain ⟨r1, c1, hC, hF⟩ := x_bind_some hF
  refine k_G_166 rfl d_G_driver_2 ⟨by decide, by decide⟩ (Nat.le_of_ble_eq_true rfl) ?_
  exact C_G_driverMay hC (T_G_driver_5 hF hQ)
def F_G_mode (c : x_S) : Option (Int32 × x_S) := some ((c 0 8), c)
theorem C_G_mode {E : x_E} {o : x_S} {Q : Int32 → x_H → Prop} {c : x_S} {r : Int32} {s : x_S} (hF : F_G_mode c = some (r, s)) (hQ : Q r (hpk s o)) : Call E m_G_mode 0 0 [.ref 0] (hpk c o) Q := by
  refine Call_of (L := [some (.ref 0)]) (by decide) (by intro v hv; simp only [List.mem_cons, List.not_mem_nil, or_false] at hv; rw [hv]; rfl) (Nat.le_of_ble_eq_true rfl) rfl ?_
  unfold F_G_mode at hF
  refine Ev_aload_n d_G_mode_0 rfl ?_
  refine g_G_51 rfl d_G_mode_1 ?_
  cases hF
  exact Ev_ireturn d_G_mode_4 rfl hQ
def F_G_state_88 (s0 : Int32) (c : x_S) : Option (Int32 × x_S) := some (s0, c)
theorem T_G_state_88 {E : x_E} {o : x_S} {Q : Int32 → x_H → Prop} {l0 : Option Value} {l1 : Option Value} {s0 : Int32} {c : x_S} {r : Int32} {s : x_S} (hF : F_G_state_88 s0 c = some (r, s)) (hQ : Q r (hpk s o)) : Ev E m_G_state 0 0 88 [l0, l1] [.int s0] (hpk c o) Q := by
  unfold F_G_state_88 at hF
  cases hF
  exact Ev_ireturn d_G_state_88 rfl hQ
def F_G_state (x1 : Int32) (c : x_S) : Option (Int32 × x_S) := if x1 = 0 then (some ((c 1 0), c)) else (if x1 = 1 then (some ((c 1 1), c)) else (if x1 = 2 then (some ((c 1 2), c)) else (if x1 = 3 then (some ((c 39 2), c)) else (if x1 = 4 then (if (c 0 12) = 0 then (F_G_state_88 (0 : Int32) c) else (F_G_state_88 (1 : Int32) c)) else (if x1 = 5 then (some ((c 0 10), c)) else (if x1 = 6 then (some ((c 22 1), c)) else (some ((-1 : Int32), c))))))))
theorem C_G_state {E : x_E} {o : x_S} {Q : Int32 → x_H → Prop} {x1 : Int32} {c : x_S} {r : Int32} {s : x_S} (hF : F_G_state x1 c = some (r, s)) (hQ : Q r (hpk s o)) : Call E m_G_state 0 0 [.ref 0, .int x1] (hpk c o) Q := by
  refine Call_of (L := [some (.ref 0), some (.int x1)]) (by decide) (by intro v hv; simp only [List.mem_cons, List.not_mem_nil, or_false] at hv; rcases hv with rfl | rfl <;> rfl) (Nat.le_of_ble_eq_true rfl) rfl ?_
  unfold F_G_state at hF
  refine Ev_iload_n d_G_state_0 rfl ?_
  by_cases h1 : x1 = 0
  · rw [if_pos h1] at hF
    refine Ev_tableIn (off := 43) (tgt := 44) d_G_state_1 (by rw [h1]; decide) (by rw [h1]; decide) (by rw [h1]; decide) rfl ?_
    refine Ev_aload_n d_G_state_44 rfl ?_
    refine g_G_10 rfl d_G_state_45 ?_
    refine g_G_121 rfl d_G_state_48 ?_
    cases hF
    exact Ev_ireturn d_G_state_51 rfl hQ
  · rw [if_neg h1] at hF
    by_cases h2 : x1 = 1
    · rw [if_pos h2] at hF
      refine Ev_tableIn (off := 51) (tgt := 52) d_G_state_1 (by rw [h2]; decide) (by rw [h2]; decide) (by rw [h2]; decide) rfl ?_
      refine Ev_aload_n d_G_state_52 rfl ?_
      refine g_G_10 rfl d_G_state_53 ?_
      refine g_G_115 rfl d_G_state_56 ?_
      cases hF
      exact Ev_ireturn d_G_state_59 rfl hQ
    · rw [if_neg h2] at hF
      by_cases h3 : x1 = 2
      · rw [if_pos h3] at hF
        refine Ev_tableIn (off := 59) (tgt := 60) d_G_state_1 (by rw [h3]; decide) (by rw [h3]; decide) (by rw [h3]; decide) rfl ?_
        refine Ev_aload_n d_G_state_60 rfl ?_
        refine g_G_10 rfl d_G_state_61 ?_
        refine g_G_172 rfl d_G_state_64 ?_
        cases hF
        exact Ev_ireturn d_G_state_67 rfl hQ
      · rw [if_neg h3] at hF
        by_cases h4 : x1 = 3
        · rw [if_pos h4] at hF
          refine Ev_tableIn (off := 67) (tgt := 68) d_G_state_1 (by rw [h4]; decide) (by rw [h4]; decide) (by rw [h4]; decide) rfl ?_
          refine Ev_aload_n d_G_state_68 rfl ?_
          refine g_G_40 rfl d_G_state_69 ?_
          refine g_G_163 rfl d_G_state_72 ?_
          cases hF
          exact Ev_ireturn d_G_state_75 rfl hQ
        · rw [if_neg h4] at hF
          by_cases h5 : x1 = 4
          · rw [if_pos h5] at hF
            refine Ev_tableIn (off := 75) (tgt := 76) d_G_state_1 (by rw [h5]; decide) (by rw [h5]; decide) (by rw [h5]; decide) rfl ?_
            refine Ev_aload_n d_G_state_76 rfl ?_
            refine g_G_149 rfl d_G_state_77 ?_
            refine Ev_if_eq (tgt := 87) d_G_state_80 rfl (fun h6 => ?_) (fun h6 => ?_)
            · rw [if_pos h6] at hF
              refine Ev_iconst (v := 0) d_G_state_87 (by decide) ?_
              exact T_G_state_88 hF hQ
            · rw [if_neg h6] at hF
              refine Ev_iconst (v := 1) d_G_state_83 (by decide) ?_
              refine Ev_goto (tgt := 88) d_G_state_84 rfl ?_
              exact T_G_state_88 hF hQ
          · rw [if_neg h5] at hF
            by_cases h7 : x1 = 5
            · rw [if_pos h7] at hF
              refine Ev_tableIn (off := 88) (tgt := 89) d_G_state_1 (by rw [h7]; decide) (by rw [h7]; decide) (by rw [h7]; decide) rfl ?_
              refine Ev_aload_n d_G_state_89 rfl ?_
              refine g_G_137 rfl d_G_state_90 ?_
              cases hF
              exact Ev_ireturn d_G_state_93 rfl hQ
            · rw [if_neg h7] at hF
              by_cases h8 : x1 = 6
              · rw [if_pos h8] at hF
                refine Ev_tableIn (off := 93) (tgt := 94) d_G_state_1 (by rw [h8]; decide) (by rw [h8]; decide) (by rw [h8]; decide) rfl ?_
                refine Ev_aload_n d_G_state_94 rfl ?_
                refine g_G_26 rfl d_G_state_95 ?_
                refine g_G_175 rfl d_G_state_98 ?_
                cases hF
                exact Ev_ireturn d_G_state_101 rfl hQ
              · rw [if_neg h8] at hF
                have eh1 := lv_neT h1 (show (0 : Int32).toInt = 0 by decide)
                have eh2 := lv_neT h2 (show (1 : Int32).toInt = 1 by decide)
                have eh3 := lv_neT h3 (show (2 : Int32).toInt = 2 by decide)
                have eh4 := lv_neT h4 (show (3 : Int32).toInt = 3 by decide)
                have eh5 := lv_neT h5 (show (4 : Int32).toInt = 4 by decide)
                have eh7 := lv_neT h7 (show (5 : Int32).toInt = 5 by decide)
                have eh8 := lv_neT h8 (show (6 : Int32).toInt = 6 by decide)
                refine Ev_tableOut (tgt := 102) d_G_state_1 (by omega) rfl ?_
                refine Ev_iconst (v := (-1)) d_G_state_102 (by decide) ?_
                cases hF
                exact Ev_ireturn d_G_state_103 rfl hQ
