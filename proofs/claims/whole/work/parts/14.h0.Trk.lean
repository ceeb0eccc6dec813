/-! printed by wip/gen/gen4.py: TrainGuard$Track -/
def F_Trk_forget_26 (c : x_S) : Option (Int32 × x_S) := some (0, c)
theorem T_Trk_forget_26 {E : x_E} {o : x_S} {Q : Int32 → x_H → Prop} {l0 : Option Value} {c : x_S} {r : Int32} {s : x_S} (hF : F_Trk_forget_26 c = some (r, s)) (hQ : Q r (hpk s o)) : Ev E m_Trk_forget 0 0 26 [l0] [] (hpk c o) Q := by
  unfold F_Trk_forget_26 at hF
  cases hF
  exact Ev_return d_Trk_forget_26 rfl hQ
def F_Trk_forget_19 (c : x_S) : Option (Int32 × x_S) := x_bind (F_Mrk_clear 17 c) (fun _ c1 => F_Trk_forget_26 c1)
theorem T_Trk_forget_19 {E : x_E} {o : x_S} {Q : Int32 → x_H → Prop} {c : x_S} {r : Int32} {s : x_S} (hF : F_Trk_forget_19 c = some (r, s)) (hQ : Q r (hpk s o)) : Ev E m_Trk_forget 0 0 19 [some (.ref 2)] [] (hpk c o) Q := by
  unfold F_Trk_forget_19 at hF
  refine Ev_aload_n d_Trk_forget_19 rfl ?_
  refine g_Trk_31 rfl d_Trk_forget_20 ?_
  obtain ⟨r1, c1, hC, hF⟩ := x_bind_some hF
  refine k_Trk_46 (by simp [x_mark]) rfl d_Trk_forget_23 ⟨by decide, by decide⟩ (Nat.le_of_ble_eq_true rfl) ?_
  exact C_Mrk_clear (by simp [x_mark]) hC (T_Trk_forget_26 hF hQ)
def F_Trk_forget_12 (c : x_S) : Option (Int32 × x_S) := x_bind (F_Spn_clear 7 c) (fun _ c1 => F_Trk_forget_19 c1)
theorem T_Trk_forget_12 {E : x_E} {o : x_S} {Q : Int32 → x_H → Prop} {c : x_S} {r : Int32} {s : x_S} (hF : F_Trk_forget_12 c = some (r, s)) (hQ : Q r (hpk s o)) : Ev E m_Trk_forget 0 0 12 [some (.ref 2)] [] (hpk c o) Q := by
  unfold F_Trk_forget_12 at hF
  refine Ev_aload_n d_Trk_forget_12 rfl ?_
  refine g_Trk_18 rfl d_Trk_forget_13 ?_
  obtain ⟨r1, c1, hC, hF⟩ := x_bind_some hF
  refine k_Trk_43 (by simp [x_span]) rfl d_Trk_forget_16 ⟨by decide, by decide⟩ (Nat.le_of_ble_eq_true rfl) ?_
  exact C_Spn_clear (by simp [x_span]) hC (T_Trk_forget_19 hF hQ)
def F_Trk_forget_5 (c : x_S) : Option (Int32 × x_S) := x_bind (F_Spn_clear 3 c) (fun _ c1 => F_Trk_forget_12 c1)
theorem T_Trk_forget_5 {E : x_E} {o : x_S} {Q : Int32 → x_H → Prop} {c : x_S} {r : Int32} {s : x_S} (hF : F_Trk_forget_5 c = some (r, s)) (hQ : Q r (hpk s o)) : Ev E m_Trk_forget 0 0 5 [some (.ref 2)] [] (hpk c o) Q := by
  unfold F_Trk_forget_5 at hF
  refine Ev_aload_n d_Trk_forget_5 rfl ?_
  refine g_Trk_12 rfl d_Trk_forget_6 ?_
  obtain ⟨r1, c1, hC, hF⟩ := x_bind_some hF
  refine k_Trk_43 (by simp [x_span]) rfl d_Trk_forget_9 ⟨by decide, by decide⟩ (Nat.le_of_ble_eq_true rfl) ?_
  exact C_Spn_clear (by simp [x_span]) hC (T_Trk_forget_12 hF hQ)
def F_Trk_forget (c : x_S) : Option (Int32 × x_S) := F_Trk_forget_5 (x_up c 2 4 (0 : Int32))
theorem C_Trk_forget {E : x_E} {o : x_S} {Q : Int32 → x_H → Prop} {c : x_S} {r : Int32} {s : x_S} (hF : F_Trk_forget c = some (r, s)) (hQ : Q r (hpk s o)) : Call E m_Trk_forget 0 0 [.ref 2] (hpk c o) Q := by
  refine Call_of (L := [some (.ref 2)]) (by decide) (by intro v hv; simp only [List.mem_cons, List.not_mem_nil, or_false] at hv; rw [hv]; rfl) (Nat.le_of_ble_eq_true rfl) rfl ?_
  unfold F_Trk_forget at hF
  refine Ev_aload_n d_Trk_forget_0 rfl ?_
  refine Ev_iconst (v := 0) d_Trk_forget_1 (by decide) ?_
  refine q_Trk_39 rfl d_Trk_forget_2 (Or.inl rfl) ?_
  exact T_Trk_forget_5 hF hQ
def F_Trk_leastLimit_21 (s0 s1 : Int32) (c : x_S) : Option (Int32 × x_S) := some ((if s1 < s0 then s1 else s0), c)
theorem T_Trk_leastLimit_21 {E : x_E} {o : x_S} {Q : Int32 → x_H → Prop} {l0 : Option Value} {l1 : Option Value} {l2 : Option Value} {s0 s1 : Int32} {c : x_S} {r : Int32} {s : x_S} (hF : F_Trk_leastLimit_21 s0 s1 c = some (r, s)) (hQ : Q r (hpk s o)) : Ev E m_Trk_leastLimit 0 0 21 [l0, l1, l2] [.int s1, .int s0] (hpk c o) Q := by
  unfold F_Trk_leastLimit_21 at hF
  refine Ev_mmin xw_mTrk_54 d_Trk_leastLimit_21 (by decide) (by decide) (Nat.le_of_ble_eq_true rfl) ?_
  cases hF
  exact Ev_ireturn d_Trk_leastLimit_24 rfl hQ
def F_Trk_leastLimit_9 (x1 x2 s0 : Int32) (c : x_S) : Option (Int32 × x_S) := x_bind (F_Spn_least 13 x1 x2 c) (fun r1 c1 => F_Trk_leastLimit_21 s0 r1 c1)
theorem T_Trk_leastLimit_9 {E : x_E} {o : x_S} {Q : Int32 → x_H → Prop} {x1 x2 s0 : Int32} {c : x_S} {r : Int32} {s : x_S} (hF : F_Trk_leastLimit_9 x1 x2 s0 c = some (r, s)) (hQ : Q r (hpk s o)) : Ev E m_Trk_leastLimit 0 0 9 [some (.ref 2), some (.int x1), some (.int x2)] [.int s0] (hpk c o) Q := by
  unfold F_Trk_leastLimit_9 at hF
  refine Ev_aload_n d_Trk_leastLimit_9 rfl ?_
  refine g_Trk_24 rfl d_Trk_leastLimit_10 ?_
  refine g_Trk_51 rfl d_Trk_leastLimit_13 ?_
  refine Ev_iload_n d_Trk_leastLimit_16 rfl ?_
  refine Ev_iload_n d_Trk_leastLimit_17 rfl ?_
  obtain ⟨r1, c1, hC, hF⟩ := x_bind_some hF
  refine k_Trk_47 (by simp [x_span]) rfl d_Trk_leastLimit_18 ⟨by decide, by decide⟩ (Nat.le_of_ble_eq_true rfl) ?_
  exact C_Spn_least (by simp [x_span]) hC (T_Trk_leastLimit_21 hF hQ)
def F_Trk_leastLimit (x1 x2 : Int32) (c : x_S) : Option (Int32 × x_S) := x_bind (F_Spn_least 3 x1 x2 c) (fun r1 c1 => F_Trk_leastLimit_9 x1 x2 r1 c1)
theorem C_Trk_leastLimit {E : x_E} {o : x_S} {Q : Int32 → x_H → Prop} {x1 x2 : Int32} {c : x_S} {r : Int32} {s : x_S} (hF : F_Trk_leastLimit x1 x2 c = some (r, s)) (hQ : Q r (hpk s o)) : Call E m_Trk_leastLimit 0 0 [.ref 2, .int x1, .int x2] (hpk c o) Q := by
  refine Call_of (L := [some (.ref 2), some (.int x1), some (.int x2)]) (by decide) (by intro v hv; simp only [List.mem_cons, List.not_mem_nil, or_false] at hv; rcases hv with rfl | rfl | rfl <;> rfl) (Nat.le_of_ble_eq_true rfl) rfl ?_
  unfold F_Trk_leastLimit at hF
  refine Ev_aload_n d_Trk_leastLimit_0 rfl ?_
  refine g_Trk_12 rfl d_Trk_leastLimit_1 ?_
  refine Ev_iload_n d_Trk_leastLimit_4 rfl ?_
  refine Ev_iload_n d_Trk_leastLimit_5 rfl ?_
  obtain ⟨r1, c1, hC, hF⟩ := x_bind_some hF
  refine k_Trk_47 (by simp [x_span]) rfl d_Trk_leastLimit_6 ⟨by decide, by decide⟩ (Nat.le_of_ble_eq_true rfl) ?_
  exact C_Spn_least (by simp [x_span]) hC (T_Trk_leastLimit_9 hF hQ)
def F_Trk_put_159 (c : x_S) : Option (Int32 × x_S) := some (0, c)
theorem T_Trk_put_159 {E : x_E} {o : x_S} {Q : Int32 → x_H → Prop} {l0 : Option Value} {l1 : Option Value} {l2 : Option Value} {c : x_S} {r : Int32} {s : x_S} (hF : F_Trk_put_159 c = some (r, s)) (hQ : Q r (hpk s o)) : Ev E m_Trk_put 0 0 159 [l0, l1, l2] [] (hpk c o) Q := by
  unfold F_Trk_put_159 at hF
  cases hF
  exact Ev_return d_Trk_put_159 rfl hQ
def F_Trk_put_158 (s0 : Int32) (c : x_S) : Option (Int32 × x_S) := F_Trk_put_159 c
theorem T_Trk_put_158 {E : x_E} {o : x_S} {Q : Int32 → x_H → Prop} {l0 : Option Value} {l1 : Option Value} {l2 : Option Value} {s0 : Int32} {c : x_S} {r : Int32} {s : x_S} (hF : F_Trk_put_158 s0 c = some (r, s)) (hQ : Q r (hpk s o)) : Ev E m_Trk_put 0 0 158 [l0, l1, l2] [.int s0] (hpk c o) Q := by
  unfold F_Trk_put_158 at hF
  refine Ev_pop d_Trk_put_158 rfl ?_
  exact T_Trk_put_159 hF hQ
def F_Trk_put_150 (x2 : Int32) (c : x_S) : Option (Int32 × x_S) := x_bind (F_Mrk_passBehind 17 x2 c) (fun r1 c1 => F_Trk_put_158 r1 c1)
theorem T_Trk_put_150 {E : x_E} {o : x_S} {Q : Int32 → x_H → Prop} {l1 : Option Value} {x2 : Int32} {c : x_S} {r : Int32} {s : x_S} (hF : F_Trk_put_150 x2 c = some (r, s)) (hQ : Q r (hpk s o)) : Ev E m_Trk_put 0 0 150 [some (.ref 2), l1, some (.int x2)] [] (hpk c o) Q := by
  unfold F_Trk_put_150 at hF
  refine Ev_aload_n d_Trk_put_150 rfl ?_
  refine g_Trk_31 rfl d_Trk_put_151 ?_
  refine Ev_iload_n d_Trk_put_154 rfl ?_
  obtain ⟨r1, c1, hC, hF⟩ := x_bind_some hF
  refine k_Trk_107 (by simp [x_mark]) rfl d_Trk_put_155 ⟨by decide, by decide⟩ (Nat.le_of_ble_eq_true rfl) ?_
  exact C_Mrk_passBehind (by simp [x_mark]) hC (T_Trk_put_158 hF hQ)
def F_Trk_put_130 (x2 : Int32) (c : x_S) : Option (Int32 × x_S) := x_ix (0 : Int32) 6 (fun j1 => if (c 25 j1) = 0 then (F_Trk_put_159 c) else (x_bind (F_Mrk_copyFrom 17 26 c) (fun _ c3 => F_Trk_put_150 x2 c3)))
theorem T_Trk_put_130 {E : x_E} {o : x_S} {Q : Int32 → x_H → Prop} {x2 : Int32} {c : x_S} {r : Int32} {s : x_S} (hF : F_Trk_put_130 x2 c = some (r, s)) (hQ : Q r (hpk s o)) : Ev E m_Trk_put 0 0 130 [some (.ref 2), some (.ref 24), some (.int x2)] [] (hpk c o) Q := by
  unfold F_Trk_put_130 at hF
  refine Ev_aload_n d_Trk_put_130 rfl ?_
  refine g_Trk_59 rfl d_Trk_put_131 ?_
  refine Ev_iconst (v := 0) d_Trk_put_134 (by decide) ?_
  obtain ⟨j1, hij1, hjj1, hF⟩ := x_ix_some hF
  refine Ec_zald d_Trk_put_135 (P := 25) (by decide) rfl hij1 hjj1 ?_
  refine Ev_if_eq (tgt := 159) d_Trk_put_136 rfl (fun h2 => ?_) (fun h2 => ?_)
  · rw [if_pos h2] at hF
    exact T_Trk_put_159 hF hQ
  · rw [if_neg h2] at hF
    refine Ev_aload_n d_Trk_put_139 rfl ?_
    refine g_Trk_31 rfl d_Trk_put_140 ?_
    refine Ev_aload_n d_Trk_put_143 rfl ?_
    refine g_Trk_103 rfl d_Trk_put_144 ?_
    obtain ⟨r3, c3, hC, hF⟩ := x_bind_some hF
    refine k_Trk_104 (by simp [x_mark]) rfl d_Trk_put_147 ⟨by decide, by decide⟩ (Nat.le_of_ble_eq_true rfl) ?_
    exact C_Mrk_copyFrom (by simp [x_mark]) (by simp [x_mark]) hC (T_Trk_put_150 hF hQ)
def F_Trk_put_110 (x2 : Int32) (c : x_S) : Option (Int32 × x_S) := x_ix (2 : Int32) 6 (fun j1 => if (c 25 j1) = 0 then (F_Trk_put_130 x2 c) else (x_bind (F_Spn_copyFrom 7 31 c) (fun _ c3 => F_Trk_put_130 x2 c3)))
theorem T_Trk_put_110 {E : x_E} {o : x_S} {Q : Int32 → x_H → Prop} {x2 : Int32} {c : x_S} {r : Int32} {s : x_S} (hF : F_Trk_put_110 x2 c = some (r, s)) (hQ : Q r (hpk s o)) : Ev E m_Trk_put 0 0 110 [some (.ref 2), some (.ref 24), some (.int x2)] [] (hpk c o) Q := by
  unfold F_Trk_put_110 at hF
  refine Ev_aload_n d_Trk_put_110 rfl ?_
  refine g_Trk_59 rfl d_Trk_put_111 ?_
  refine Ev_iconst (v := 2) d_Trk_put_114 (by decide) ?_
  obtain ⟨j1, hij1, hjj1, hF⟩ := x_ix_some hF
  refine Ec_zald d_Trk_put_115 (P := 25) (by decide) rfl hij1 hjj1 ?_
  refine Ev_if_eq (tgt := 130) d_Trk_put_116 rfl (fun h2 => ?_) (fun h2 => ?_)
  · rw [if_pos h2] at hF
    exact T_Trk_put_130 hF hQ
  · rw [if_neg h2] at hF
    refine Ev_aload_n d_Trk_put_119 rfl ?_
    refine g_Trk_18 rfl d_Trk_put_120 ?_
    refine Ev_aload_n d_Trk_put_123 rfl ?_
    refine g_Trk_102 rfl d_Trk_put_124 ?_
    obtain ⟨r3, c3, hC, hF⟩ := x_bind_some hF
    refine k_Trk_98 (by simp [x_span]) rfl d_Trk_put_127 ⟨by decide, by decide⟩ (Nat.le_of_ble_eq_true rfl) ?_
    exact C_Spn_copyFrom (by simp [x_span]) (by simp [x_span]) hC (T_Trk_put_130 hF hQ)
def F_Trk_put_90 (x2 : Int32) (c : x_S) : Option (Int32 × x_S) := x_ix (3 : Int32) 6 (fun j1 => if (c 25 j1) = 0 then (F_Trk_put_110 x2 c) else (x_bind (F_Spn_copyFrom 3 35 c) (fun _ c3 => F_Trk_put_110 x2 c3)))
theorem T_Trk_put_90 {E : x_E} {o : x_S} {Q : Int32 → x_H → Prop} {x2 : Int32} {c : x_S} {r : Int32} {s : x_S} (hF : F_Trk_put_90 x2 c = some (r, s)) (hQ : Q r (hpk s o)) : Ev E m_Trk_put 0 0 90 [some (.ref 2), some (.ref 24), some (.int x2)] [] (hpk c o) Q := by
  unfold F_Trk_put_90 at hF
  refine Ev_aload_n d_Trk_put_90 rfl ?_
  refine g_Trk_59 rfl d_Trk_put_91 ?_
  refine Ev_iconst (v := 3) d_Trk_put_94 (by decide) ?_
  obtain ⟨j1, hij1, hjj1, hF⟩ := x_ix_some hF
  refine Ec_zald d_Trk_put_95 (P := 25) (by decide) rfl hij1 hjj1 ?_
  refine Ev_if_eq (tgt := 110) d_Trk_put_96 rfl (fun h2 => ?_) (fun h2 => ?_)
  · rw [if_pos h2] at hF
    exact T_Trk_put_110 hF hQ
  · rw [if_neg h2] at hF
    refine Ev_aload_n d_Trk_put_99 rfl ?_
    refine g_Trk_12 rfl d_Trk_put_100 ?_
    refine Ev_aload_n d_Trk_put_103 rfl ?_
    refine g_Trk_97 rfl d_Trk_put_104 ?_
    obtain ⟨r3, c3, hC, hF⟩ := x_bind_some hF
    refine k_Trk_98 (by simp [x_span]) rfl d_Trk_put_107 ⟨by decide, by decide⟩ (Nat.le_of_ble_eq_true rfl) ?_
    exact C_Spn_copyFrom (by simp [x_span]) (by simp [x_span]) hC (T_Trk_put_110 hF hQ)
def F_Trk_put_82 (x2 : Int32) (c : x_S) : Option (Int32 × x_S) := F_Trk_put_90 x2 (x_up c 2 7 (c 24 8))
theorem T_Trk_put_82 {E : x_E} {o : x_S} {Q : Int32 → x_H → Prop} {x2 : Int32} {c : x_S} {r : Int32} {s : x_S} (hF : F_Trk_put_82 x2 c = some (r, s)) (hQ : Q r (hpk s o)) : Ev E m_Trk_put 0 0 82 [some (.ref 2), some (.ref 24), some (.int x2)] [] (hpk c o) Q := by
  unfold F_Trk_put_82 at hF
  refine Ev_aload_n d_Trk_put_82 rfl ?_
  refine Ev_aload_n d_Trk_put_83 rfl ?_
  refine g_Trk_96 rfl d_Trk_put_84 ?_
  refine q_Trk_35 rfl d_Trk_put_87 ?_
  exact T_Trk_put_90 hF hQ
def F_Trk_put_74 (x2 : Int32) (c : x_S) : Option (Int32 × x_S) := F_Trk_put_82 x2 (x_up c 2 6 (c 24 7))
theorem T_Trk_put_74 {E : x_E} {o : x_S} {Q : Int32 → x_H → Prop} {x2 : Int32} {c : x_S} {r : Int32} {s : x_S} (hF : F_Trk_put_74 x2 c = some (r, s)) (hQ : Q r (hpk s o)) : Ev E m_Trk_put 0 0 74 [some (.ref 2), some (.ref 24), some (.int x2)] [] (hpk c o) Q := by
  unfold F_Trk_put_74 at hF
  refine Ev_aload_n d_Trk_put_74 rfl ?_
  refine Ev_aload_n d_Trk_put_75 rfl ?_
  refine g_Trk_92 rfl d_Trk_put_76 ?_
  refine q_Trk_95 rfl d_Trk_put_79 ?_
  exact T_Trk_put_82 hF hQ
def F_Trk_put_66 (x2 : Int32) (c : x_S) : Option (Int32 × x_S) := F_Trk_put_74 x2 (x_up c 2 5 (c 24 6))
theorem T_Trk_put_66 {E : x_E} {o : x_S} {Q : Int32 → x_H → Prop} {x2 : Int32} {c : x_S} {r : Int32} {s : x_S} (hF : F_Trk_put_66 x2 c = some (r, s)) (hQ : Q r (hpk s o)) : Ev E m_Trk_put 0 0 66 [some (.ref 2), some (.ref 24), some (.int x2)] [] (hpk c o) Q := by
  unfold F_Trk_put_66 at hF
  refine Ev_aload_n d_Trk_put_66 rfl ?_
  refine Ev_aload_n d_Trk_put_67 rfl ?_
  refine g_Trk_88 rfl d_Trk_put_68 ?_
  refine q_Trk_91 rfl d_Trk_put_71 ?_
  exact T_Trk_put_74 hF hQ
def F_Trk_put_52 (x2 : Int32) (c : x_S) : Option (Int32 × x_S) := x_ix (1 : Int32) 6 (fun j1 => if (c 25 j1) = 0 then (F_Trk_put_90 x2 c) else (F_Trk_put_66 x2 (x_up c 2 4 (1 : Int32))))
theorem T_Trk_put_52 {E : x_E} {o : x_S} {Q : Int32 → x_H → Prop} {x2 : Int32} {c : x_S} {r : Int32} {s : x_S} (hF : F_Trk_put_52 x2 c = some (r, s)) (hQ : Q r (hpk s o)) : Ev E m_Trk_put 0 0 52 [some (.ref 2), some (.ref 24), some (.int x2)] [] (hpk c o) Q := by
  unfold F_Trk_put_52 at hF
  refine Ev_aload_n d_Trk_put_52 rfl ?_
  refine g_Trk_59 rfl d_Trk_put_53 ?_
  refine Ev_iconst (v := 1) d_Trk_put_56 (by decide) ?_
  obtain ⟨j1, hij1, hjj1, hF⟩ := x_ix_some hF
  refine Ec_zald d_Trk_put_57 (P := 25) (by decide) rfl hij1 hjj1 ?_
  refine Ev_if_eq (tgt := 90) d_Trk_put_58 rfl (fun h2 => ?_) (fun h2 => ?_)
  · rw [if_pos h2] at hF
    exact T_Trk_put_90 hF hQ
  · rw [if_neg h2] at hF
    refine Ev_aload_n d_Trk_put_61 rfl ?_
    refine Ev_iconst (v := 1) d_Trk_put_62 (by decide) ?_
    refine q_Trk_39 rfl d_Trk_put_63 (Or.inr rfl) ?_
    exact T_Trk_put_66 hF hQ
def F_Trk_put_20 (x2 : Int32) (c : x_S) : Option (Int32 × x_S) := x_ix (4 : Int32) 6 (fun j1 => if (c 25 j1) = 0 then (F_Trk_put_52 x2 c) else (x_bind (F_Res_put (c 24 9) (c 24 10) (c 24 11) (c 24 12) c) (fun _ c3 => F_Trk_put_52 x2 c3)))
theorem T_Trk_put_20 {E : x_E} {o : x_S} {Q : Int32 → x_H → Prop} {x2 : Int32} {c : x_S} {r : Int32} {s : x_S} (hF : F_Trk_put_20 x2 c = some (r, s)) (hQ : Q r (hpk s o)) : Ev E m_Trk_put 0 0 20 [some (.ref 2), some (.ref 24), some (.int x2)] [] (hpk c o) Q := by
  unfold F_Trk_put_20 at hF
  refine Ev_aload_n d_Trk_put_20 rfl ?_
  refine g_Trk_59 rfl d_Trk_put_21 ?_
  refine Ev_iconst (v := 4) d_Trk_put_24 (by decide) ?_
  obtain ⟨j1, hij1, hjj1, hF⟩ := x_ix_some hF
  refine Ec_zald d_Trk_put_25 (P := 25) (by decide) rfl hij1 hjj1 ?_
  refine Ev_if_eq (tgt := 52) d_Trk_put_26 rfl (fun h2 => ?_) (fun h2 => ?_)
  · rw [if_pos h2] at hF
    exact T_Trk_put_52 hF hQ
  · rw [if_neg h2] at hF
    refine Ev_aload_n d_Trk_put_29 rfl ?_
    refine g_Trk_24 rfl d_Trk_put_30 ?_
    refine Ev_aload_n d_Trk_put_33 rfl ?_
    refine g_Trk_72 rfl d_Trk_put_34 ?_
    refine Ev_aload_n d_Trk_put_37 rfl ?_
    refine g_Trk_75 rfl d_Trk_put_38 ?_
    refine Ev_aload_n d_Trk_put_41 rfl ?_
    refine g_Trk_78 rfl d_Trk_put_42 ?_
    refine Ev_aload_n d_Trk_put_45 rfl ?_
    refine g_Trk_81 rfl d_Trk_put_46 ?_
    obtain ⟨r3, c3, hC, hF⟩ := x_bind_some hF
    refine k_Trk_84 rfl d_Trk_put_49 ⟨by decide, by decide⟩ (Nat.le_of_ble_eq_true rfl) ?_
    exact C_Res_put hC (T_Trk_put_52 hF hQ)
def F_Trk_put (x2 : Int32) (c : x_S) : Option (Int32 × x_S) := x_ix (5 : Int32) 6 (fun j1 => if (c 25 j1) = 0 then (F_Trk_put_20 x2 c) else (x_bind (F_Res_remove (c 24 13) c) (fun _ c3 => F_Trk_put_20 x2 c3)))
theorem C_Trk_put {E : x_E} {o : x_S} {Q : Int32 → x_H → Prop} {x2 : Int32} {c : x_S} {r : Int32} {s : x_S} (hF : F_Trk_put x2 c = some (r, s)) (hQ : Q r (hpk s o)) : Call E m_Trk_put 0 0 [.ref 2, .ref 24, .int x2] (hpk c o) Q := by
  refine Call_of (L := [some (.ref 2), some (.ref 24), some (.int x2)]) (by decide) (by intro v hv; simp only [List.mem_cons, List.not_mem_nil, or_false] at hv; rcases hv with rfl | rfl | rfl <;> rfl) (Nat.le_of_ble_eq_true rfl) rfl ?_
  unfold F_Trk_put at hF
  refine Ev_aload_n d_Trk_put_0 rfl ?_
  refine g_Trk_59 rfl d_Trk_put_1 ?_
  refine Ev_iconst (v := 5) d_Trk_put_4 (by decide) ?_
  obtain ⟨j1, hij1, hjj1, hF⟩ := x_ix_some hF
  refine Ec_zald d_Trk_put_5 (P := 25) (by decide) rfl hij1 hjj1 ?_
  refine Ev_if_eq (tgt := 20) d_Trk_put_6 rfl (fun h2 => ?_) (fun h2 => ?_)
  · rw [if_pos h2] at hF
    exact T_Trk_put_20 hF hQ
  · rw [if_neg h2] at hF
    refine Ev_aload_n d_Trk_put_9 rfl ?_
    refine g_Trk_24 rfl d_Trk_put_10 ?_
    refine Ev_aload_n d_Trk_put_13 rfl ?_
    refine g_Trk_65 rfl d_Trk_put_14 ?_
    obtain ⟨r3, c3, hC, hF⟩ := x_bind_some hF
    refine k_Trk_68 rfl d_Trk_put_17 ⟨by decide, by decide⟩ (Nat.le_of_ble_eq_true rfl) ?_
    exact C_Res_remove hC (T_Trk_put_20 hF hQ)
