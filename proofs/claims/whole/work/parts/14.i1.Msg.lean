/-! printed by wip/gen/gen4.py: TrainGuard$Message -/
def F_Msg_readPacket_129 (c : x_S) : Option (Int32 × x_S) := some (0, c)
theorem T_Msg_readPacket_129 {E : x_E} {o : x_S} {Q : Int32 → x_H → Prop} {l0 : Option Value} {l1 : Option Value} {l2 : Option Value} {l3 : Option Value} {l4 : Option Value} {c : x_S} {r : Int32} {s : x_S} (hF : F_Msg_readPacket_129 c = some (r, s)) (hQ : Q r (hpk s o)) : Ev E m_Msg_readPacket 0 0 129 [l0, l1, l2, l3, l4] [] (hpk c o) Q := by
  unfold F_Msg_readPacket_129 at hF
  cases hF
  exact Ev_return d_Msg_readPacket_129 rfl hQ
def F_Msg_readPacket_125 (s1 : Int32) (c : x_S) : Option (Int32 × x_S) := x_bind (F_Bit_need s1 (5 : Int32) c) (fun _ c1 => F_Msg_readPacket_129 c1)
theorem T_Msg_readPacket_125 {E : x_E} {o : x_S} {Q : Int32 → x_H → Prop} {l0 : Option Value} {l1 : Option Value} {l2 : Option Value} {l3 : Option Value} {l4 : Option Value} {s1 : Int32} {c : x_S} {r : Int32} {s : x_S} (hF : F_Msg_readPacket_125 s1 c = some (r, s)) (hQ : Q r (hpk s o)) : Ev E m_Msg_readPacket 0 0 125 [l0, l1, l2, l3, l4] [.int s1, .ref 22] (hpk c o) Q := by
  unfold F_Msg_readPacket_125 at hF
  refine Ev_iconst (v := 5) d_Msg_readPacket_125 (by decide) ?_
  obtain ⟨r1, c1, hC, hF⟩ := x_bind_some hF
  refine k_Msg_52 rfl d_Msg_readPacket_126 ⟨by decide, by decide⟩ (Nat.le_of_ble_eq_true rfl) ?_
  exact C_Bit_need hC (T_Msg_readPacket_129 hF hQ)
def F_Msg_readPacket_114 (x4 s1 s2 : Int32) (c : x_S) : Option (Int32 × x_S) := if (s1 - s2) = x4 then (F_Msg_readPacket_125 (1 : Int32) c) else (F_Msg_readPacket_125 (0 : Int32) c)
theorem T_Msg_readPacket_114 {E : x_E} {o : x_S} {Q : Int32 → x_H → Prop} {l0 : Option Value} {l1 : Option Value} {l2 : Option Value} {l3 : Option Value} {x4 s1 s2 : Int32} {c : x_S} {r : Int32} {s : x_S} (hF : F_Msg_readPacket_114 x4 s1 s2 c = some (r, s)) (hQ : Q r (hpk s o)) : Ev E m_Msg_readPacket 0 0 114 [l0, l1, l2, l3, some (.int x4)] [.int s2, .int s1, .ref 22] (hpk c o) Q := by
  unfold F_Msg_readPacket_114 at hF
  refine Ev_isub d_Msg_readPacket_114 ?_
  refine Ev_iload d_Msg_readPacket_115 rfl ?_
  refine Ev_icmp_ne (tgt := 124) d_Msg_readPacket_117 rfl (fun h1 => ?_) (fun h1 => ?_)
  · rw [if_neg h1] at hF
    refine Ev_iconst (v := 0) d_Msg_readPacket_124 (by decide) ?_
    exact T_Msg_readPacket_125 hF hQ
  · rw [if_pos h1] at hF
    refine Ev_iconst (v := 1) d_Msg_readPacket_120 (by decide) ?_
    refine Ev_goto (tgt := 125) d_Msg_readPacket_121 rfl ?_
    exact T_Msg_readPacket_125 hF hQ
def F_Msg_readPacket_108 (x2 x4 : Int32) (c : x_S) : Option (Int32 × x_S) := x_bind (F_Bit_left c) (fun r1 c1 => F_Msg_readPacket_114 x4 x2 r1 c1)
theorem T_Msg_readPacket_108 {E : x_E} {o : x_S} {Q : Int32 → x_H → Prop} {l0 : Option Value} {l3 : Option Value} {x2 x4 : Int32} {c : x_S} {r : Int32} {s : x_S} (hF : F_Msg_readPacket_108 x2 x4 c = some (r, s)) (hQ : Q r (hpk s o)) : Ev E m_Msg_readPacket 0 0 108 [l0, some (.ref 22), some (.int x2), l3, some (.int x4)] [] (hpk c o) Q := by
  unfold F_Msg_readPacket_108 at hF
  refine Ev_aload_n d_Msg_readPacket_108 rfl ?_
  refine Ev_iload_n d_Msg_readPacket_109 rfl ?_
  refine Ev_aload_n d_Msg_readPacket_110 rfl ?_
  obtain ⟨r1, c1, hC, hF⟩ := x_bind_some hF
  refine k_Msg_73 rfl d_Msg_readPacket_111 ⟨by decide, by decide⟩ (Nat.le_of_ble_eq_true rfl) ?_
  exact C_Bit_left hC (T_Msg_readPacket_114 hF hQ)
def F_Msg_readPacket_102 (x2 x3 x4 : Int32) (c : x_S) : Option (Int32 × x_S) := x_bind (F_Msg_readNumbers x3 c) (fun _ c1 => F_Msg_readPacket_108 x2 x4 c1)
theorem T_Msg_readPacket_102 {E : x_E} {o : x_S} {Q : Int32 → x_H → Prop} {x2 x3 x4 : Int32} {c : x_S} {r : Int32} {s : x_S} (hF : F_Msg_readPacket_102 x2 x3 x4 c = some (r, s)) (hQ : Q r (hpk s o)) : Ev E m_Msg_readPacket 0 0 102 [some (.ref 24), some (.ref 22), some (.int x2), some (.int x3), some (.int x4)] [] (hpk c o) Q := by
  unfold F_Msg_readPacket_102 at hF
  refine Ev_aload_n d_Msg_readPacket_102 rfl ?_
  refine Ev_aload_n d_Msg_readPacket_103 rfl ?_
  refine Ev_iload_n d_Msg_readPacket_104 rfl ?_
  obtain ⟨r1, c1, hC, hF⟩ := x_bind_some hF
  refine k_Msg_87 rfl d_Msg_readPacket_105 ⟨by decide, by decide⟩ (Nat.le_of_ble_eq_true rfl) ?_
  exact C_Msg_readNumbers hC (T_Msg_readPacket_108 hF hQ)
def F_Msg_readPacket_92 (x2 x3 x4 s0 : Int32) (c : x_S) : Option (Int32 × x_S) := if s0 = 0 then (F_Msg_readPacket_129 c) else (x_ix x3 6 (fun j2 => F_Msg_readPacket_102 x2 x3 x4 (x_up c 25 j2 (1 : Int32))))
theorem T_Msg_readPacket_92 {E : x_E} {o : x_S} {Q : Int32 → x_H → Prop} {x2 x3 x4 s0 : Int32} {c : x_S} {r : Int32} {s : x_S} (hF : F_Msg_readPacket_92 x2 x3 x4 s0 c = some (r, s)) (hQ : Q r (hpk s o)) : Ev E m_Msg_readPacket 0 0 92 [some (.ref 24), some (.ref 22), some (.int x2), some (.int x3), some (.int x4)] [.int s0] (hpk c o) Q := by
  unfold F_Msg_readPacket_92 at hF
  refine Ev_if_eq (tgt := 129) d_Msg_readPacket_92 rfl (fun h1 => ?_) (fun h1 => ?_)
  · rw [if_pos h1] at hF
    exact T_Msg_readPacket_129 hF hQ
  · rw [if_neg h1] at hF
    refine Ev_aload_n d_Msg_readPacket_95 rfl ?_
    refine g_Msg_15 rfl d_Msg_readPacket_96 ?_
    refine Ev_iload_n d_Msg_readPacket_99 rfl ?_
    refine Ev_iconst (v := 1) d_Msg_readPacket_100 (by decide) ?_
    obtain ⟨j2, hij2, hjj2, hF⟩ := x_ix_some hF
    refine Ec_zast d_Msg_readPacket_101 (P := 25) (by decide) rfl hij2 hjj2 (Or.inr rfl) ?_
    exact T_Msg_readPacket_102 hF hQ
def F_Msg_readPacket_84 (x2 x3 x4 : Int32) (c : x_S) : Option (Int32 × x_S) := if x3 < 0 then (F_Msg_readPacket_129 c) else (x_bind (F_Bit_isSound c) (fun r2 c2 => F_Msg_readPacket_92 x2 x3 x4 r2 c2))
theorem T_Msg_readPacket_84 {E : x_E} {o : x_S} {Q : Int32 → x_H → Prop} {x2 x3 x4 : Int32} {c : x_S} {r : Int32} {s : x_S} (hF : F_Msg_readPacket_84 x2 x3 x4 c = some (r, s)) (hQ : Q r (hpk s o)) : Ev E m_Msg_readPacket 0 0 84 [some (.ref 24), some (.ref 22), some (.int x2), some (.int x3), some (.int x4)] [] (hpk c o) Q := by
  unfold F_Msg_readPacket_84 at hF
  refine Ev_iload_n d_Msg_readPacket_84 rfl ?_
  refine Ev_if_lt (tgt := 129) d_Msg_readPacket_85 rfl (fun h1 => ?_) (fun h1 => ?_)
  · rw [if_pos h1] at hF
    exact T_Msg_readPacket_129 hF hQ
  · rw [if_neg h1] at hF
    refine Ev_aload_n d_Msg_readPacket_88 rfl ?_
    obtain ⟨r2, c2, hC, hF⟩ := x_bind_some hF
    refine k_Msg_69 rfl d_Msg_readPacket_89 ⟨by decide, by decide⟩ (Nat.le_of_ble_eq_true rfl) ?_
    exact C_Bit_isSound hC (T_Msg_readPacket_92 hF hQ)
def F_Msg_readPacket_80 (x2 x3 x4 s1 : Int32) (c : x_S) : Option (Int32 × x_S) := x_bind (F_Bit_need s1 (2 : Int32) c) (fun _ c1 => F_Msg_readPacket_84 x2 x3 x4 c1)
theorem T_Msg_readPacket_80 {E : x_E} {o : x_S} {Q : Int32 → x_H → Prop} {x2 x3 x4 s1 : Int32} {c : x_S} {r : Int32} {s : x_S} (hF : F_Msg_readPacket_80 x2 x3 x4 s1 c = some (r, s)) (hQ : Q r (hpk s o)) : Ev E m_Msg_readPacket 0 0 80 [some (.ref 24), some (.ref 22), some (.int x2), some (.int x3), some (.int x4)] [.int s1, .ref 22] (hpk c o) Q := by
  unfold F_Msg_readPacket_80 at hF
  refine Ev_iconst (v := 2) d_Msg_readPacket_80 (by decide) ?_
  obtain ⟨r1, c1, hC, hF⟩ := x_bind_some hF
  refine k_Msg_52 rfl d_Msg_readPacket_81 ⟨by decide, by decide⟩ (Nat.le_of_ble_eq_true rfl) ?_
  exact C_Bit_need hC (T_Msg_readPacket_84 hF hQ)
def F_Msg_readPacket_79 (x2 x3 x4 : Int32) (c : x_S) : Option (Int32 × x_S) := F_Msg_readPacket_80 x2 x3 x4 (0 : Int32) c
theorem T_Msg_readPacket_79 {E : x_E} {o : x_S} {Q : Int32 → x_H → Prop} {x2 x3 x4 : Int32} {c : x_S} {r : Int32} {s : x_S} (hF : F_Msg_readPacket_79 x2 x3 x4 c = some (r, s)) (hQ : Q r (hpk s o)) : Ev E m_Msg_readPacket 0 0 79 [some (.ref 24), some (.ref 22), some (.int x2), some (.int x3), some (.int x4)] [.ref 22] (hpk c o) Q := by
  unfold F_Msg_readPacket_79 at hF
  refine Ev_iconst (v := 0) d_Msg_readPacket_79 (by decide) ?_
  exact T_Msg_readPacket_80 hF hQ
def F_Msg_readPacket_59 (x2 x3 s0 : Int32) (c : x_S) : Option (Int32 × x_S) := if s0 < (21 : Int32) then (F_Msg_readPacket_79 x2 x3 s0 c) else (if x2 < s0 then (F_Msg_readPacket_79 x2 x3 s0 c) else (F_Msg_readPacket_80 x2 x3 s0 (1 : Int32) c))
theorem T_Msg_readPacket_59 {E : x_E} {o : x_S} {Q : Int32 → x_H → Prop} {l4 : Option Value} {x2 x3 s0 : Int32} {c : x_S} {r : Int32} {s : x_S} (hF : F_Msg_readPacket_59 x2 x3 s0 c = some (r, s)) (hQ : Q r (hpk s o)) : Ev E m_Msg_readPacket 0 0 59 [some (.ref 24), some (.ref 22), some (.int x2), some (.int x3), l4] [.int s0] (hpk c o) Q := by
  unfold F_Msg_readPacket_59 at hF
  refine Ev_istore (L' := [some (.ref 24), some (.ref 22), some (.int x2), some (.int x3), some (.int s0)]) d_Msg_readPacket_59 (by decide) rfl ?_
  refine Ev_aload_n d_Msg_readPacket_61 rfl ?_
  refine Ev_iload d_Msg_readPacket_62 rfl ?_
  refine Ev_bipush (v := (21)) d_Msg_readPacket_64 (by decide) ?_
  refine Ev_icmp_lt (tgt := 79) d_Msg_readPacket_66 rfl (fun h1 => ?_) (fun h1 => ?_)
  · rw [if_pos h1] at hF
    exact T_Msg_readPacket_79 hF hQ
  · rw [if_neg h1] at hF
    refine Ev_iload d_Msg_readPacket_69 rfl ?_
    refine Ev_iload_n d_Msg_readPacket_71 rfl ?_
    refine Ev_icmp_gt (tgt := 79) d_Msg_readPacket_72 rfl (fun h2 => ?_) (fun h2 => ?_)
    · rw [if_pos h2] at hF
      exact T_Msg_readPacket_79 hF hQ
    · rw [if_neg h2] at hF
      refine Ev_iconst (v := 1) d_Msg_readPacket_75 (by decide) ?_
      refine Ev_goto (tgt := 80) d_Msg_readPacket_76 rfl ?_
      exact T_Msg_readPacket_80 hF hQ
def F_Msg_readPacket_53 (x2 x3 : Int32) (c : x_S) : Option (Int32 × x_S) := x_bind (F_Bit_take (13 : Int32) c) (fun r1 c1 => F_Msg_readPacket_59 x2 x3 r1 c1)
theorem T_Msg_readPacket_53 {E : x_E} {o : x_S} {Q : Int32 → x_H → Prop} {l4 : Option Value} {x2 x3 : Int32} {c : x_S} {r : Int32} {s : x_S} (hF : F_Msg_readPacket_53 x2 x3 c = some (r, s)) (hQ : Q r (hpk s o)) : Ev E m_Msg_readPacket 0 0 53 [some (.ref 24), some (.ref 22), some (.int x2), some (.int x3), l4] [] (hpk c o) Q := by
  unfold F_Msg_readPacket_53 at hF
  refine Ev_aload_n d_Msg_readPacket_53 rfl ?_
  refine Ev_bipush (v := (13)) d_Msg_readPacket_54 (by decide) ?_
  obtain ⟨r1, c1, hC, hF⟩ := x_bind_some hF
  refine k_Msg_45 rfl d_Msg_readPacket_56 ⟨by decide, by decide⟩ (Nat.le_of_ble_eq_true rfl) ?_
  exact C_Bit_take hC (T_Msg_readPacket_59 hF hQ)
def F_Msg_readPacket_48 (x2 x3 s1 : Int32) (c : x_S) : Option (Int32 × x_S) := x_bind (F_Bit_need s1 (7 : Int32) c) (fun _ c1 => F_Msg_readPacket_53 x2 x3 c1)
theorem T_Msg_readPacket_48 {E : x_E} {o : x_S} {Q : Int32 → x_H → Prop} {l4 : Option Value} {x2 x3 s1 : Int32} {c : x_S} {r : Int32} {s : x_S} (hF : F_Msg_readPacket_48 x2 x3 s1 c = some (r, s)) (hQ : Q r (hpk s o)) : Ev E m_Msg_readPacket 0 0 48 [some (.ref 24), some (.ref 22), some (.int x2), some (.int x3), l4] [.int s1, .ref 22] (hpk c o) Q := by
  unfold F_Msg_readPacket_48 at hF
  refine Ev_bipush (v := (7)) d_Msg_readPacket_48 (by decide) ?_
  obtain ⟨r1, c1, hC, hF⟩ := x_bind_some hF
  refine k_Msg_52 rfl d_Msg_readPacket_50 ⟨by decide, by decide⟩ (Nat.le_of_ble_eq_true rfl) ?_
  exact C_Bit_need hC (T_Msg_readPacket_53 hF hQ)
def F_Msg_readPacket_43 (x2 x3 : Int32) (c : x_S) : Option (Int32 × x_S) := F_Msg_readPacket_48 x2 x3 (1 : Int32) c
theorem T_Msg_readPacket_43 {E : x_E} {o : x_S} {Q : Int32 → x_H → Prop} {l4 : Option Value} {x2 x3 : Int32} {c : x_S} {r : Int32} {s : x_S} (hF : F_Msg_readPacket_43 x2 x3 c = some (r, s)) (hQ : Q r (hpk s o)) : Ev E m_Msg_readPacket 0 0 43 [some (.ref 24), some (.ref 22), some (.int x2), some (.int x3), l4] [.ref 22] (hpk c o) Q := by
  unfold F_Msg_readPacket_43 at hF
  refine Ev_iconst (v := 1) d_Msg_readPacket_43 (by decide) ?_
  refine Ev_goto (tgt := 48) d_Msg_readPacket_44 rfl ?_
  exact T_Msg_readPacket_48 hF hQ
def F_Msg_readPacket_29 (x2 x3 : Int32) (c : x_S) : Option (Int32 × x_S) := if x3 < 0 then (F_Msg_readPacket_43 x2 x3 c) else (x_ix x3 6 (fun j2 => if (c 25 j2) = 0 then (F_Msg_readPacket_43 x2 x3 c) else (F_Msg_readPacket_48 x2 x3 (0 : Int32) c)))
theorem T_Msg_readPacket_29 {E : x_E} {o : x_S} {Q : Int32 → x_H → Prop} {l4 : Option Value} {x2 x3 : Int32} {c : x_S} {r : Int32} {s : x_S} (hF : F_Msg_readPacket_29 x2 x3 c = some (r, s)) (hQ : Q r (hpk s o)) : Ev E m_Msg_readPacket 0 0 29 [some (.ref 24), some (.ref 22), some (.int x2), some (.int x3), l4] [] (hpk c o) Q := by
  unfold F_Msg_readPacket_29 at hF
  refine Ev_aload_n d_Msg_readPacket_29 rfl ?_
  refine Ev_iload_n d_Msg_readPacket_30 rfl ?_
  refine Ev_if_lt (tgt := 43) d_Msg_readPacket_31 rfl (fun h1 => ?_) (fun h1 => ?_)
  · rw [if_pos h1] at hF
    exact T_Msg_readPacket_43 hF hQ
  · rw [if_neg h1] at hF
    refine Ev_aload_n d_Msg_readPacket_34 rfl ?_
    refine g_Msg_15 rfl d_Msg_readPacket_35 ?_
    refine Ev_iload_n d_Msg_readPacket_38 rfl ?_
    obtain ⟨j2, hij2, hjj2, hF⟩ := x_ix_some hF
    refine Ec_zald d_Msg_readPacket_39 (P := 25) (by decide) rfl hij2 hjj2 ?_
    refine Ev_if_ne (tgt := 47) d_Msg_readPacket_40 rfl (fun h3 => ?_) (fun h3 => ?_)
    · rw [if_neg h3] at hF
      refine Ev_iconst (v := 0) d_Msg_readPacket_47 (by decide) ?_
      exact T_Msg_readPacket_48 hF hQ
    · rw [if_pos h3] at hF
      exact T_Msg_readPacket_43 hF hQ
def F_Msg_readPacket_25 (x2 x3 s1 : Int32) (c : x_S) : Option (Int32 × x_S) := x_bind (F_Bit_need s1 (4 : Int32) c) (fun _ c1 => F_Msg_readPacket_29 x2 x3 c1)
theorem T_Msg_readPacket_25 {E : x_E} {o : x_S} {Q : Int32 → x_H → Prop} {l4 : Option Value} {x2 x3 s1 : Int32} {c : x_S} {r : Int32} {s : x_S} (hF : F_Msg_readPacket_25 x2 x3 s1 c = some (r, s)) (hQ : Q r (hpk s o)) : Ev E m_Msg_readPacket 0 0 25 [some (.ref 24), some (.ref 22), some (.int x2), some (.int x3), l4] [.int s1, .ref 22] (hpk c o) Q := by
  unfold F_Msg_readPacket_25 at hF
  refine Ev_iconst (v := 4) d_Msg_readPacket_25 (by decide) ?_
  obtain ⟨r1, c1, hC, hF⟩ := x_bind_some hF
  refine k_Msg_52 rfl d_Msg_readPacket_26 ⟨by decide, by decide⟩ (Nat.le_of_ble_eq_true rfl) ?_
  exact C_Bit_need hC (T_Msg_readPacket_29 hF hQ)
def F_Msg_readPacket_14 (x2 s0 : Int32) (c : x_S) : Option (Int32 × x_S) := if s0 < 0 then (F_Msg_readPacket_25 x2 s0 (0 : Int32) c) else (F_Msg_readPacket_25 x2 s0 (1 : Int32) c)
theorem T_Msg_readPacket_14 {E : x_E} {o : x_S} {Q : Int32 → x_H → Prop} {l3 : Option Value} {l4 : Option Value} {x2 s0 : Int32} {c : x_S} {r : Int32} {s : x_S} (hF : F_Msg_readPacket_14 x2 s0 c = some (r, s)) (hQ : Q r (hpk s o)) : Ev E m_Msg_readPacket 0 0 14 [some (.ref 24), some (.ref 22), some (.int x2), l3, l4] [.int s0] (hpk c o) Q := by
  unfold F_Msg_readPacket_14 at hF
  refine Ev_istore_n (L' := [some (.ref 24), some (.ref 22), some (.int x2), some (.int s0), l4]) d_Msg_readPacket_14 (by decide) rfl ?_
  refine Ev_aload_n d_Msg_readPacket_15 rfl ?_
  refine Ev_iload_n d_Msg_readPacket_16 rfl ?_
  refine Ev_if_lt (tgt := 24) d_Msg_readPacket_17 rfl (fun h1 => ?_) (fun h1 => ?_)
  · rw [if_pos h1] at hF
    refine Ev_iconst (v := 0) d_Msg_readPacket_24 (by decide) ?_
    exact T_Msg_readPacket_25 hF hQ
  · rw [if_neg h1] at hF
    refine Ev_iconst (v := 1) d_Msg_readPacket_20 (by decide) ?_
    refine Ev_goto (tgt := 25) d_Msg_readPacket_21 rfl ?_
    exact T_Msg_readPacket_25 hF hQ
def F_Msg_readPacket_11 (x2 s0 : Int32) (c : x_S) : Option (Int32 × x_S) := x_bind (F_Msg_slotOf s0 c) (fun r1 c1 => F_Msg_readPacket_14 x2 r1 c1)
theorem T_Msg_readPacket_11 {E : x_E} {o : x_S} {Q : Int32 → x_H → Prop} {l3 : Option Value} {l4 : Option Value} {x2 s0 : Int32} {c : x_S} {r : Int32} {s : x_S} (hF : F_Msg_readPacket_11 x2 s0 c = some (r, s)) (hQ : Q r (hpk s o)) : Ev E m_Msg_readPacket 0 0 11 [some (.ref 24), some (.ref 22), some (.int x2), l3, l4] [.int s0] (hpk c o) Q := by
  unfold F_Msg_readPacket_11 at hF
  obtain ⟨r1, c1, hC, hF⟩ := x_bind_some hF
  refine k_Msg_84 rfl d_Msg_readPacket_11 ⟨by decide, by decide⟩ (Nat.le_of_ble_eq_true rfl) ?_
  exact C_Msg_slotOf hC (T_Msg_readPacket_14 hF hQ)
def F_Msg_readPacket_4 (s0 : Int32) (c : x_S) : Option (Int32 × x_S) := x_bind (F_Bit_take (8 : Int32) c) (fun r1 c1 => F_Msg_readPacket_11 s0 r1 c1)
theorem T_Msg_readPacket_4 {E : x_E} {o : x_S} {Q : Int32 → x_H → Prop} {l2 : Option Value} {l3 : Option Value} {l4 : Option Value} {s0 : Int32} {c : x_S} {r : Int32} {s : x_S} (hF : F_Msg_readPacket_4 s0 c = some (r, s)) (hQ : Q r (hpk s o)) : Ev E m_Msg_readPacket 0 0 4 [some (.ref 24), some (.ref 22), l2, l3, l4] [.int s0] (hpk c o) Q := by
  unfold F_Msg_readPacket_4 at hF
  refine Ev_istore_n (L' := [some (.ref 24), some (.ref 22), some (.int s0), l3, l4]) d_Msg_readPacket_4 (by decide) rfl ?_
  refine Ev_aload_n d_Msg_readPacket_5 rfl ?_
  refine Ev_bipush (v := (8)) d_Msg_readPacket_6 (by decide) ?_
  obtain ⟨r1, c1, hC, hF⟩ := x_bind_some hF
  refine k_Msg_45 rfl d_Msg_readPacket_8 ⟨by decide, by decide⟩ (Nat.le_of_ble_eq_true rfl) ?_
  exact C_Bit_take hC (T_Msg_readPacket_11 hF hQ)
def F_Msg_readPacket (c : x_S) : Option (Int32 × x_S) := x_bind (F_Bit_left c) (fun r1 c1 => F_Msg_readPacket_4 r1 c1)
theorem C_Msg_readPacket {E : x_E} {o : x_S} {Q : Int32 → x_H → Prop} {c : x_S} {r : Int32} {s : x_S} (hF : F_Msg_readPacket c = some (r, s)) (hQ : Q r (hpk s o)) : Call E m_Msg_readPacket 0 0 [.ref 24, .ref 22] (hpk c o) Q := by
  refine Call_of (L := [some (.ref 24), some (.ref 22), none, none, none]) (by decide) (by intro v hv; simp only [List.mem_cons, List.not_mem_nil, or_false] at hv; rcases hv with rfl | rfl <;> rfl) (Nat.le_of_ble_eq_true rfl) rfl ?_
  unfold F_Msg_readPacket at hF
  refine Ev_aload_n d_Msg_readPacket_0 rfl ?_
  obtain ⟨r1, c1, hC, hF⟩ := x_bind_some hF
  refine k_Msg_73 rfl d_Msg_readPacket_1 ⟨by decide, by decide⟩ (Nat.le_of_ble_eq_true rfl) ?_
  exact C_Bit_left hC (T_Msg_readPacket_4 hF hQ)
def F_Msg_readFrom_231 (c : x_S) : Option (Int32 × x_S) := some ((c 22 3), c)
theorem T_Msg_readFrom_231 {E : x_E} {o : x_S} {Q : Int32 → x_H → Prop} {l0 : Option Value} {l2 : Option Value} {l3 : Option Value} {l4 : Option Value} {c : x_S} {r : Int32} {s : x_S} (hF : F_Msg_readFrom_231 c = some (r, s)) (hQ : Q r (hpk s o)) : Ev E m_Msg_readFrom 0 0 231 [l0, some (.ref 22), l2, l3, l4] [] (hpk c o) Q := by
  unfold F_Msg_readFrom_231 at hF
  refine Ev_aload_n d_Msg_readFrom_231 rfl ?_
  refine g_Msg_81 rfl d_Msg_readFrom_232 ?_
  cases hF
  exact Ev_ireturn d_Msg_readFrom_235 rfl hQ
def F_Msg_readFrom_227 (s1 : Int32) (c : x_S) : Option (Int32 × x_S) := x_bind (F_Bit_need s1 (2 : Int32) c) (fun _ c1 => F_Msg_readFrom_231 c1)
theorem T_Msg_readFrom_227 {E : x_E} {o : x_S} {Q : Int32 → x_H → Prop} {l0 : Option Value} {l2 : Option Value} {l3 : Option Value} {l4 : Option Value} {s1 : Int32} {c : x_S} {r : Int32} {s : x_S} (hF : F_Msg_readFrom_227 s1 c = some (r, s)) (hQ : Q r (hpk s o)) : Ev E m_Msg_readFrom 0 0 227 [l0, some (.ref 22), l2, l3, l4] [.int s1, .ref 22] (hpk c o) Q := by
  unfold F_Msg_readFrom_227 at hF
  refine Ev_iconst (v := 2) d_Msg_readFrom_227 (by decide) ?_
  obtain ⟨r1, c1, hC, hF⟩ := x_bind_some hF
  refine k_Msg_52 rfl d_Msg_readFrom_228 ⟨by decide, by decide⟩ (Nat.le_of_ble_eq_true rfl) ?_
  exact C_Bit_need hC (T_Msg_readFrom_231 hF hQ)
def F_Msg_readFrom_219 (s1 : Int32) (c : x_S) : Option (Int32 × x_S) := if s1 = 0 then (F_Msg_readFrom_227 (1 : Int32) c) else (F_Msg_readFrom_227 (0 : Int32) c)
theorem T_Msg_readFrom_219 {E : x_E} {o : x_S} {Q : Int32 → x_H → Prop} {l0 : Option Value} {l2 : Option Value} {l3 : Option Value} {l4 : Option Value} {s1 : Int32} {c : x_S} {r : Int32} {s : x_S} (hF : F_Msg_readFrom_219 s1 c = some (r, s)) (hQ : Q r (hpk s o)) : Ev E m_Msg_readFrom 0 0 219 [l0, some (.ref 22), l2, l3, l4] [.int s1, .ref 22] (hpk c o) Q := by
  unfold F_Msg_readFrom_219 at hF
  refine Ev_if_ne (tgt := 226) d_Msg_readFrom_219 rfl (fun h1 => ?_) (fun h1 => ?_)
  · rw [if_neg h1] at hF
    refine Ev_iconst (v := 0) d_Msg_readFrom_226 (by decide) ?_
    exact T_Msg_readFrom_227 hF hQ
  · rw [if_pos h1] at hF
    refine Ev_iconst (v := 1) d_Msg_readFrom_222 (by decide) ?_
    refine Ev_goto (tgt := 227) d_Msg_readFrom_223 rfl ?_
    exact T_Msg_readFrom_227 hF hQ
def F_Msg_readFrom_214 (c : x_S) : Option (Int32 × x_S) := x_bind (F_Bit_left c) (fun r1 c1 => F_Msg_readFrom_219 r1 c1)
theorem T_Msg_readFrom_214 {E : x_E} {o : x_S} {Q : Int32 → x_H → Prop} {l0 : Option Value} {l2 : Option Value} {l3 : Option Value} {l4 : Option Value} {c : x_S} {r : Int32} {s : x_S} (hF : F_Msg_readFrom_214 c = some (r, s)) (hQ : Q r (hpk s o)) : Ev E m_Msg_readFrom 0 0 214 [l0, some (.ref 22), l2, l3, l4] [] (hpk c o) Q := by
  unfold F_Msg_readFrom_214 at hF
  refine Ev_aload_n d_Msg_readFrom_214 rfl ?_
  refine Ev_aload_n d_Msg_readFrom_215 rfl ?_
  obtain ⟨r1, c1, hC, hF⟩ := x_bind_some hF
  refine k_Msg_73 rfl d_Msg_readFrom_216 ⟨by decide, by decide⟩ (Nat.le_of_ble_eq_true rfl) ?_
  exact C_Bit_left hC (T_Msg_readFrom_219 hF hQ)
def F_Msg_readFrom_208 (K : Int32 → Int32 → x_S → Option (Int32 × x_S)) (x3 x4 : Int32) (c : x_S) : Option (Int32 × x_S) := K x3 (x4 + (1 : Int32)) c
theorem T_Msg_readFrom_208 {E : x_E} {o : x_S} {Q : Int32 → x_H → Prop} {K : Int32 → Int32 → x_S → Option (Int32 × x_S)} (hK : ∀ {l2 : Option Value} {x3 x4 : Int32} {c : x_S} {r : Int32} {s : x_S}, K x3 x4 c = some (r, s) → Q r (hpk s o) → Ev E m_Msg_readFrom 0 0 177 [some (.ref 24), some (.ref 22), l2, some (.int x3), some (.int x4)] [] (hpk c o) Q) {l2 : Option Value} {x3 x4 : Int32} {c : x_S} {r : Int32} {s : x_S} (hF : F_Msg_readFrom_208 K x3 x4 c = some (r, s)) (hQ : Q r (hpk s o)) : Ev E m_Msg_readFrom 0 0 208 [some (.ref 24), some (.ref 22), l2, some (.int x3), some (.int x4)] [] (hpk c o) Q := by
  unfold F_Msg_readFrom_208 at hF
  refine Ev_iinc (v := (x4 + (1 : Int32))) (L' := [some (.ref 24), some (.ref 22), l2, some (.int x3), some (.int (x4 + (1 : Int32)))]) d_Msg_readFrom_208 rfl rfl (by decide) rfl ?_
  refine Ev_goto (tgt := 177) d_Msg_readFrom_211 rfl ?_
  exact hK hF hQ
def F_Msg_readFrom_200 (K : Int32 → Int32 → x_S → Option (Int32 × x_S)) (x3 x4 s0 : Int32) (c : x_S) : Option (Int32 × x_S) := if s0 ≤ 0 then (F_Msg_readFrom_214 c) else (x_bind (F_Msg_readPacket c) (fun _ c2 => F_Msg_readFrom_208 K x3 x4 c2))
theorem T_Msg_readFrom_200 {E : x_E} {o : x_S} {Q : Int32 → x_H → Prop} {K : Int32 → Int32 → x_S → Option (Int32 × x_S)} (hK : ∀ {l2 : Option Value} {x3 x4 : Int32} {c : x_S} {r : Int32} {s : x_S}, K x3 x4 c = some (r, s) → Q r (hpk s o) → Ev E m_Msg_readFrom 0 0 177 [some (.ref 24), some (.ref 22), l2, some (.int x3), some (.int x4)] [] (hpk c o) Q) {l2 : Option Value} {x3 x4 s0 : Int32} {c : x_S} {r : Int32} {s : x_S} (hF : F_Msg_readFrom_200 K x3 x4 s0 c = some (r, s)) (hQ : Q r (hpk s o)) : Ev E m_Msg_readFrom 0 0 200 [some (.ref 24), some (.ref 22), l2, some (.int x3), some (.int x4)] [.int s0] (hpk c o) Q := by
  unfold F_Msg_readFrom_200 at hF
  refine Ev_if_le (tgt := 214) d_Msg_readFrom_200 rfl (fun h1 => ?_) (fun h1 => ?_)
  · rw [if_pos h1] at hF
    exact T_Msg_readFrom_214 hF hQ
  · rw [if_neg h1] at hF
    refine Ev_aload_n d_Msg_readFrom_203 rfl ?_
    refine Ev_aload_n d_Msg_readFrom_204 rfl ?_
    obtain ⟨r2, c2, hC, hF⟩ := x_bind_some hF
    refine k_Msg_77 rfl d_Msg_readFrom_205 ⟨by decide, by decide⟩ (Nat.le_of_ble_eq_true rfl) ?_
    exact C_Msg_readPacket hC (T_Msg_readFrom_208 (fun h1 h2 => hK h1 h2) hF hQ)
def F_Msg_readFrom_193 (K : Int32 → Int32 → x_S → Option (Int32 × x_S)) (x3 x4 s0 : Int32) (c : x_S) : Option (Int32 × x_S) := if s0 = 0 then (F_Msg_readFrom_214 c) else (x_bind (F_Bit_left c) (fun r2 c2 => F_Msg_readFrom_200 K x3 x4 r2 c2))
theorem T_Msg_readFrom_193 {E : x_E} {o : x_S} {Q : Int32 → x_H → Prop} {K : Int32 → Int32 → x_S → Option (Int32 × x_S)} (hK : ∀ {l2 : Option Value} {x3 x4 : Int32} {c : x_S} {r : Int32} {s : x_S}, K x3 x4 c = some (r, s) → Q r (hpk s o) → Ev E m_Msg_readFrom 0 0 177 [some (.ref 24), some (.ref 22), l2, some (.int x3), some (.int x4)] [] (hpk c o) Q) {l2 : Option Value} {x3 x4 s0 : Int32} {c : x_S} {r : Int32} {s : x_S} (hF : F_Msg_readFrom_193 K x3 x4 s0 c = some (r, s)) (hQ : Q r (hpk s o)) : Ev E m_Msg_readFrom 0 0 193 [some (.ref 24), some (.ref 22), l2, some (.int x3), some (.int x4)] [.int s0] (hpk c o) Q := by
  unfold F_Msg_readFrom_193 at hF
  refine Ev_if_eq (tgt := 214) d_Msg_readFrom_193 rfl (fun h1 => ?_) (fun h1 => ?_)
  · rw [if_pos h1] at hF
    exact T_Msg_readFrom_214 hF hQ
  · rw [if_neg h1] at hF
    refine Ev_aload_n d_Msg_readFrom_196 rfl ?_
    obtain ⟨r2, c2, hC, hF⟩ := x_bind_some hF
    refine k_Msg_73 rfl d_Msg_readFrom_197 ⟨by decide, by decide⟩ (Nat.le_of_ble_eq_true rfl) ?_
    exact C_Bit_left hC (T_Msg_readFrom_200 (fun h1 h2 => hK h1 h2) hF hQ)
def F_Msg_readFrom_177 : Nat → Int32 → Int32 → x_S → Option (Int32 × x_S)
  | 0, _, _, _ => none
  | n + 1, x3, x4, c => if (600 : Int32) ≤ x4 then (F_Msg_readFrom_214 c) else (if x3 = 0 then (F_Msg_readFrom_214 c) else (x_bind (F_Bit_isSound c) (fun r3 c3 => F_Msg_readFrom_193 (F_Msg_readFrom_177 n) x3 x4 r3 c3)))
theorem T_Msg_readFrom_177 {E : x_E} {o : x_S} {Q : Int32 → x_H → Prop} : ∀ (n : Nat) {l2 : Option Value} {x3 x4 : Int32} {c : x_S} {r : Int32} {s : x_S}, F_Msg_readFrom_177 n x3 x4 c = some (r, s) → Q r (hpk s o) → Ev E m_Msg_readFrom 0 0 177 [some (.ref 24), some (.ref 22), l2, some (.int x3), some (.int x4)] [] (hpk c o) Q := by
  intro n
  induction n with
  | zero => intro l2 x3 x4 c r s hF; rw [F_Msg_readFrom_177] at hF; cases hF
  | succ n ih =>
    intro l2 x3 x4 c r s hF hQ
    rw [F_Msg_readFrom_177] at hF
    refine Ev_iload d_Msg_readFrom_177 rfl ?_
    refine Ev_sipush (v := (600)) d_Msg_readFrom_179 (by decide) ?_
    refine Ev_icmp_ge (tgt := 214) d_Msg_readFrom_182 rfl (fun h1 => ?_) (fun h1 => ?_)
    · rw [if_pos h1] at hF
      exact T_Msg_readFrom_214 hF hQ
    · rw [if_neg h1] at hF
      refine Ev_iload_n d_Msg_readFrom_185 rfl ?_
      refine Ev_if_eq (tgt := 214) d_Msg_readFrom_186 rfl (fun h2 => ?_) (fun h2 => ?_)
      · rw [if_pos h2] at hF
        exact T_Msg_readFrom_214 hF hQ
      · rw [if_neg h2] at hF
        refine Ev_aload_n d_Msg_readFrom_189 rfl ?_
        obtain ⟨r3, c3, hC, hF⟩ := x_bind_some hF
        refine k_Msg_69 rfl d_Msg_readFrom_190 ⟨by decide, by decide⟩ (Nat.le_of_ble_eq_true rfl) ?_
        exact C_Bit_isSound hC (T_Msg_readFrom_193 (fun h1 h2 => ih h1 h2) hF hQ)
def F_Msg_readFrom_173 (s0 : Int32) (c : x_S) : Option (Int32 × x_S) := F_Msg_readFrom_177 x_fuel s0 (0 : Int32) c
theorem T_Msg_readFrom_173 {E : x_E} {o : x_S} {Q : Int32 → x_H → Prop} {l2 : Option Value} {l3 : Option Value} {l4 : Option Value} {s0 : Int32} {c : x_S} {r : Int32} {s : x_S} (hF : F_Msg_readFrom_173 s0 c = some (r, s)) (hQ : Q r (hpk s o)) : Ev E m_Msg_readFrom 0 0 173 [some (.ref 24), some (.ref 22), l2, l3, l4] [.int s0] (hpk c o) Q := by
  unfold F_Msg_readFrom_173 at hF
  refine Ev_istore_n (L' := [some (.ref 24), some (.ref 22), l2, some (.int s0), l4]) d_Msg_readFrom_173 (by decide) rfl ?_
  refine Ev_iconst (v := 0) d_Msg_readFrom_174 (by decide) ?_
  refine Ev_istore (L' := [some (.ref 24), some (.ref 22), l2, some (.int s0), some (.int (0 : Int32))]) d_Msg_readFrom_175 (by decide) rfl ?_
  exact T_Msg_readFrom_177 x_fuel hF hQ
def F_Msg_readFrom_168 (c : x_S) : Option (Int32 × x_S) := F_Msg_readFrom_173 (1 : Int32) c
theorem T_Msg_readFrom_168 {E : x_E} {o : x_S} {Q : Int32 → x_H → Prop} {l2 : Option Value} {l3 : Option Value} {l4 : Option Value} {c : x_S} {r : Int32} {s : x_S} (hF : F_Msg_readFrom_168 c = some (r, s)) (hQ : Q r (hpk s o)) : Ev E m_Msg_readFrom 0 0 168 [some (.ref 24), some (.ref 22), l2, l3, l4] [] (hpk c o) Q := by
  unfold F_Msg_readFrom_168 at hF
  refine Ev_iconst (v := 1) d_Msg_readFrom_168 (by decide) ?_
  refine Ev_goto (tgt := 173) d_Msg_readFrom_169 rfl ?_
  exact T_Msg_readFrom_173 hF hQ
def F_Msg_readFrom_151 (c : x_S) : Option (Int32 × x_S) := if (c 24 4) = (3 : Int32) then (F_Msg_readFrom_168 c) else (if (c 24 4) = (24 : Int32) then (F_Msg_readFrom_168 c) else (F_Msg_readFrom_173 (0 : Int32) c))
theorem T_Msg_readFrom_151 {E : x_E} {o : x_S} {Q : Int32 → x_H → Prop} {l2 : Option Value} {l3 : Option Value} {l4 : Option Value} {c : x_S} {r : Int32} {s : x_S} (hF : F_Msg_readFrom_151 c = some (r, s)) (hQ : Q r (hpk s o)) : Ev E m_Msg_readFrom 0 0 151 [some (.ref 24), some (.ref 22), l2, l3, l4] [] (hpk c o) Q := by
  unfold F_Msg_readFrom_151 at hF
  refine Ev_aload_n d_Msg_readFrom_151 rfl ?_
  refine g_Msg_49 rfl d_Msg_readFrom_152 ?_
  refine Ev_iconst (v := 3) d_Msg_readFrom_155 (by decide) ?_
  refine Ev_icmp_eq (tgt := 168) d_Msg_readFrom_156 rfl (fun h1 => ?_) (fun h1 => ?_)
  · rw [if_pos h1] at hF
    exact T_Msg_readFrom_168 hF hQ
  · rw [if_neg h1] at hF
    refine Ev_aload_n d_Msg_readFrom_159 rfl ?_
    refine g_Msg_49 rfl d_Msg_readFrom_160 ?_
    refine Ev_bipush (v := (24)) d_Msg_readFrom_163 (by decide) ?_
    refine Ev_icmp_ne (tgt := 172) d_Msg_readFrom_165 rfl (fun h2 => ?_) (fun h2 => ?_)
    · rw [if_neg h2] at hF
      refine Ev_iconst (v := 0) d_Msg_readFrom_172 (by decide) ?_
      exact T_Msg_readFrom_173 hF hQ
    · rw [if_pos h2] at hF
      exact T_Msg_readFrom_168 hF hQ
def F_Msg_readFrom_148 (s1 : Int32) (c : x_S) : Option (Int32 × x_S) := F_Msg_readFrom_151 (x_up c 24 6 s1)
theorem T_Msg_readFrom_148 {E : x_E} {o : x_S} {Q : Int32 → x_H → Prop} {l2 : Option Value} {l3 : Option Value} {l4 : Option Value} {s1 : Int32} {c : x_S} {r : Int32} {s : x_S} (hF : F_Msg_readFrom_148 s1 c = some (r, s)) (hQ : Q r (hpk s o)) : Ev E m_Msg_readFrom 0 0 148 [some (.ref 24), some (.ref 22), l2, l3, l4] [.int s1, .ref 24] (hpk c o) Q := by
  unfold F_Msg_readFrom_148 at hF
  refine q_Msg_66 rfl d_Msg_readFrom_148 ?_
  exact T_Msg_readFrom_151 hF hQ
def F_Msg_readFrom_134 (c : x_S) : Option (Int32 × x_S) := if (c 24 4) = (9 : Int32) then (x_bind (F_Msg_takePlace c) (fun r2 c2 => F_Msg_readFrom_148 r2 c2)) else (F_Msg_readFrom_151 c)
theorem T_Msg_readFrom_134 {E : x_E} {o : x_S} {Q : Int32 → x_H → Prop} {l2 : Option Value} {l3 : Option Value} {l4 : Option Value} {c : x_S} {r : Int32} {s : x_S} (hF : F_Msg_readFrom_134 c = some (r, s)) (hQ : Q r (hpk s o)) : Ev E m_Msg_readFrom 0 0 134 [some (.ref 24), some (.ref 22), l2, l3, l4] [] (hpk c o) Q := by
  unfold F_Msg_readFrom_134 at hF
  refine Ev_aload_n d_Msg_readFrom_134 rfl ?_
  refine g_Msg_49 rfl d_Msg_readFrom_135 ?_
  refine Ev_bipush (v := (9)) d_Msg_readFrom_138 (by decide) ?_
  refine Ev_icmp_ne (tgt := 151) d_Msg_readFrom_140 rfl (fun h1 => ?_) (fun h1 => ?_)
  · rw [if_neg h1] at hF
    exact T_Msg_readFrom_151 hF hQ
  · rw [if_pos h1] at hF
    refine Ev_aload_n d_Msg_readFrom_143 rfl ?_
    refine Ev_aload_n d_Msg_readFrom_144 rfl ?_
    obtain ⟨r2, c2, hC, hF⟩ := x_bind_some hF
    refine k_Msg_62 rfl d_Msg_readFrom_145 ⟨by decide, by decide⟩ (Nat.le_of_ble_eq_true rfl) ?_
    exact C_Msg_takePlace hC (T_Msg_readFrom_148 hF hQ)
def F_Msg_readFrom_130 (s1 : Int32) (c : x_S) : Option (Int32 × x_S) := x_bind (F_Bit_need s1 (3 : Int32) c) (fun _ c1 => F_Msg_readFrom_134 c1)
theorem T_Msg_readFrom_130 {E : x_E} {o : x_S} {Q : Int32 → x_H → Prop} {l2 : Option Value} {l3 : Option Value} {l4 : Option Value} {s1 : Int32} {c : x_S} {r : Int32} {s : x_S} (hF : F_Msg_readFrom_130 s1 c = some (r, s)) (hQ : Q r (hpk s o)) : Ev E m_Msg_readFrom 0 0 130 [some (.ref 24), some (.ref 22), l2, l3, l4] [.int s1, .ref 22] (hpk c o) Q := by
  unfold F_Msg_readFrom_130 at hF
  refine Ev_iconst (v := 3) d_Msg_readFrom_130 (by decide) ?_
  obtain ⟨r1, c1, hC, hF⟩ := x_bind_some hF
  refine k_Msg_52 rfl d_Msg_readFrom_131 ⟨by decide, by decide⟩ (Nat.le_of_ble_eq_true rfl) ?_
  exact C_Bit_need hC (T_Msg_readFrom_134 hF hQ)
def F_Msg_readFrom_116 (x2 : Int32) (c : x_S) : Option (Int32 × x_S) := if (c 24 5) ≤ x2 then (F_Msg_readFrom_130 (0 : Int32) c) else (F_Msg_readFrom_130 (1 : Int32) c)
theorem T_Msg_readFrom_116 {E : x_E} {o : x_S} {Q : Int32 → x_H → Prop} {l3 : Option Value} {l4 : Option Value} {x2 : Int32} {c : x_S} {r : Int32} {s : x_S} (hF : F_Msg_readFrom_116 x2 c = some (r, s)) (hQ : Q r (hpk s o)) : Ev E m_Msg_readFrom 0 0 116 [some (.ref 24), some (.ref 22), some (.int x2), l3, l4] [] (hpk c o) Q := by
  unfold F_Msg_readFrom_116 at hF
  refine Ev_aload_n d_Msg_readFrom_116 rfl ?_
  refine Ev_aload_n d_Msg_readFrom_117 rfl ?_
  refine g_Msg_59 rfl d_Msg_readFrom_118 ?_
  refine Ev_iload_n d_Msg_readFrom_121 rfl ?_
  refine Ev_icmp_le (tgt := 129) d_Msg_readFrom_122 rfl (fun h1 => ?_) (fun h1 => ?_)
  · rw [if_pos h1] at hF
    refine Ev_iconst (v := 0) d_Msg_readFrom_129 (by decide) ?_
    exact T_Msg_readFrom_130 hF hQ
  · rw [if_neg h1] at hF
    refine Ev_iconst (v := 1) d_Msg_readFrom_125 (by decide) ?_
    refine Ev_goto (tgt := 130) d_Msg_readFrom_126 rfl ?_
    exact T_Msg_readFrom_130 hF hQ
def F_Msg_readFrom_113 (x2 s1 : Int32) (c : x_S) : Option (Int32 × x_S) := F_Msg_readFrom_116 x2 (x_up c 24 5 s1)
theorem T_Msg_readFrom_113 {E : x_E} {o : x_S} {Q : Int32 → x_H → Prop} {l3 : Option Value} {l4 : Option Value} {x2 s1 : Int32} {c : x_S} {r : Int32} {s : x_S} (hF : F_Msg_readFrom_113 x2 s1 c = some (r, s)) (hQ : Q r (hpk s o)) : Ev E m_Msg_readFrom 0 0 113 [some (.ref 24), some (.ref 22), some (.int x2), l3, l4] [.int s1, .ref 24] (hpk c o) Q := by
  unfold F_Msg_readFrom_113 at hF
  refine q_Msg_59 rfl d_Msg_readFrom_113 ?_
  exact T_Msg_readFrom_116 hF hQ
def F_Msg_readFrom_106 (x2 : Int32) (c : x_S) : Option (Int32 × x_S) := x_bind (F_Bit_take (16 : Int32) c) (fun r1 c1 => F_Msg_readFrom_113 x2 r1 c1)
theorem T_Msg_readFrom_106 {E : x_E} {o : x_S} {Q : Int32 → x_H → Prop} {l3 : Option Value} {l4 : Option Value} {x2 : Int32} {c : x_S} {r : Int32} {s : x_S} (hF : F_Msg_readFrom_106 x2 c = some (r, s)) (hQ : Q r (hpk s o)) : Ev E m_Msg_readFrom 0 0 106 [some (.ref 24), some (.ref 22), some (.int x2), l3, l4] [] (hpk c o) Q := by
  unfold F_Msg_readFrom_106 at hF
  refine Ev_aload_n d_Msg_readFrom_106 rfl ?_
  refine Ev_aload_n d_Msg_readFrom_107 rfl ?_
  refine Ev_bipush (v := (16)) d_Msg_readFrom_108 (by decide) ?_
  obtain ⟨r1, c1, hC, hF⟩ := x_bind_some hF
  refine k_Msg_45 rfl d_Msg_readFrom_110 ⟨by decide, by decide⟩ (Nat.le_of_ble_eq_true rfl) ?_
  exact C_Bit_take hC (T_Msg_readFrom_113 hF hQ)
def F_Msg_readFrom_102 (x2 s1 : Int32) (c : x_S) : Option (Int32 × x_S) := x_bind (F_Bit_need s1 (2 : Int32) c) (fun _ c1 => F_Msg_readFrom_106 x2 c1)
theorem T_Msg_readFrom_102 {E : x_E} {o : x_S} {Q : Int32 → x_H → Prop} {l3 : Option Value} {l4 : Option Value} {x2 s1 : Int32} {c : x_S} {r : Int32} {s : x_S} (hF : F_Msg_readFrom_102 x2 s1 c = some (r, s)) (hQ : Q r (hpk s o)) : Ev E m_Msg_readFrom 0 0 102 [some (.ref 24), some (.ref 22), some (.int x2), l3, l4] [.int s1, .ref 22] (hpk c o) Q := by
  unfold F_Msg_readFrom_102 at hF
  refine Ev_iconst (v := 2) d_Msg_readFrom_102 (by decide) ?_
  obtain ⟨r1, c1, hC, hF⟩ := x_bind_some hF
  refine k_Msg_52 rfl d_Msg_readFrom_103 ⟨by decide, by decide⟩ (Nat.le_of_ble_eq_true rfl) ?_
  exact C_Bit_need hC (T_Msg_readFrom_106 hF hQ)
def F_Msg_readFrom_90 (x2 s1 : Int32) (c : x_S) : Option (Int32 × x_S) := if s1 = (c 22 1) then (F_Msg_readFrom_102 x2 (1 : Int32) c) else (F_Msg_readFrom_102 x2 (0 : Int32) c)
theorem T_Msg_readFrom_90 {E : x_E} {o : x_S} {Q : Int32 → x_H → Prop} {l3 : Option Value} {l4 : Option Value} {x2 s1 : Int32} {c : x_S} {r : Int32} {s : x_S} (hF : F_Msg_readFrom_90 x2 s1 c = some (r, s)) (hQ : Q r (hpk s o)) : Ev E m_Msg_readFrom 0 0 90 [some (.ref 24), some (.ref 22), some (.int x2), l3, l4] [.int s1, .ref 22] (hpk c o) Q := by
  unfold F_Msg_readFrom_90 at hF
  refine Ev_aload_n d_Msg_readFrom_90 rfl ?_
  refine g_Msg_56 rfl d_Msg_readFrom_91 ?_
  refine Ev_icmp_ne (tgt := 101) d_Msg_readFrom_94 rfl (fun h1 => ?_) (fun h1 => ?_)
  · rw [if_neg h1] at hF
    refine Ev_iconst (v := 0) d_Msg_readFrom_101 (by decide) ?_
    exact T_Msg_readFrom_102 hF hQ
  · rw [if_pos h1] at hF
    refine Ev_iconst (v := 1) d_Msg_readFrom_97 (by decide) ?_
    refine Ev_goto (tgt := 102) d_Msg_readFrom_98 rfl ?_
    exact T_Msg_readFrom_102 hF hQ
def F_Msg_readFrom_83 (x2 : Int32) (c : x_S) : Option (Int32 × x_S) := x_bind (F_Bit_take (10 : Int32) c) (fun r1 c1 => F_Msg_readFrom_90 x2 r1 c1)
theorem T_Msg_readFrom_83 {E : x_E} {o : x_S} {Q : Int32 → x_H → Prop} {l3 : Option Value} {l4 : Option Value} {x2 : Int32} {c : x_S} {r : Int32} {s : x_S} (hF : F_Msg_readFrom_83 x2 c = some (r, s)) (hQ : Q r (hpk s o)) : Ev E m_Msg_readFrom 0 0 83 [some (.ref 24), some (.ref 22), some (.int x2), l3, l4] [] (hpk c o) Q := by
  unfold F_Msg_readFrom_83 at hF
  refine Ev_aload_n d_Msg_readFrom_83 rfl ?_
  refine Ev_aload_n d_Msg_readFrom_84 rfl ?_
  refine Ev_bipush (v := (10)) d_Msg_readFrom_85 (by decide) ?_
  obtain ⟨r1, c1, hC, hF⟩ := x_bind_some hF
  refine k_Msg_45 rfl d_Msg_readFrom_87 ⟨by decide, by decide⟩ (Nat.le_of_ble_eq_true rfl) ?_
  exact C_Bit_take hC (T_Msg_readFrom_90 hF hQ)
def F_Msg_readFrom_79 (x2 s1 : Int32) (c : x_S) : Option (Int32 × x_S) := x_bind (F_Bit_need s1 (1 : Int32) c) (fun _ c1 => F_Msg_readFrom_83 x2 c1)
theorem T_Msg_readFrom_79 {E : x_E} {o : x_S} {Q : Int32 → x_H → Prop} {l3 : Option Value} {l4 : Option Value} {x2 s1 : Int32} {c : x_S} {r : Int32} {s : x_S} (hF : F_Msg_readFrom_79 x2 s1 c = some (r, s)) (hQ : Q r (hpk s o)) : Ev E m_Msg_readFrom 0 0 79 [some (.ref 24), some (.ref 22), some (.int x2), l3, l4] [.int s1, .ref 22] (hpk c o) Q := by
  unfold F_Msg_readFrom_79 at hF
  refine Ev_iconst (v := 1) d_Msg_readFrom_79 (by decide) ?_
  obtain ⟨r1, c1, hC, hF⟩ := x_bind_some hF
  refine k_Msg_52 rfl d_Msg_readFrom_80 ⟨by decide, by decide⟩ (Nat.le_of_ble_eq_true rfl) ?_
  exact C_Bit_need hC (T_Msg_readFrom_83 hF hQ)
def F_Msg_readFrom_74 (x2 : Int32) (c : x_S) : Option (Int32 × x_S) := F_Msg_readFrom_79 x2 (1 : Int32) c
theorem T_Msg_readFrom_74 {E : x_E} {o : x_S} {Q : Int32 → x_H → Prop} {l3 : Option Value} {l4 : Option Value} {x2 : Int32} {c : x_S} {r : Int32} {s : x_S} (hF : F_Msg_readFrom_74 x2 c = some (r, s)) (hQ : Q r (hpk s o)) : Ev E m_Msg_readFrom 0 0 74 [some (.ref 24), some (.ref 22), some (.int x2), l3, l4] [.ref 22] (hpk c o) Q := by
  unfold F_Msg_readFrom_74 at hF
  refine Ev_iconst (v := 1) d_Msg_readFrom_74 (by decide) ?_
  refine Ev_goto (tgt := 79) d_Msg_readFrom_75 rfl ?_
  exact T_Msg_readFrom_79 hF hQ
def F_Msg_readFrom_38 (x2 : Int32) (c : x_S) : Option (Int32 × x_S) := if (c 24 4) = (3 : Int32) then (F_Msg_readFrom_74 x2 c) else (if (c 24 4) = (9 : Int32) then (F_Msg_readFrom_74 x2 c) else (if (c 24 4) = (16 : Int32) then (F_Msg_readFrom_74 x2 c) else (if (c 24 4) = (24 : Int32) then (F_Msg_readFrom_74 x2 c) else (F_Msg_readFrom_79 x2 (0 : Int32) c))))
theorem T_Msg_readFrom_38 {E : x_E} {o : x_S} {Q : Int32 → x_H → Prop} {l3 : Option Value} {l4 : Option Value} {x2 : Int32} {c : x_S} {r : Int32} {s : x_S} (hF : F_Msg_readFrom_38 x2 c = some (r, s)) (hQ : Q r (hpk s o)) : Ev E m_Msg_readFrom 0 0 38 [some (.ref 24), some (.ref 22), some (.int x2), l3, l4] [] (hpk c o) Q := by
  unfold F_Msg_readFrom_38 at hF
  refine Ev_aload_n d_Msg_readFrom_38 rfl ?_
  refine Ev_aload_n d_Msg_readFrom_39 rfl ?_
  refine g_Msg_49 rfl d_Msg_readFrom_40 ?_
  refine Ev_iconst (v := 3) d_Msg_readFrom_43 (by decide) ?_
  refine Ev_icmp_eq (tgt := 74) d_Msg_readFrom_44 rfl (fun h1 => ?_) (fun h1 => ?_)
  · rw [if_pos h1] at hF
    exact T_Msg_readFrom_74 hF hQ
  · rw [if_neg h1] at hF
    refine Ev_aload_n d_Msg_readFrom_47 rfl ?_
    refine g_Msg_49 rfl d_Msg_readFrom_48 ?_
    refine Ev_bipush (v := (9)) d_Msg_readFrom_51 (by decide) ?_
    refine Ev_icmp_eq (tgt := 74) d_Msg_readFrom_53 rfl (fun h2 => ?_) (fun h2 => ?_)
    · rw [if_pos h2] at hF
      exact T_Msg_readFrom_74 hF hQ
    · rw [if_neg h2] at hF
      refine Ev_aload_n d_Msg_readFrom_56 rfl ?_
      refine g_Msg_49 rfl d_Msg_readFrom_57 ?_
      refine Ev_bipush (v := (16)) d_Msg_readFrom_60 (by decide) ?_
      refine Ev_icmp_eq (tgt := 74) d_Msg_readFrom_62 rfl (fun h3 => ?_) (fun h3 => ?_)
      · rw [if_pos h3] at hF
        exact T_Msg_readFrom_74 hF hQ
      · rw [if_neg h3] at hF
        refine Ev_aload_n d_Msg_readFrom_65 rfl ?_
        refine g_Msg_49 rfl d_Msg_readFrom_66 ?_
        refine Ev_bipush (v := (24)) d_Msg_readFrom_69 (by decide) ?_
        refine Ev_icmp_ne (tgt := 78) d_Msg_readFrom_71 rfl (fun h4 => ?_) (fun h4 => ?_)
        · rw [if_neg h4] at hF
          refine Ev_iconst (v := 0) d_Msg_readFrom_78 (by decide) ?_
          exact T_Msg_readFrom_79 hF hQ
        · rw [if_pos h4] at hF
          exact T_Msg_readFrom_74 hF hQ
def F_Msg_readFrom_35 (x2 s1 : Int32) (c : x_S) : Option (Int32 × x_S) := F_Msg_readFrom_38 x2 (x_up c 24 4 s1)
theorem T_Msg_readFrom_35 {E : x_E} {o : x_S} {Q : Int32 → x_H → Prop} {l3 : Option Value} {l4 : Option Value} {x2 s1 : Int32} {c : x_S} {r : Int32} {s : x_S} (hF : F_Msg_readFrom_35 x2 s1 c = some (r, s)) (hQ : Q r (hpk s o)) : Ev E m_Msg_readFrom 0 0 35 [some (.ref 24), some (.ref 22), some (.int x2), l3, l4] [.int s1, .ref 24] (hpk c o) Q := by
  unfold F_Msg_readFrom_35 at hF
  refine q_Msg_49 rfl d_Msg_readFrom_35 ?_
  exact T_Msg_readFrom_38 hF hQ
def F_Msg_readFrom_22 (K : Int32 → Int32 → x_S → Option (Int32 × x_S)) (x2 x3 : Int32) (c : x_S) : Option (Int32 × x_S) := K x2 (x3 + (1 : Int32)) c
theorem T_Msg_readFrom_22 {E : x_E} {o : x_S} {Q : Int32 → x_H → Prop} {K : Int32 → Int32 → x_S → Option (Int32 × x_S)} (hK : ∀ {l4 : Option Value} {x2 x3 : Int32} {c : x_S} {r : Int32} {s : x_S}, K x2 x3 c = some (r, s) → Q r (hpk s o) → Ev E m_Msg_readFrom 0 0 6 [some (.ref 24), some (.ref 22), some (.int x2), some (.int x3), l4] [] (hpk c o) Q) {l4 : Option Value} {x2 x3 : Int32} {c : x_S} {r : Int32} {s : x_S} (hF : F_Msg_readFrom_22 K x2 x3 c = some (r, s)) (hQ : Q r (hpk s o)) : Ev E m_Msg_readFrom 0 0 22 [some (.ref 24), some (.ref 22), some (.int x2), some (.int x3), l4] [] (hpk c o) Q := by
  unfold F_Msg_readFrom_22 at hF
  refine Ev_iinc (v := (x3 + (1 : Int32))) (L' := [some (.ref 24), some (.ref 22), some (.int x2), some (.int (x3 + (1 : Int32))), l4]) d_Msg_readFrom_22 rfl rfl (by decide) rfl ?_
  refine Ev_goto (tgt := 6) d_Msg_readFrom_25 rfl ?_
  exact hK hF hQ
def F_Msg_readFrom_6 : Nat → Int32 → Int32 → x_S → Option (Int32 × x_S)
  | 0, _, _, _ => none
  | n + 1, x2, x3, c => if (6 : Int32) ≤ x3 then (x_bind (F_Bit_take (8 : Int32) c) (fun r2 c2 => F_Msg_readFrom_35 x2 r2 c2)) else (x_ix x3 6 (fun j3 => F_Msg_readFrom_22 (F_Msg_readFrom_6 n) x2 x3 (x_up c 25 j3 (0 : Int32))))
theorem T_Msg_readFrom_6 {E : x_E} {o : x_S} {Q : Int32 → x_H → Prop} : ∀ (n : Nat) {l4 : Option Value} {x2 x3 : Int32} {c : x_S} {r : Int32} {s : x_S}, F_Msg_readFrom_6 n x2 x3 c = some (r, s) → Q r (hpk s o) → Ev E m_Msg_readFrom 0 0 6 [some (.ref 24), some (.ref 22), some (.int x2), some (.int x3), l4] [] (hpk c o) Q := by
  intro n
  induction n with
  | zero => intro l4 x2 x3 c r s hF; rw [F_Msg_readFrom_6] at hF; cases hF
  | succ n ih =>
    intro l4 x2 x3 c r s hF hQ
    rw [F_Msg_readFrom_6] at hF
    refine Ev_iload_n d_Msg_readFrom_6 rfl ?_
    refine Ev_aload_n d_Msg_readFrom_7 rfl ?_
    refine g_Msg_15 rfl d_Msg_readFrom_8 ?_
    refine Ev_alen (v := 6) d_Msg_readFrom_11 (by decide) rfl (by decide) ?_
    refine Ev_icmp_ge (tgt := 28) d_Msg_readFrom_12 rfl (fun h1 => ?_) (fun h1 => ?_)
    · rw [if_pos h1] at hF
      refine Ev_aload_n d_Msg_readFrom_28 rfl ?_
      refine Ev_aload_n d_Msg_readFrom_29 rfl ?_
      refine Ev_bipush (v := (8)) d_Msg_readFrom_30 (by decide) ?_
      obtain ⟨r2, c2, hC, hF⟩ := x_bind_some hF
      refine k_Msg_45 rfl d_Msg_readFrom_32 ⟨by decide, by decide⟩ (Nat.le_of_ble_eq_true rfl) ?_
      exact C_Bit_take hC (T_Msg_readFrom_35 hF hQ)
    · rw [if_neg h1] at hF
      refine Ev_aload_n d_Msg_readFrom_15 rfl ?_
      refine g_Msg_15 rfl d_Msg_readFrom_16 ?_
      refine Ev_iload_n d_Msg_readFrom_19 rfl ?_
      refine Ev_iconst (v := 0) d_Msg_readFrom_20 (by decide) ?_
      obtain ⟨j3, hij3, hjj3, hF⟩ := x_ix_some hF
      refine Ec_zast d_Msg_readFrom_21 (P := 25) (by decide) rfl hij3 hjj3 (Or.inl rfl) ?_
      exact T_Msg_readFrom_22 (fun h1 h2 => ih h1 h2) hF hQ
def F_Msg_readFrom_4 (x2 : Int32) (c : x_S) : Option (Int32 × x_S) := F_Msg_readFrom_6 x_fuel x2 (0 : Int32) c
theorem T_Msg_readFrom_4 {E : x_E} {o : x_S} {Q : Int32 → x_H → Prop} {l3 : Option Value} {l4 : Option Value} {x2 : Int32} {c : x_S} {r : Int32} {s : x_S} (hF : F_Msg_readFrom_4 x2 c = some (r, s)) (hQ : Q r (hpk s o)) : Ev E m_Msg_readFrom 0 0 4 [some (.ref 24), some (.ref 22), some (.int x2), l3, l4] [] (hpk c o) Q := by
  unfold F_Msg_readFrom_4 at hF
  refine Ev_iconst (v := 0) d_Msg_readFrom_4 (by decide) ?_
  refine Ev_istore_n (L' := [some (.ref 24), some (.ref 22), some (.int x2), some (.int (0 : Int32)), l4]) d_Msg_readFrom_5 (by decide) rfl ?_
  exact T_Msg_readFrom_6 x_fuel hF hQ
def F_Msg_readFrom (x2 : Int32) (c : x_S) : Option (Int32 × x_S) := x_bind (F_Bit_begin c) (fun _ c1 => F_Msg_readFrom_4 x2 c1)
theorem C_Msg_readFrom {E : x_E} {o : x_S} {Q : Int32 → x_H → Prop} {x2 : Int32} {c : x_S} {r : Int32} {s : x_S} (hF : F_Msg_readFrom x2 c = some (r, s)) (hQ : Q r (hpk s o)) : Call E m_Msg_readFrom 0 0 [.ref 24, .ref 22, .int x2] (hpk c o) Q := by
  refine Call_of (L := [some (.ref 24), some (.ref 22), some (.int x2), none, none]) (by decide) (by intro v hv; simp only [List.mem_cons, List.not_mem_nil, or_false] at hv; rcases hv with rfl | rfl | rfl <;> rfl) (Nat.le_of_ble_eq_true rfl) rfl ?_
  unfold F_Msg_readFrom at hF
  refine Ev_aload_n d_Msg_readFrom_0 rfl ?_
  obtain ⟨r1, c1, hC, hF⟩ := x_bind_some hF
  refine k_Msg_40 rfl d_Msg_readFrom_1 ⟨by decide, by decide⟩ (Nat.le_of_ble_eq_true rfl) ?_
  exact C_Bit_begin hC (T_Msg_readFrom_4 hF hQ)
