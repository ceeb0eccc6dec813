/-! printed by wip/gen/gen4.py: TrainGuardModel -/
def F_Mod_packets_146 (c : x_S) : Option (Int32 × x_S) := some (0, c)
theorem T_Mod_packets_146 {E : x_E} {o : x_S} {Q : Int32 → x_H → Prop} {l0 : Option Value} {l1 : Option Value} {l2 : Option Value} {l3 : Option Value} {c : x_S} {r : Int32} {s : x_S} (hF : F_Mod_packets_146 c = some (r, s)) (hQ : Q r (hpk o s)) : Ev E m_Mod_packets 0 0 146 [l0, l1, l2, l3] [] (hpk o c) Q := by
  unfold F_Mod_packets_146 at hF
  cases hF
  exact Ev_return d_Mod_packets_146 rfl hQ
def F_Mod_packets_143 (K : x_S → Option (Int32 × x_S)) (c : x_S) : Option (Int32 × x_S) := K c
theorem T_Mod_packets_143 {E : x_E} {o : x_S} {Q : Int32 → x_H → Prop} {K : x_S → Option (Int32 × x_S)} (hK : ∀ {l1 : Option Value} {l2 : Option Value} {l3 : Option Value} {c : x_S} {r : Int32} {s : x_S}, K c = some (r, s) → Q r (hpk o s) → Ev E m_Mod_packets 0 0 0 [some (.ref 46), l1, l2, l3] [] (hpk o c) Q) {l1 : Option Value} {l2 : Option Value} {l3 : Option Value} {c : x_S} {r : Int32} {s : x_S} (hF : F_Mod_packets_143 K c = some (r, s)) (hQ : Q r (hpk o s)) : Ev E m_Mod_packets 0 0 143 [some (.ref 46), l1, l2, l3] [] (hpk o c) Q := by
  unfold F_Mod_packets_143 at hF
  refine Ev_goto (tgt := 0) d_Mod_packets_143 rfl ?_
  exact hK hF hQ
def F_Mod_packets_139 (K : x_S → Option (Int32 × x_S)) (s1 : Int32) (c : x_S) : Option (Int32 × x_S) := x_bind (F_Mod_check s1 (5 : Int32) c) (fun _ c1 => F_Mod_packets_143 K c1)
theorem T_Mod_packets_139 {E : x_E} {o : x_S} {Q : Int32 → x_H → Prop} {K : x_S → Option (Int32 × x_S)} (hK : ∀ {l1 : Option Value} {l2 : Option Value} {l3 : Option Value} {c : x_S} {r : Int32} {s : x_S}, K c = some (r, s) → Q r (hpk o s) → Ev E m_Mod_packets 0 0 0 [some (.ref 46), l1, l2, l3] [] (hpk o c) Q) {l1 : Option Value} {l2 : Option Value} {l3 : Option Value} {s1 : Int32} {c : x_S} {r : Int32} {s : x_S} (hF : F_Mod_packets_139 K s1 c = some (r, s)) (hQ : Q r (hpk o s)) : Ev E m_Mod_packets 0 0 139 [some (.ref 46), l1, l2, l3] [.int s1, .ref 46] (hpk o c) Q := by
  unfold F_Mod_packets_139 at hF
  refine Ev_iconst (v := 5) d_Mod_packets_139 (by decide) ?_
  obtain ⟨r1, c1, hC, hF⟩ := x_bind_some hF
  refine k_Mod_130 rfl d_Mod_packets_140 ⟨by decide, by decide⟩ (Nat.le_of_ble_eq_true rfl) ?_
  exact C_Mod_check hC (T_Mod_packets_143 (fun h1 h2 => hK h1 h2) hF hQ)
def F_Mod_packets_123 (K : x_S → Option (Int32 × x_S)) (x1 x3 : Int32) (c : x_S) : Option (Int32 × x_S) := if (c 46 37) = (x1 + x3) then (F_Mod_packets_139 K (1 : Int32) c) else (F_Mod_packets_139 K (0 : Int32) c)
theorem T_Mod_packets_123 {E : x_E} {o : x_S} {Q : Int32 → x_H → Prop} {K : x_S → Option (Int32 × x_S)} (hK : ∀ {l1 : Option Value} {l2 : Option Value} {l3 : Option Value} {c : x_S} {r : Int32} {s : x_S}, K c = some (r, s) → Q r (hpk o s) → Ev E m_Mod_packets 0 0 0 [some (.ref 46), l1, l2, l3] [] (hpk o c) Q) {l2 : Option Value} {x1 x3 : Int32} {c : x_S} {r : Int32} {s : x_S} (hF : F_Mod_packets_123 K x1 x3 c = some (r, s)) (hQ : Q r (hpk o s)) : Ev E m_Mod_packets 0 0 123 [some (.ref 46), some (.int x1), l2, some (.int x3)] [] (hpk o c) Q := by
  unfold F_Mod_packets_123 at hF
  refine Ev_aload_n d_Mod_packets_123 rfl ?_
  refine Ev_aload_n d_Mod_packets_124 rfl ?_
  refine g_Mod_120 rfl d_Mod_packets_125 ?_
  refine Ev_iload_n d_Mod_packets_128 rfl ?_
  refine Ev_iload_n d_Mod_packets_129 rfl ?_
  refine Ev_iadd d_Mod_packets_130 ?_
  refine Ev_icmp_ne (tgt := 138) d_Mod_packets_131 rfl (fun h1 => ?_) (fun h1 => ?_)
  · rw [if_neg h1] at hF
    refine Ev_iconst (v := 0) d_Mod_packets_138 (by decide) ?_
    exact T_Mod_packets_139 (fun h1 h2 => hK h1 h2) hF hQ
  · rw [if_pos h1] at hF
    refine Ev_iconst (v := 1) d_Mod_packets_134 (by decide) ?_
    refine Ev_goto (tgt := 139) d_Mod_packets_135 rfl ?_
    exact T_Mod_packets_139 (fun h1 h2 => hK h1 h2) hF hQ
def F_Mod_packets_118 (K : x_S → Option (Int32 × x_S)) (x1 x2 x3 : Int32) (c : x_S) : Option (Int32 × x_S) := x_bind (F_Mod_numbers x2 c) (fun _ c1 => F_Mod_packets_123 K x1 x3 c1)
theorem T_Mod_packets_118 {E : x_E} {o : x_S} {Q : Int32 → x_H → Prop} {K : x_S → Option (Int32 × x_S)} (hK : ∀ {l1 : Option Value} {l2 : Option Value} {l3 : Option Value} {c : x_S} {r : Int32} {s : x_S}, K c = some (r, s) → Q r (hpk o s) → Ev E m_Mod_packets 0 0 0 [some (.ref 46), l1, l2, l3] [] (hpk o c) Q) {x1 x2 x3 : Int32} {c : x_S} {r : Int32} {s : x_S} (hF : F_Mod_packets_118 K x1 x2 x3 c = some (r, s)) (hQ : Q r (hpk o s)) : Ev E m_Mod_packets 0 0 118 [some (.ref 46), some (.int x1), some (.int x2), some (.int x3)] [] (hpk o c) Q := by
  unfold F_Mod_packets_118 at hF
  refine Ev_aload_n d_Mod_packets_118 rfl ?_
  refine Ev_iload_n d_Mod_packets_119 rfl ?_
  obtain ⟨r1, c1, hC, hF⟩ := x_bind_some hF
  refine k_Mod_134 rfl d_Mod_packets_120 ⟨by decide, by decide⟩ (Nat.le_of_ble_eq_true rfl) ?_
  exact C_Mod_numbers hC (T_Mod_packets_123 (fun h1 h2 => hK h1 h2) hF hQ)
def F_Mod_packets_104 (K : x_S → Option (Int32 × x_S)) (x1 x2 x3 : Int32) (c : x_S) : Option (Int32 × x_S) := if (c 46 38) = 0 then (x_ix x2 6 (fun j2 => F_Mod_packets_118 K x1 x2 x3 (x_up c 60 j2 (1 : Int32)))) else (F_Mod_packets_123 K x1 x3 c)
theorem T_Mod_packets_104 {E : x_E} {o : x_S} {Q : Int32 → x_H → Prop} {K : x_S → Option (Int32 × x_S)} (hK : ∀ {l1 : Option Value} {l2 : Option Value} {l3 : Option Value} {c : x_S} {r : Int32} {s : x_S}, K c = some (r, s) → Q r (hpk o s) → Ev E m_Mod_packets 0 0 0 [some (.ref 46), l1, l2, l3] [] (hpk o c) Q) {x1 x2 x3 : Int32} {c : x_S} {r : Int32} {s : x_S} (hF : F_Mod_packets_104 K x1 x2 x3 c = some (r, s)) (hQ : Q r (hpk o s)) : Ev E m_Mod_packets 0 0 104 [some (.ref 46), some (.int x1), some (.int x2), some (.int x3)] [] (hpk o c) Q := by
  unfold F_Mod_packets_104 at hF
  refine Ev_aload_n d_Mod_packets_104 rfl ?_
  refine g_Mod_117 rfl d_Mod_packets_105 ?_
  refine Ev_if_ne (tgt := 123) d_Mod_packets_108 rfl (fun h1 => ?_) (fun h1 => ?_)
  · rw [if_neg h1] at hF
    exact T_Mod_packets_123 (fun h1 h2 => hK h1 h2) hF hQ
  · rw [if_pos h1] at hF
    refine Ev_aload_n d_Mod_packets_111 rfl ?_
    refine g_Mod_54 rfl d_Mod_packets_112 ?_
    refine Ev_iload_n d_Mod_packets_115 rfl ?_
    refine Ev_iconst (v := 1) d_Mod_packets_116 (by decide) ?_
    obtain ⟨j2, hij2, hjj2, hF⟩ := x_ix_some hF
    refine Em_zast d_Mod_packets_117 (P := 60) (by decide) rfl hij2 hjj2 (Or.inr rfl) ?_
    exact T_Mod_packets_118 (fun h1 h2 => hK h1 h2) hF hQ
def F_Mod_packets_100 (K : x_S → Option (Int32 × x_S)) (x1 x2 x3 s1 : Int32) (c : x_S) : Option (Int32 × x_S) := x_bind (F_Mod_check s1 (2 : Int32) c) (fun _ c1 => F_Mod_packets_104 K x1 x2 x3 c1)
theorem T_Mod_packets_100 {E : x_E} {o : x_S} {Q : Int32 → x_H → Prop} {K : x_S → Option (Int32 × x_S)} (hK : ∀ {l1 : Option Value} {l2 : Option Value} {l3 : Option Value} {c : x_S} {r : Int32} {s : x_S}, K c = some (r, s) → Q r (hpk o s) → Ev E m_Mod_packets 0 0 0 [some (.ref 46), l1, l2, l3] [] (hpk o c) Q) {x1 x2 x3 s1 : Int32} {c : x_S} {r : Int32} {s : x_S} (hF : F_Mod_packets_100 K x1 x2 x3 s1 c = some (r, s)) (hQ : Q r (hpk o s)) : Ev E m_Mod_packets 0 0 100 [some (.ref 46), some (.int x1), some (.int x2), some (.int x3)] [.int s1, .ref 46] (hpk o c) Q := by
  unfold F_Mod_packets_100 at hF
  refine Ev_iconst (v := 2) d_Mod_packets_100 (by decide) ?_
  obtain ⟨r1, c1, hC, hF⟩ := x_bind_some hF
  refine k_Mod_130 rfl d_Mod_packets_101 ⟨by decide, by decide⟩ (Nat.le_of_ble_eq_true rfl) ?_
  exact C_Mod_check hC (T_Mod_packets_104 (fun h1 h2 => hK h1 h2) hF hQ)
def F_Mod_packets_99 (K : x_S → Option (Int32 × x_S)) (x1 x2 x3 : Int32) (c : x_S) : Option (Int32 × x_S) := F_Mod_packets_100 K x1 x2 x3 (0 : Int32) c
theorem T_Mod_packets_99 {E : x_E} {o : x_S} {Q : Int32 → x_H → Prop} {K : x_S → Option (Int32 × x_S)} (hK : ∀ {l1 : Option Value} {l2 : Option Value} {l3 : Option Value} {c : x_S} {r : Int32} {s : x_S}, K c = some (r, s) → Q r (hpk o s) → Ev E m_Mod_packets 0 0 0 [some (.ref 46), l1, l2, l3] [] (hpk o c) Q) {x1 x2 x3 : Int32} {c : x_S} {r : Int32} {s : x_S} (hF : F_Mod_packets_99 K x1 x2 x3 c = some (r, s)) (hQ : Q r (hpk o s)) : Ev E m_Mod_packets 0 0 99 [some (.ref 46), some (.int x1), some (.int x2), some (.int x3)] [.ref 46] (hpk o c) Q := by
  unfold F_Mod_packets_99 at hF
  refine Ev_iconst (v := 0) d_Mod_packets_99 (by decide) ?_
  exact T_Mod_packets_100 (fun h1 h2 => hK h1 h2) hF hQ
def F_Mod_packets_77 (K : x_S → Option (Int32 × x_S)) (x1 x2 s0 : Int32) (c : x_S) : Option (Int32 × x_S) := if s0 < (21 : Int32) then (F_Mod_packets_99 K x1 x2 s0 c) else (if (c 46 35) < (x1 + s0) then (F_Mod_packets_99 K x1 x2 s0 c) else (F_Mod_packets_100 K x1 x2 s0 (1 : Int32) c))
theorem T_Mod_packets_77 {E : x_E} {o : x_S} {Q : Int32 → x_H → Prop} {K : x_S → Option (Int32 × x_S)} (hK : ∀ {l1 : Option Value} {l2 : Option Value} {l3 : Option Value} {c : x_S} {r : Int32} {s : x_S}, K c = some (r, s) → Q r (hpk o s) → Ev E m_Mod_packets 0 0 0 [some (.ref 46), l1, l2, l3] [] (hpk o c) Q) {l3 : Option Value} {x1 x2 s0 : Int32} {c : x_S} {r : Int32} {s : x_S} (hF : F_Mod_packets_77 K x1 x2 s0 c = some (r, s)) (hQ : Q r (hpk o s)) : Ev E m_Mod_packets 0 0 77 [some (.ref 46), some (.int x1), some (.int x2), l3] [.int s0] (hpk o c) Q := by
  unfold F_Mod_packets_77 at hF
  refine Ev_istore_n (L' := [some (.ref 46), some (.int x1), some (.int x2), some (.int s0)]) d_Mod_packets_77 (by decide) rfl ?_
  refine Ev_aload_n d_Mod_packets_78 rfl ?_
  refine Ev_iload_n d_Mod_packets_79 rfl ?_
  refine Ev_bipush (v := (21)) d_Mod_packets_80 (by decide) ?_
  refine Ev_icmp_lt (tgt := 99) d_Mod_packets_82 rfl (fun h1 => ?_) (fun h1 => ?_)
  · rw [if_pos h1] at hF
    exact T_Mod_packets_99 (fun h1 h2 => hK h1 h2) hF hQ
  · rw [if_neg h1] at hF
    refine Ev_iload_n d_Mod_packets_85 rfl ?_
    refine Ev_iload_n d_Mod_packets_86 rfl ?_
    refine Ev_iadd d_Mod_packets_87 ?_
    refine Ev_aload_n d_Mod_packets_88 rfl ?_
    refine g_Mod_114 rfl d_Mod_packets_89 ?_
    refine Ev_icmp_gt (tgt := 99) d_Mod_packets_92 rfl (fun h2 => ?_) (fun h2 => ?_)
    · rw [if_pos h2] at hF
      exact T_Mod_packets_99 (fun h1 h2 => hK h1 h2) hF hQ
    · rw [if_neg h2] at hF
      refine Ev_iconst (v := 1) d_Mod_packets_95 (by decide) ?_
      refine Ev_goto (tgt := 100) d_Mod_packets_96 rfl ?_
      exact T_Mod_packets_100 (fun h1 h2 => hK h1 h2) hF hQ
def F_Mod_packets_71 (K : x_S → Option (Int32 × x_S)) (x1 x2 : Int32) (c : x_S) : Option (Int32 × x_S) := x_bind (F_Mod_read (13 : Int32) c) (fun r1 c1 => F_Mod_packets_77 K x1 x2 r1 c1)
theorem T_Mod_packets_71 {E : x_E} {o : x_S} {Q : Int32 → x_H → Prop} {K : x_S → Option (Int32 × x_S)} (hK : ∀ {l1 : Option Value} {l2 : Option Value} {l3 : Option Value} {c : x_S} {r : Int32} {s : x_S}, K c = some (r, s) → Q r (hpk o s) → Ev E m_Mod_packets 0 0 0 [some (.ref 46), l1, l2, l3] [] (hpk o c) Q) {l3 : Option Value} {x1 x2 : Int32} {c : x_S} {r : Int32} {s : x_S} (hF : F_Mod_packets_71 K x1 x2 c = some (r, s)) (hQ : Q r (hpk o s)) : Ev E m_Mod_packets 0 0 71 [some (.ref 46), some (.int x1), some (.int x2), l3] [] (hpk o c) Q := by
  unfold F_Mod_packets_71 at hF
  refine Ev_aload_n d_Mod_packets_71 rfl ?_
  refine Ev_bipush (v := (13)) d_Mod_packets_72 (by decide) ?_
  obtain ⟨r1, c1, hC, hF⟩ := x_bind_some hF
  refine k_Mod_123 rfl d_Mod_packets_74 ⟨by decide, by decide⟩ (Nat.le_of_ble_eq_true rfl) ?_
  exact C_Mod_read hC (T_Mod_packets_77 (fun h1 h2 => hK h1 h2) hF hQ)
def F_Mod_packets_66 (K : x_S → Option (Int32 × x_S)) (x1 x2 s1 : Int32) (c : x_S) : Option (Int32 × x_S) := x_bind (F_Mod_check s1 (7 : Int32) c) (fun _ c1 => F_Mod_packets_71 K x1 x2 c1)
theorem T_Mod_packets_66 {E : x_E} {o : x_S} {Q : Int32 → x_H → Prop} {K : x_S → Option (Int32 × x_S)} (hK : ∀ {l1 : Option Value} {l2 : Option Value} {l3 : Option Value} {c : x_S} {r : Int32} {s : x_S}, K c = some (r, s) → Q r (hpk o s) → Ev E m_Mod_packets 0 0 0 [some (.ref 46), l1, l2, l3] [] (hpk o c) Q) {l3 : Option Value} {x1 x2 s1 : Int32} {c : x_S} {r : Int32} {s : x_S} (hF : F_Mod_packets_66 K x1 x2 s1 c = some (r, s)) (hQ : Q r (hpk o s)) : Ev E m_Mod_packets 0 0 66 [some (.ref 46), some (.int x1), some (.int x2), l3] [.int s1, .ref 46] (hpk o c) Q := by
  unfold F_Mod_packets_66 at hF
  refine Ev_bipush (v := (7)) d_Mod_packets_66 (by decide) ?_
  obtain ⟨r1, c1, hC, hF⟩ := x_bind_some hF
  refine k_Mod_130 rfl d_Mod_packets_68 ⟨by decide, by decide⟩ (Nat.le_of_ble_eq_true rfl) ?_
  exact C_Mod_check hC (T_Mod_packets_71 (fun h1 h2 => hK h1 h2) hF hQ)
def F_Mod_packets_61 (K : x_S → Option (Int32 × x_S)) (x1 x2 : Int32) (c : x_S) : Option (Int32 × x_S) := F_Mod_packets_66 K x1 x2 (1 : Int32) c
theorem T_Mod_packets_61 {E : x_E} {o : x_S} {Q : Int32 → x_H → Prop} {K : x_S → Option (Int32 × x_S)} (hK : ∀ {l1 : Option Value} {l2 : Option Value} {l3 : Option Value} {c : x_S} {r : Int32} {s : x_S}, K c = some (r, s) → Q r (hpk o s) → Ev E m_Mod_packets 0 0 0 [some (.ref 46), l1, l2, l3] [] (hpk o c) Q) {l3 : Option Value} {x1 x2 : Int32} {c : x_S} {r : Int32} {s : x_S} (hF : F_Mod_packets_61 K x1 x2 c = some (r, s)) (hQ : Q r (hpk o s)) : Ev E m_Mod_packets 0 0 61 [some (.ref 46), some (.int x1), some (.int x2), l3] [.ref 46] (hpk o c) Q := by
  unfold F_Mod_packets_61 at hF
  refine Ev_iconst (v := 1) d_Mod_packets_61 (by decide) ?_
  refine Ev_goto (tgt := 66) d_Mod_packets_62 rfl ?_
  exact T_Mod_packets_66 (fun h1 h2 => hK h1 h2) hF hQ
def F_Mod_packets_47 (K : x_S → Option (Int32 × x_S)) (x1 x2 : Int32) (c : x_S) : Option (Int32 × x_S) := if x2 < 0 then (F_Mod_packets_61 K x1 x2 c) else (x_ix x2 6 (fun j2 => if (c 60 j2) = 0 then (F_Mod_packets_61 K x1 x2 c) else (F_Mod_packets_66 K x1 x2 (0 : Int32) c)))
theorem T_Mod_packets_47 {E : x_E} {o : x_S} {Q : Int32 → x_H → Prop} {K : x_S → Option (Int32 × x_S)} (hK : ∀ {l1 : Option Value} {l2 : Option Value} {l3 : Option Value} {c : x_S} {r : Int32} {s : x_S}, K c = some (r, s) → Q r (hpk o s) → Ev E m_Mod_packets 0 0 0 [some (.ref 46), l1, l2, l3] [] (hpk o c) Q) {l3 : Option Value} {x1 x2 : Int32} {c : x_S} {r : Int32} {s : x_S} (hF : F_Mod_packets_47 K x1 x2 c = some (r, s)) (hQ : Q r (hpk o s)) : Ev E m_Mod_packets 0 0 47 [some (.ref 46), some (.int x1), some (.int x2), l3] [] (hpk o c) Q := by
  unfold F_Mod_packets_47 at hF
  refine Ev_aload_n d_Mod_packets_47 rfl ?_
  refine Ev_iload_n d_Mod_packets_48 rfl ?_
  refine Ev_if_lt (tgt := 61) d_Mod_packets_49 rfl (fun h1 => ?_) (fun h1 => ?_)
  · rw [if_pos h1] at hF
    exact T_Mod_packets_61 (fun h1 h2 => hK h1 h2) hF hQ
  · rw [if_neg h1] at hF
    refine Ev_aload_n d_Mod_packets_52 rfl ?_
    refine g_Mod_54 rfl d_Mod_packets_53 ?_
    refine Ev_iload_n d_Mod_packets_56 rfl ?_
    obtain ⟨j2, hij2, hjj2, hF⟩ := x_ix_some hF
    refine Em_zald d_Mod_packets_57 (P := 60) (by decide) rfl hij2 hjj2 ?_
    refine Ev_if_ne (tgt := 65) d_Mod_packets_58 rfl (fun h3 => ?_) (fun h3 => ?_)
    · rw [if_neg h3] at hF
      refine Ev_iconst (v := 0) d_Mod_packets_65 (by decide) ?_
      exact T_Mod_packets_66 (fun h1 h2 => hK h1 h2) hF hQ
    · rw [if_pos h3] at hF
      exact T_Mod_packets_61 (fun h1 h2 => hK h1 h2) hF hQ
def F_Mod_packets_43 (K : x_S → Option (Int32 × x_S)) (x1 x2 s1 : Int32) (c : x_S) : Option (Int32 × x_S) := x_bind (F_Mod_check s1 (4 : Int32) c) (fun _ c1 => F_Mod_packets_47 K x1 x2 c1)
theorem T_Mod_packets_43 {E : x_E} {o : x_S} {Q : Int32 → x_H → Prop} {K : x_S → Option (Int32 × x_S)} (hK : ∀ {l1 : Option Value} {l2 : Option Value} {l3 : Option Value} {c : x_S} {r : Int32} {s : x_S}, K c = some (r, s) → Q r (hpk o s) → Ev E m_Mod_packets 0 0 0 [some (.ref 46), l1, l2, l3] [] (hpk o c) Q) {l3 : Option Value} {x1 x2 s1 : Int32} {c : x_S} {r : Int32} {s : x_S} (hF : F_Mod_packets_43 K x1 x2 s1 c = some (r, s)) (hQ : Q r (hpk o s)) : Ev E m_Mod_packets 0 0 43 [some (.ref 46), some (.int x1), some (.int x2), l3] [.int s1, .ref 46] (hpk o c) Q := by
  unfold F_Mod_packets_43 at hF
  refine Ev_iconst (v := 4) d_Mod_packets_43 (by decide) ?_
  obtain ⟨r1, c1, hC, hF⟩ := x_bind_some hF
  refine k_Mod_130 rfl d_Mod_packets_44 ⟨by decide, by decide⟩ (Nat.le_of_ble_eq_true rfl) ?_
  exact C_Mod_check hC (T_Mod_packets_47 (fun h1 h2 => hK h1 h2) hF hQ)
def F_Mod_packets_32 (K : x_S → Option (Int32 × x_S)) (x1 s0 : Int32) (c : x_S) : Option (Int32 × x_S) := if s0 < 0 then (F_Mod_packets_43 K x1 s0 (0 : Int32) c) else (F_Mod_packets_43 K x1 s0 (1 : Int32) c)
theorem T_Mod_packets_32 {E : x_E} {o : x_S} {Q : Int32 → x_H → Prop} {K : x_S → Option (Int32 × x_S)} (hK : ∀ {l1 : Option Value} {l2 : Option Value} {l3 : Option Value} {c : x_S} {r : Int32} {s : x_S}, K c = some (r, s) → Q r (hpk o s) → Ev E m_Mod_packets 0 0 0 [some (.ref 46), l1, l2, l3] [] (hpk o c) Q) {l2 : Option Value} {l3 : Option Value} {x1 s0 : Int32} {c : x_S} {r : Int32} {s : x_S} (hF : F_Mod_packets_32 K x1 s0 c = some (r, s)) (hQ : Q r (hpk o s)) : Ev E m_Mod_packets 0 0 32 [some (.ref 46), some (.int x1), l2, l3] [.int s0] (hpk o c) Q := by
  unfold F_Mod_packets_32 at hF
  refine Ev_istore_n (L' := [some (.ref 46), some (.int x1), some (.int s0), l3]) d_Mod_packets_32 (by decide) rfl ?_
  refine Ev_aload_n d_Mod_packets_33 rfl ?_
  refine Ev_iload_n d_Mod_packets_34 rfl ?_
  refine Ev_if_lt (tgt := 42) d_Mod_packets_35 rfl (fun h1 => ?_) (fun h1 => ?_)
  · rw [if_pos h1] at hF
    refine Ev_iconst (v := 0) d_Mod_packets_42 (by decide) ?_
    exact T_Mod_packets_43 (fun h1 h2 => hK h1 h2) hF hQ
  · rw [if_neg h1] at hF
    refine Ev_iconst (v := 1) d_Mod_packets_38 (by decide) ?_
    refine Ev_goto (tgt := 43) d_Mod_packets_39 rfl ?_
    exact T_Mod_packets_43 (fun h1 h2 => hK h1 h2) hF hQ
def F_Mod_packets_29 (K : x_S → Option (Int32 × x_S)) (x1 s0 : Int32) (c : x_S) : Option (Int32 × x_S) := x_bind (F_Mod_slotOf s0 c) (fun r1 c1 => F_Mod_packets_32 K x1 r1 c1)
theorem T_Mod_packets_29 {E : x_E} {o : x_S} {Q : Int32 → x_H → Prop} {K : x_S → Option (Int32 × x_S)} (hK : ∀ {l1 : Option Value} {l2 : Option Value} {l3 : Option Value} {c : x_S} {r : Int32} {s : x_S}, K c = some (r, s) → Q r (hpk o s) → Ev E m_Mod_packets 0 0 0 [some (.ref 46), l1, l2, l3] [] (hpk o c) Q) {l2 : Option Value} {l3 : Option Value} {x1 s0 : Int32} {c : x_S} {r : Int32} {s : x_S} (hF : F_Mod_packets_29 K x1 s0 c = some (r, s)) (hQ : Q r (hpk o s)) : Ev E m_Mod_packets 0 0 29 [some (.ref 46), some (.int x1), l2, l3] [.int s0] (hpk o c) Q := by
  unfold F_Mod_packets_29 at hF
  obtain ⟨r1, c1, hC, hF⟩ := x_bind_some hF
  refine k_Mod_127 rfl d_Mod_packets_29 ⟨by decide, by decide⟩ (Nat.le_of_ble_eq_true rfl) ?_
  exact C_Mod_slotOf hC (T_Mod_packets_32 (fun h1 h2 => hK h1 h2) hF hQ)
def F_Mod_packets_0 : Nat → x_S → Option (Int32 × x_S)
  | 0, _ => none
  | n + 1, c => if (c 46 38) = 0 then (if (c 46 35) ≤ (c 46 37) then (F_Mod_packets_146 c) else (x_bind (F_Mod_read (8 : Int32) c) (fun r3 c3 => F_Mod_packets_29 (F_Mod_packets_0 n) (c 46 37) r3 c3))) else (F_Mod_packets_146 c)
theorem T_Mod_packets_0 {E : x_E} {o : x_S} {Q : Int32 → x_H → Prop} : ∀ (n : Nat) {l1 : Option Value} {l2 : Option Value} {l3 : Option Value} {c : x_S} {r : Int32} {s : x_S}, F_Mod_packets_0 n c = some (r, s) → Q r (hpk o s) → Ev E m_Mod_packets 0 0 0 [some (.ref 46), l1, l2, l3] [] (hpk o c) Q := by
  intro n
  induction n with
  | zero => intro l1 l2 l3 c r s hF; rw [F_Mod_packets_0] at hF; cases hF
  | succ n ih =>
    intro l1 l2 l3 c r s hF hQ
    rw [F_Mod_packets_0] at hF
    refine Ev_aload_n d_Mod_packets_0 rfl ?_
    refine g_Mod_117 rfl d_Mod_packets_1 ?_
    refine Ev_if_ne (tgt := 146) d_Mod_packets_4 rfl (fun h1 => ?_) (fun h1 => ?_)
    · rw [if_neg h1] at hF
      exact T_Mod_packets_146 hF hQ
    · rw [if_pos h1] at hF
      refine Ev_aload_n d_Mod_packets_7 rfl ?_
      refine g_Mod_120 rfl d_Mod_packets_8 ?_
      refine Ev_aload_n d_Mod_packets_11 rfl ?_
      refine g_Mod_114 rfl d_Mod_packets_12 ?_
      refine Ev_icmp_ge (tgt := 146) d_Mod_packets_15 rfl (fun h2 => ?_) (fun h2 => ?_)
      · rw [if_pos h2] at hF
        exact T_Mod_packets_146 hF hQ
      · rw [if_neg h2] at hF
        refine Ev_aload_n d_Mod_packets_18 rfl ?_
        refine g_Mod_120 rfl d_Mod_packets_19 ?_
        refine Ev_istore_n (L' := [some (.ref 46), some (.int (c 46 37)), l2, l3]) d_Mod_packets_22 (by decide) rfl ?_
        refine Ev_aload_n d_Mod_packets_23 rfl ?_
        refine Ev_bipush (v := (8)) d_Mod_packets_24 (by decide) ?_
        obtain ⟨r3, c3, hC, hF⟩ := x_bind_some hF
        refine k_Mod_123 rfl d_Mod_packets_26 ⟨by decide, by decide⟩ (Nat.le_of_ble_eq_true rfl) ?_
        exact C_Mod_read hC (T_Mod_packets_29 (fun h1 h2 => ih h1 h2) hF hQ)
def F_Mod_packets (c : x_S) : Option (Int32 × x_S) := F_Mod_packets_0 x_fuel c
theorem C_Mod_packets {E : x_E} {o : x_S} {Q : Int32 → x_H → Prop} {c : x_S} {r : Int32} {s : x_S} (hF : F_Mod_packets c = some (r, s)) (hQ : Q r (hpk o s)) : Call E m_Mod_packets 0 0 [.ref 46] (hpk o c) Q := by
  refine Call_of (L := [some (.ref 46), none, none, none]) (by decide) (by intro v hv; simp only [List.mem_cons, List.not_mem_nil, or_false] at hv; rw [hv]; rfl) (Nat.le_of_ble_eq_true rfl) rfl ?_
  unfold F_Mod_packets at hF
  exact T_Mod_packets_0 x_fuel hF hQ
def F_Mod_least_168 (K : Int32 → Int32 → Int32 → Int32 → x_S → Option (Int32 × x_S)) (x1 x2 x4 s0 : Int32) (c : x_S) : Option (Int32 × x_S) := K x1 x2 s0 (x4 + (1 : Int32)) c
theorem T_Mod_least_168 {E : x_E} {o : x_S} {Q : Int32 → x_H → Prop} {K : Int32 → Int32 → Int32 → Int32 → x_S → Option (Int32 × x_S)} (hK : ∀ {l5 : Option Value} {x1 x2 x3 x4 : Int32} {c : x_S} {r : Int32} {s : x_S}, K x1 x2 x3 x4 c = some (r, s) → Q r (hpk o s) → Ev E m_Mod_least 0 0 95 [some (.ref 46), some (.int x1), some (.int x2), some (.int x3), some (.int x4), l5] [] (hpk o c) Q) {l3 : Option Value} {l5 : Option Value} {x1 x2 x4 s0 : Int32} {c : x_S} {r : Int32} {s : x_S} (hF : F_Mod_least_168 K x1 x2 x4 s0 c = some (r, s)) (hQ : Q r (hpk o s)) : Ev E m_Mod_least 0 0 168 [some (.ref 46), some (.int x1), some (.int x2), l3, some (.int x4), l5] [.int s0] (hpk o c) Q := by
  unfold F_Mod_least_168 at hF
  refine Ev_istore_n (L' := [some (.ref 46), some (.int x1), some (.int x2), some (.int s0), some (.int x4), l5]) d_Mod_least_168 (by decide) rfl ?_
  refine Ev_iinc (v := (x4 + (1 : Int32))) (L' := [some (.ref 46), some (.int x1), some (.int x2), some (.int s0), some (.int (x4 + (1 : Int32))), l5]) d_Mod_least_169 rfl rfl (by decide) rfl ?_
  refine Ev_goto (tgt := 95) d_Mod_least_172 rfl ?_
  exact hK hF hQ
def F_Mod_least_167 (K : Int32 → Int32 → Int32 → Int32 → x_S → Option (Int32 × x_S)) (x1 x2 x3 x4 : Int32) (c : x_S) : Option (Int32 × x_S) := F_Mod_least_168 K x1 x2 x4 x3 c
theorem T_Mod_least_167 {E : x_E} {o : x_S} {Q : Int32 → x_H → Prop} {K : Int32 → Int32 → Int32 → Int32 → x_S → Option (Int32 × x_S)} (hK : ∀ {l5 : Option Value} {x1 x2 x3 x4 : Int32} {c : x_S} {r : Int32} {s : x_S}, K x1 x2 x3 x4 c = some (r, s) → Q r (hpk o s) → Ev E m_Mod_least 0 0 95 [some (.ref 46), some (.int x1), some (.int x2), some (.int x3), some (.int x4), l5] [] (hpk o c) Q) {l5 : Option Value} {x1 x2 x3 x4 : Int32} {c : x_S} {r : Int32} {s : x_S} (hF : F_Mod_least_167 K x1 x2 x3 x4 c = some (r, s)) (hQ : Q r (hpk o s)) : Ev E m_Mod_least 0 0 167 [some (.ref 46), some (.int x1), some (.int x2), some (.int x3), some (.int x4), l5] [] (hpk o c) Q := by
  unfold F_Mod_least_167 at hF
  refine Ev_iload_n d_Mod_least_167 rfl ?_
  exact T_Mod_least_168 (fun h1 h2 => hK h1 h2) hF hQ
def F_Mod_least_139 (K : Int32 → Int32 → Int32 → Int32 → x_S → Option (Int32 × x_S)) (x1 x2 x3 x4 s0 : Int32) (c : x_S) : Option (Int32 × x_S) := if s0 = 0 then (F_Mod_least_167 K x1 x2 x3 x4 c) else (x_ix x4 6 (fun j2 => if x3 ≤ (c 58 j2) then (F_Mod_least_167 K x1 x2 x3 x4 c) else (x_ix x4 6 (fun j4 => F_Mod_least_168 K x1 x2 x4 (c 58 j4) c))))
theorem T_Mod_least_139 {E : x_E} {o : x_S} {Q : Int32 → x_H → Prop} {K : Int32 → Int32 → Int32 → Int32 → x_S → Option (Int32 × x_S)} (hK : ∀ {l5 : Option Value} {x1 x2 x3 x4 : Int32} {c : x_S} {r : Int32} {s : x_S}, K x1 x2 x3 x4 c = some (r, s) → Q r (hpk o s) → Ev E m_Mod_least 0 0 95 [some (.ref 46), some (.int x1), some (.int x2), some (.int x3), some (.int x4), l5] [] (hpk o c) Q) {l5 : Option Value} {x1 x2 x3 x4 s0 : Int32} {c : x_S} {r : Int32} {s : x_S} (hF : F_Mod_least_139 K x1 x2 x3 x4 s0 c = some (r, s)) (hQ : Q r (hpk o s)) : Ev E m_Mod_least 0 0 139 [some (.ref 46), some (.int x1), some (.int x2), some (.int x3), some (.int x4), l5] [.int s0] (hpk o c) Q := by
  unfold F_Mod_least_139 at hF
  refine Ev_istore (L' := [some (.ref 46), some (.int x1), some (.int x2), some (.int x3), some (.int x4), some (.int s0)]) d_Mod_least_139 (by decide) rfl ?_
  refine Ev_iload d_Mod_least_141 rfl ?_
  refine Ev_if_eq (tgt := 167) d_Mod_least_143 rfl (fun h1 => ?_) (fun h1 => ?_)
  · rw [if_pos h1] at hF
    exact T_Mod_least_167 (fun h1 h2 => hK h1 h2) hF hQ
  · rw [if_neg h1] at hF
    refine Ev_aload_n d_Mod_least_146 rfl ?_
    refine g_Mod_44 rfl d_Mod_least_147 ?_
    refine Ev_iload d_Mod_least_150 rfl ?_
    obtain ⟨j2, hij2, hjj2, hF⟩ := x_ix_some hF
    refine Em_iald d_Mod_least_152 (P := 58) (by decide) rfl hij2 hjj2 ?_
    refine Ev_iload_n d_Mod_least_153 rfl ?_
    refine Ev_icmp_ge (tgt := 167) d_Mod_least_154 rfl (fun h3 => ?_) (fun h3 => ?_)
    · rw [if_pos h3] at hF
      exact T_Mod_least_167 (fun h1 h2 => hK h1 h2) hF hQ
    · rw [if_neg h3] at hF
      refine Ev_aload_n d_Mod_least_157 rfl ?_
      refine g_Mod_44 rfl d_Mod_least_158 ?_
      refine Ev_iload d_Mod_least_161 rfl ?_
      obtain ⟨j4, hij4, hjj4, hF⟩ := x_ix_some hF
      refine Em_iald d_Mod_least_163 (P := 58) (by decide) rfl hij4 hjj4 ?_
      refine Ev_goto (tgt := 168) d_Mod_least_164 rfl ?_
      exact T_Mod_least_168 (fun h1 h2 => hK h1 h2) hF hQ
def F_Mod_least_138 (K : Int32 → Int32 → Int32 → Int32 → x_S → Option (Int32 × x_S)) (x1 x2 x3 x4 : Int32) (c : x_S) : Option (Int32 × x_S) := F_Mod_least_139 K x1 x2 x3 x4 (0 : Int32) c
theorem T_Mod_least_138 {E : x_E} {o : x_S} {Q : Int32 → x_H → Prop} {K : Int32 → Int32 → Int32 → Int32 → x_S → Option (Int32 × x_S)} (hK : ∀ {l5 : Option Value} {x1 x2 x3 x4 : Int32} {c : x_S} {r : Int32} {s : x_S}, K x1 x2 x3 x4 c = some (r, s) → Q r (hpk o s) → Ev E m_Mod_least 0 0 95 [some (.ref 46), some (.int x1), some (.int x2), some (.int x3), some (.int x4), l5] [] (hpk o c) Q) {l5 : Option Value} {x1 x2 x3 x4 : Int32} {c : x_S} {r : Int32} {s : x_S} (hF : F_Mod_least_138 K x1 x2 x3 x4 c = some (r, s)) (hQ : Q r (hpk o s)) : Ev E m_Mod_least 0 0 138 [some (.ref 46), some (.int x1), some (.int x2), some (.int x3), some (.int x4), l5] [] (hpk o c) Q := by
  unfold F_Mod_least_138 at hF
  refine Ev_iconst (v := 0) d_Mod_least_138 (by decide) ?_
  exact T_Mod_least_139 (fun h1 h2 => hK h1 h2) hF hQ
def F_Mod_least_95 : Nat → Int32 → Int32 → Int32 → Int32 → x_S → Option (Int32 × x_S)
  | 0, _, _, _, _, _ => none
  | n + 1, x1, x2, x3, x4, c => if (c 46 24) ≤ x4 then (some (x3, c)) else (x_ix x4 6 (fun j2 => if x2 < (c 56 j2) then (F_Mod_least_138 (F_Mod_least_95 n) x1 x2 x3 x4 c) else (x_ix x4 6 (fun j4 => x_ix x4 6 (fun j5 => if ((c 56 j4) + (c 57 j5)) ≤ x1 then (F_Mod_least_138 (F_Mod_least_95 n) x1 x2 x3 x4 c) else (F_Mod_least_139 (F_Mod_least_95 n) x1 x2 x3 x4 (1 : Int32) c))))))
theorem T_Mod_least_95 {E : x_E} {o : x_S} {Q : Int32 → x_H → Prop} : ∀ (n : Nat) {l5 : Option Value} {x1 x2 x3 x4 : Int32} {c : x_S} {r : Int32} {s : x_S}, F_Mod_least_95 n x1 x2 x3 x4 c = some (r, s) → Q r (hpk o s) → Ev E m_Mod_least 0 0 95 [some (.ref 46), some (.int x1), some (.int x2), some (.int x3), some (.int x4), l5] [] (hpk o c) Q := by
  intro n
  induction n with
  | zero => intro l5 x1 x2 x3 x4 c r s hF; rw [F_Mod_least_95] at hF; cases hF
  | succ n ih =>
    intro l5 x1 x2 x3 x4 c r s hF hQ
    rw [F_Mod_least_95] at hF
    refine Ev_iload d_Mod_least_95 rfl ?_
    refine Ev_aload_n d_Mod_least_97 rfl ?_
    refine g_Mod_171 rfl d_Mod_least_98 ?_
    refine Ev_icmp_ge (tgt := 175) d_Mod_least_101 rfl (fun h1 => ?_) (fun h1 => ?_)
    · rw [if_pos h1] at hF
      refine Ev_iload_n d_Mod_least_175 rfl ?_
      cases hF
      exact Ev_ireturn d_Mod_least_176 rfl hQ
    · rw [if_neg h1] at hF
      refine Ev_aload_n d_Mod_least_104 rfl ?_
      refine g_Mod_38 rfl d_Mod_least_105 ?_
      refine Ev_iload d_Mod_least_108 rfl ?_
      obtain ⟨j2, hij2, hjj2, hF⟩ := x_ix_some hF
      refine Em_iald d_Mod_least_110 (P := 56) (by decide) rfl hij2 hjj2 ?_
      refine Ev_iload_n d_Mod_least_111 rfl ?_
      refine Ev_icmp_gt (tgt := 138) d_Mod_least_112 rfl (fun h3 => ?_) (fun h3 => ?_)
      · rw [if_pos h3] at hF
        exact T_Mod_least_138 (fun h1 h2 => ih h1 h2) hF hQ
      · rw [if_neg h3] at hF
        refine Ev_aload_n d_Mod_least_115 rfl ?_
        refine g_Mod_38 rfl d_Mod_least_116 ?_
        refine Ev_iload d_Mod_least_119 rfl ?_
        obtain ⟨j4, hij4, hjj4, hF⟩ := x_ix_some hF
        refine Em_iald d_Mod_least_121 (P := 56) (by decide) rfl hij4 hjj4 ?_
        refine Ev_aload_n d_Mod_least_122 rfl ?_
        refine g_Mod_41 rfl d_Mod_least_123 ?_
        refine Ev_iload d_Mod_least_126 rfl ?_
        obtain ⟨j5, hij5, hjj5, hF⟩ := x_ix_some hF
        refine Em_iald d_Mod_least_128 (P := 57) (by decide) rfl hij5 hjj5 ?_
        refine Ev_iadd d_Mod_least_129 ?_
        refine Ev_iload_n d_Mod_least_130 rfl ?_
        refine Ev_icmp_le (tgt := 138) d_Mod_least_131 rfl (fun h6 => ?_) (fun h6 => ?_)
        · rw [if_pos h6] at hF
          exact T_Mod_least_138 (fun h1 h2 => ih h1 h2) hF hQ
        · rw [if_neg h6] at hF
          refine Ev_iconst (v := 1) d_Mod_least_134 (by decide) ?_
          refine Ev_goto (tgt := 139) d_Mod_least_135 rfl ?_
          exact T_Mod_least_139 (fun h1 h2 => ih h1 h2) hF hQ
def F_Mod_least_85 (K : Int32 → Int32 → Int32 → Int32 → x_S → Option (Int32 × x_S)) (x1 x2 x4 s0 : Int32) (c : x_S) : Option (Int32 × x_S) := K x1 x2 s0 (x4 + (1 : Int32)) c
theorem T_Mod_least_85 {E : x_E} {o : x_S} {Q : Int32 → x_H → Prop} {K : Int32 → Int32 → Int32 → Int32 → x_S → Option (Int32 × x_S)} (hK : ∀ {l5 : Option Value} {x1 x2 x3 x4 : Int32} {c : x_S} {r : Int32} {s : x_S}, K x1 x2 x3 x4 c = some (r, s) → Q r (hpk o s) → Ev E m_Mod_least 0 0 7 [some (.ref 46), some (.int x1), some (.int x2), some (.int x3), some (.int x4), l5] [] (hpk o c) Q) {l3 : Option Value} {l5 : Option Value} {x1 x2 x4 s0 : Int32} {c : x_S} {r : Int32} {s : x_S} (hF : F_Mod_least_85 K x1 x2 x4 s0 c = some (r, s)) (hQ : Q r (hpk o s)) : Ev E m_Mod_least 0 0 85 [some (.ref 46), some (.int x1), some (.int x2), l3, some (.int x4), l5] [.int s0] (hpk o c) Q := by
  unfold F_Mod_least_85 at hF
  refine Ev_istore_n (L' := [some (.ref 46), some (.int x1), some (.int x2), some (.int s0), some (.int x4), l5]) d_Mod_least_85 (by decide) rfl ?_
  refine Ev_iinc (v := (x4 + (1 : Int32))) (L' := [some (.ref 46), some (.int x1), some (.int x2), some (.int s0), some (.int (x4 + (1 : Int32))), l5]) d_Mod_least_86 rfl rfl (by decide) rfl ?_
  refine Ev_goto (tgt := 7) d_Mod_least_89 rfl ?_
  exact hK hF hQ
def F_Mod_least_84 (K : Int32 → Int32 → Int32 → Int32 → x_S → Option (Int32 × x_S)) (x1 x2 x3 x4 : Int32) (c : x_S) : Option (Int32 × x_S) := F_Mod_least_85 K x1 x2 x4 x3 c
theorem T_Mod_least_84 {E : x_E} {o : x_S} {Q : Int32 → x_H → Prop} {K : Int32 → Int32 → Int32 → Int32 → x_S → Option (Int32 × x_S)} (hK : ∀ {l5 : Option Value} {x1 x2 x3 x4 : Int32} {c : x_S} {r : Int32} {s : x_S}, K x1 x2 x3 x4 c = some (r, s) → Q r (hpk o s) → Ev E m_Mod_least 0 0 7 [some (.ref 46), some (.int x1), some (.int x2), some (.int x3), some (.int x4), l5] [] (hpk o c) Q) {l5 : Option Value} {x1 x2 x3 x4 : Int32} {c : x_S} {r : Int32} {s : x_S} (hF : F_Mod_least_84 K x1 x2 x3 x4 c = some (r, s)) (hQ : Q r (hpk o s)) : Ev E m_Mod_least 0 0 84 [some (.ref 46), some (.int x1), some (.int x2), some (.int x3), some (.int x4), l5] [] (hpk o c) Q := by
  unfold F_Mod_least_84 at hF
  refine Ev_iload_n d_Mod_least_84 rfl ?_
  exact T_Mod_least_85 (fun h1 h2 => hK h1 h2) hF hQ
def F_Mod_least_56 (K : Int32 → Int32 → Int32 → Int32 → x_S → Option (Int32 × x_S)) (x1 x2 x3 x4 s0 : Int32) (c : x_S) : Option (Int32 × x_S) := if s0 = 0 then (F_Mod_least_84 K x1 x2 x3 x4 c) else (x_ix x4 7 (fun j2 => if x3 ≤ (c 48 j2) then (F_Mod_least_84 K x1 x2 x3 x4 c) else (x_ix x4 7 (fun j4 => F_Mod_least_85 K x1 x2 x4 (c 48 j4) c))))
theorem T_Mod_least_56 {E : x_E} {o : x_S} {Q : Int32 → x_H → Prop} {K : Int32 → Int32 → Int32 → Int32 → x_S → Option (Int32 × x_S)} (hK : ∀ {l5 : Option Value} {x1 x2 x3 x4 : Int32} {c : x_S} {r : Int32} {s : x_S}, K x1 x2 x3 x4 c = some (r, s) → Q r (hpk o s) → Ev E m_Mod_least 0 0 7 [some (.ref 46), some (.int x1), some (.int x2), some (.int x3), some (.int x4), l5] [] (hpk o c) Q) {l5 : Option Value} {x1 x2 x3 x4 s0 : Int32} {c : x_S} {r : Int32} {s : x_S} (hF : F_Mod_least_56 K x1 x2 x3 x4 s0 c = some (r, s)) (hQ : Q r (hpk o s)) : Ev E m_Mod_least 0 0 56 [some (.ref 46), some (.int x1), some (.int x2), some (.int x3), some (.int x4), l5] [.int s0] (hpk o c) Q := by
  unfold F_Mod_least_56 at hF
  refine Ev_istore (L' := [some (.ref 46), some (.int x1), some (.int x2), some (.int x3), some (.int x4), some (.int s0)]) d_Mod_least_56 (by decide) rfl ?_
  refine Ev_iload d_Mod_least_58 rfl ?_
  refine Ev_if_eq (tgt := 84) d_Mod_least_60 rfl (fun h1 => ?_) (fun h1 => ?_)
  · rw [if_pos h1] at hF
    exact T_Mod_least_84 (fun h1 h2 => hK h1 h2) hF hQ
  · rw [if_neg h1] at hF
    refine Ev_aload_n d_Mod_least_63 rfl ?_
    refine g_Mod_13 rfl d_Mod_least_64 ?_
    refine Ev_iload d_Mod_least_67 rfl ?_
    obtain ⟨j2, hij2, hjj2, hF⟩ := x_ix_some hF
    refine Em_iald d_Mod_least_69 (P := 48) (by decide) rfl hij2 hjj2 ?_
    refine Ev_iload_n d_Mod_least_70 rfl ?_
    refine Ev_icmp_ge (tgt := 84) d_Mod_least_71 rfl (fun h3 => ?_) (fun h3 => ?_)
    · rw [if_pos h3] at hF
      exact T_Mod_least_84 (fun h1 h2 => hK h1 h2) hF hQ
    · rw [if_neg h3] at hF
      refine Ev_aload_n d_Mod_least_74 rfl ?_
      refine g_Mod_13 rfl d_Mod_least_75 ?_
      refine Ev_iload d_Mod_least_78 rfl ?_
      obtain ⟨j4, hij4, hjj4, hF⟩ := x_ix_some hF
      refine Em_iald d_Mod_least_80 (P := 48) (by decide) rfl hij4 hjj4 ?_
      refine Ev_goto (tgt := 85) d_Mod_least_81 rfl ?_
      exact T_Mod_least_85 (fun h1 h2 => hK h1 h2) hF hQ
def F_Mod_least_55 (K : Int32 → Int32 → Int32 → Int32 → x_S → Option (Int32 × x_S)) (x1 x2 x3 x4 : Int32) (c : x_S) : Option (Int32 × x_S) := F_Mod_least_56 K x1 x2 x3 x4 (0 : Int32) c
theorem T_Mod_least_55 {E : x_E} {o : x_S} {Q : Int32 → x_H → Prop} {K : Int32 → Int32 → Int32 → Int32 → x_S → Option (Int32 × x_S)} (hK : ∀ {l5 : Option Value} {x1 x2 x3 x4 : Int32} {c : x_S} {r : Int32} {s : x_S}, K x1 x2 x3 x4 c = some (r, s) → Q r (hpk o s) → Ev E m_Mod_least 0 0 7 [some (.ref 46), some (.int x1), some (.int x2), some (.int x3), some (.int x4), l5] [] (hpk o c) Q) {l5 : Option Value} {x1 x2 x3 x4 : Int32} {c : x_S} {r : Int32} {s : x_S} (hF : F_Mod_least_55 K x1 x2 x3 x4 c = some (r, s)) (hQ : Q r (hpk o s)) : Ev E m_Mod_least 0 0 55 [some (.ref 46), some (.int x1), some (.int x2), some (.int x3), some (.int x4), l5] [] (hpk o c) Q := by
  unfold F_Mod_least_55 at hF
  refine Ev_iconst (v := 0) d_Mod_least_55 (by decide) ?_
  exact T_Mod_least_56 (fun h1 h2 => hK h1 h2) hF hQ
def F_Mod_least_51 (K : Int32 → Int32 → Int32 → Int32 → x_S → Option (Int32 × x_S)) (x1 x2 x3 x4 : Int32) (c : x_S) : Option (Int32 × x_S) := F_Mod_least_56 K x1 x2 x3 x4 (1 : Int32) c
theorem T_Mod_least_51 {E : x_E} {o : x_S} {Q : Int32 → x_H → Prop} {K : Int32 → Int32 → Int32 → Int32 → x_S → Option (Int32 × x_S)} (hK : ∀ {l5 : Option Value} {x1 x2 x3 x4 : Int32} {c : x_S} {r : Int32} {s : x_S}, K x1 x2 x3 x4 c = some (r, s) → Q r (hpk o s) → Ev E m_Mod_least 0 0 7 [some (.ref 46), some (.int x1), some (.int x2), some (.int x3), some (.int x4), l5] [] (hpk o c) Q) {l5 : Option Value} {x1 x2 x3 x4 : Int32} {c : x_S} {r : Int32} {s : x_S} (hF : F_Mod_least_51 K x1 x2 x3 x4 c = some (r, s)) (hQ : Q r (hpk o s)) : Ev E m_Mod_least 0 0 51 [some (.ref 46), some (.int x1), some (.int x2), some (.int x3), some (.int x4), l5] [] (hpk o c) Q := by
  unfold F_Mod_least_51 at hF
  refine Ev_iconst (v := 1) d_Mod_least_51 (by decide) ?_
  refine Ev_goto (tgt := 56) d_Mod_least_52 rfl ?_
  exact T_Mod_least_56 (fun h1 h2 => hK h1 h2) hF hQ
def F_Mod_least_7 : Nat → Int32 → Int32 → Int32 → Int32 → x_S → Option (Int32 × x_S)
  | 0, _, _, _, _, _ => none
  | n + 1, x1, x2, x3, x4, c => if (c 46 13) ≤ x4 then (F_Mod_least_95 x_fuel x1 x2 x3 (0 : Int32) c) else (x_ix x4 7 (fun j2 => if x2 < (c 47 j2) then (F_Mod_least_55 (F_Mod_least_7 n) x1 x2 x3 x4 c) else (if (x4 + (1 : Int32)) = (c 46 13) then (F_Mod_least_51 (F_Mod_least_7 n) x1 x2 x3 x4 c) else (x_ix (x4 + (1 : Int32)) 7 (fun j5 => if (c 47 j5) ≤ x1 then (F_Mod_least_55 (F_Mod_least_7 n) x1 x2 x3 x4 c) else (F_Mod_least_51 (F_Mod_least_7 n) x1 x2 x3 x4 c))))))
theorem T_Mod_least_7 {E : x_E} {o : x_S} {Q : Int32 → x_H → Prop} : ∀ (n : Nat) {l5 : Option Value} {x1 x2 x3 x4 : Int32} {c : x_S} {r : Int32} {s : x_S}, F_Mod_least_7 n x1 x2 x3 x4 c = some (r, s) → Q r (hpk o s) → Ev E m_Mod_least 0 0 7 [some (.ref 46), some (.int x1), some (.int x2), some (.int x3), some (.int x4), l5] [] (hpk o c) Q := by
  intro n
  induction n with
  | zero => intro l5 x1 x2 x3 x4 c r s hF; rw [F_Mod_least_7] at hF; cases hF
  | succ n ih =>
    intro l5 x1 x2 x3 x4 c r s hF hQ
    rw [F_Mod_least_7] at hF
    refine Ev_iload d_Mod_least_7 rfl ?_
    refine Ev_aload_n d_Mod_least_9 rfl ?_
    refine g_Mod_92 rfl d_Mod_least_10 ?_
    refine Ev_icmp_ge (tgt := 92) d_Mod_least_13 rfl (fun h1 => ?_) (fun h1 => ?_)
    · rw [if_pos h1] at hF
      refine Ev_iconst (v := 0) d_Mod_least_92 (by decide) ?_
      refine Ev_istore (L' := [some (.ref 46), some (.int x1), some (.int x2), some (.int x3), some (.int (0 : Int32)), l5]) d_Mod_least_93 (by decide) rfl ?_
      exact T_Mod_least_95 x_fuel hF hQ
    · rw [if_neg h1] at hF
      refine Ev_aload_n d_Mod_least_16 rfl ?_
      refine g_Mod_7 rfl d_Mod_least_17 ?_
      refine Ev_iload d_Mod_least_20 rfl ?_
      obtain ⟨j2, hij2, hjj2, hF⟩ := x_ix_some hF
      refine Em_iald d_Mod_least_22 (P := 47) (by decide) rfl hij2 hjj2 ?_
      refine Ev_iload_n d_Mod_least_23 rfl ?_
      refine Ev_icmp_gt (tgt := 55) d_Mod_least_24 rfl (fun h3 => ?_) (fun h3 => ?_)
      · rw [if_pos h3] at hF
        exact T_Mod_least_55 (fun h1 h2 => ih h1 h2) hF hQ
      · rw [if_neg h3] at hF
        refine Ev_iload d_Mod_least_27 rfl ?_
        refine Ev_iconst (v := 1) d_Mod_least_29 (by decide) ?_
        refine Ev_iadd d_Mod_least_30 ?_
        refine Ev_aload_n d_Mod_least_31 rfl ?_
        refine g_Mod_92 rfl d_Mod_least_32 ?_
        refine Ev_icmp_eq (tgt := 51) d_Mod_least_35 rfl (fun h4 => ?_) (fun h4 => ?_)
        · rw [if_pos h4] at hF
          exact T_Mod_least_51 (fun h1 h2 => ih h1 h2) hF hQ
        · rw [if_neg h4] at hF
          refine Ev_aload_n d_Mod_least_38 rfl ?_
          refine g_Mod_7 rfl d_Mod_least_39 ?_
          refine Ev_iload d_Mod_least_42 rfl ?_
          refine Ev_iconst (v := 1) d_Mod_least_44 (by decide) ?_
          refine Ev_iadd d_Mod_least_45 ?_
          obtain ⟨j5, hij5, hjj5, hF⟩ := x_ix_some hF
          refine Em_iald d_Mod_least_46 (P := 47) (by decide) rfl hij5 hjj5 ?_
          refine Ev_iload_n d_Mod_least_47 rfl ?_
          refine Ev_icmp_le (tgt := 55) d_Mod_least_48 rfl (fun h6 => ?_) (fun h6 => ?_)
          · rw [if_pos h6] at hF
            exact T_Mod_least_55 (fun h1 h2 => ih h1 h2) hF hQ
          · rw [if_neg h6] at hF
            exact T_Mod_least_51 (fun h1 h2 => ih h1 h2) hF hQ
def F_Mod_least (x1 x2 : Int32) (c : x_S) : Option (Int32 × x_S) := F_Mod_least_7 x_fuel x1 x2 (600 : Int32) (0 : Int32) c
theorem C_Mod_least {E : x_E} {o : x_S} {Q : Int32 → x_H → Prop} {x1 x2 : Int32} {c : x_S} {r : Int32} {s : x_S} (hF : F_Mod_least x1 x2 c = some (r, s)) (hQ : Q r (hpk o s)) : Call E m_Mod_least 0 0 [.ref 46, .int x1, .int x2] (hpk o c) Q := by
  refine Call_of (L := [some (.ref 46), some (.int x1), some (.int x2), none, none, none]) (by decide) (by intro v hv; simp only [List.mem_cons, List.not_mem_nil, or_false] at hv; rcases hv with rfl | rfl | rfl <;> rfl) (Nat.le_of_ble_eq_true rfl) rfl ?_
  unfold F_Mod_least at hF
  refine Ev_sipush (v := (600)) d_Mod_least_0 (by decide) ?_
  refine Ev_istore_n (L' := [some (.ref 46), some (.int x1), some (.int x2), some (.int (600 : Int32)), none, none]) d_Mod_least_3 (by decide) rfl ?_
  refine Ev_iconst (v := 0) d_Mod_least_4 (by decide) ?_
  refine Ev_istore (L' := [some (.ref 46), some (.int x1), some (.int x2), some (.int (600 : Int32)), some (.int (0 : Int32)), none]) d_Mod_least_5 (by decide) rfl ?_
  exact T_Mod_least_7 x_fuel hF hQ
def F_Mod_ceiling_60 (s0 : Int32) (c : x_S) : Option (Int32 × x_S) := some (s0, c)
theorem T_Mod_ceiling_60 {E : x_E} {o : x_S} {Q : Int32 → x_H → Prop} {l0 : Option Value} {l1 : Option Value} {s0 : Int32} {c : x_S} {r : Int32} {s : x_S} (hF : F_Mod_ceiling_60 s0 c = some (r, s)) (hQ : Q r (hpk o s)) : Ev E m_Mod_ceiling 0 0 60 [l0, l1] [.int s0] (hpk o c) Q := by
  unfold F_Mod_ceiling_60 at hF
  cases hF
  exact Ev_ireturn d_Mod_ceiling_60 rfl hQ
def F_Mod_ceiling_59 (x1 : Int32) (c : x_S) : Option (Int32 × x_S) := F_Mod_ceiling_60 x1 c
theorem T_Mod_ceiling_59 {E : x_E} {o : x_S} {Q : Int32 → x_H → Prop} {l0 : Option Value} {x1 : Int32} {c : x_S} {r : Int32} {s : x_S} (hF : F_Mod_ceiling_59 x1 c = some (r, s)) (hQ : Q r (hpk o s)) : Ev E m_Mod_ceiling 0 0 59 [l0, some (.int x1)] [] (hpk o c) Q := by
  unfold F_Mod_ceiling_59 at hF
  refine Ev_iload_n d_Mod_ceiling_59 rfl ?_
  exact T_Mod_ceiling_60 hF hQ
def F_Mod_ceiling_39 (s0 : Int32) (c : x_S) : Option (Int32 × x_S) := if (c 46 6) = (3 : Int32) then (if s0 ≤ (60 : Int32) then (F_Mod_ceiling_59 s0 c) else (F_Mod_ceiling_60 (60 : Int32) c)) else (F_Mod_ceiling_59 s0 c)
theorem T_Mod_ceiling_39 {E : x_E} {o : x_S} {Q : Int32 → x_H → Prop} {l1 : Option Value} {s0 : Int32} {c : x_S} {r : Int32} {s : x_S} (hF : F_Mod_ceiling_39 s0 c = some (r, s)) (hQ : Q r (hpk o s)) : Ev E m_Mod_ceiling 0 0 39 [some (.ref 46), l1] [.int s0] (hpk o c) Q := by
  unfold F_Mod_ceiling_39 at hF
  refine Ev_istore_n (L' := [some (.ref 46), some (.int s0)]) d_Mod_ceiling_39 (by decide) rfl ?_
  refine Ev_aload_n d_Mod_ceiling_40 rfl ?_
  refine g_Mod_81 rfl d_Mod_ceiling_41 ?_
  refine Ev_iconst (v := 3) d_Mod_ceiling_44 (by decide) ?_
  refine Ev_icmp_ne (tgt := 59) d_Mod_ceiling_45 rfl (fun h1 => ?_) (fun h1 => ?_)
  · rw [if_neg h1] at hF
    exact T_Mod_ceiling_59 hF hQ
  · rw [if_pos h1] at hF
    refine Ev_iload_n d_Mod_ceiling_48 rfl ?_
    refine Ev_bipush (v := (60)) d_Mod_ceiling_49 (by decide) ?_
    refine Ev_icmp_le (tgt := 59) d_Mod_ceiling_51 rfl (fun h2 => ?_) (fun h2 => ?_)
    · rw [if_pos h2] at hF
      exact T_Mod_ceiling_59 hF hQ
    · rw [if_neg h2] at hF
      refine Ev_bipush (v := (60)) d_Mod_ceiling_54 (by decide) ?_
      refine Ev_goto (tgt := 60) d_Mod_ceiling_56 rfl ?_
      exact T_Mod_ceiling_60 hF hQ
def F_Mod_ceiling_21 (s0 : Int32) (c : x_S) : Option (Int32 × x_S) := some (s0, c)
theorem T_Mod_ceiling_21 {E : x_E} {o : x_S} {Q : Int32 → x_H → Prop} {l0 : Option Value} {l1 : Option Value} {s0 : Int32} {c : x_S} {r : Int32} {s : x_S} (hF : F_Mod_ceiling_21 s0 c = some (r, s)) (hQ : Q r (hpk o s)) : Ev E m_Mod_ceiling 0 0 21 [l0, l1] [.int s0] (hpk o c) Q := by
  unfold F_Mod_ceiling_21 at hF
  cases hF
  exact Ev_ireturn d_Mod_ceiling_21 rfl hQ
def F_Mod_ceiling_4 (s0 : Int32) (c : x_S) : Option (Int32 × x_S) := if s0 = 0 then (if (c 46 6) = (1 : Int32) then (F_Mod_ceiling_21 (80 : Int32) c) else (F_Mod_ceiling_21 (0 : Int32) c)) else (x_bind (F_Mod_least ((c 46 3) - (c 46 2)) (c 46 4) c) (fun r2 c2 => F_Mod_ceiling_39 r2 c2))
theorem T_Mod_ceiling_4 {E : x_E} {o : x_S} {Q : Int32 → x_H → Prop} {l1 : Option Value} {s0 : Int32} {c : x_S} {r : Int32} {s : x_S} (hF : F_Mod_ceiling_4 s0 c = some (r, s)) (hQ : Q r (hpk o s)) : Ev E m_Mod_ceiling 0 0 4 [some (.ref 46), l1] [.int s0] (hpk o c) Q := by
  unfold F_Mod_ceiling_4 at hF
  refine Ev_if_ne (tgt := 22) d_Mod_ceiling_4 rfl (fun h1 => ?_) (fun h1 => ?_)
  · rw [if_neg h1] at hF
    refine Ev_aload_n d_Mod_ceiling_22 rfl ?_
    refine Ev_aload_n d_Mod_ceiling_23 rfl ?_
    refine g_Mod_189 rfl d_Mod_ceiling_24 ?_
    refine Ev_aload_n d_Mod_ceiling_27 rfl ?_
    refine g_Mod_72 rfl d_Mod_ceiling_28 ?_
    refine Ev_isub d_Mod_ceiling_31 ?_
    refine Ev_aload_n d_Mod_ceiling_32 rfl ?_
    refine g_Mod_195 rfl d_Mod_ceiling_33 ?_
    obtain ⟨r2, c2, hC, hF⟩ := x_bind_some hF
    refine k_Mod_192 rfl d_Mod_ceiling_36 ⟨by decide, by decide⟩ (Nat.le_of_ble_eq_true rfl) ?_
    exact C_Mod_least hC (T_Mod_ceiling_39 hF hQ)
  · rw [if_pos h1] at hF
    refine Ev_aload_n d_Mod_ceiling_7 rfl ?_
    refine g_Mod_81 rfl d_Mod_ceiling_8 ?_
    refine Ev_iconst (v := 1) d_Mod_ceiling_11 (by decide) ?_
    refine Ev_icmp_ne (tgt := 20) d_Mod_ceiling_12 rfl (fun h3 => ?_) (fun h3 => ?_)
    · rw [if_neg h3] at hF
      refine Ev_iconst (v := 0) d_Mod_ceiling_20 (by decide) ?_
      exact T_Mod_ceiling_21 hF hQ
    · rw [if_pos h3] at hF
      refine Ev_bipush (v := (80)) d_Mod_ceiling_15 (by decide) ?_
      refine Ev_goto (tgt := 21) d_Mod_ceiling_17 rfl ?_
      exact T_Mod_ceiling_21 hF hQ
def F_Mod_ceiling (c : x_S) : Option (Int32 × x_S) := x_bind (F_Mod_watched c) (fun r1 c1 => F_Mod_ceiling_4 r1 c1)
theorem C_Mod_ceiling {E : x_E} {o : x_S} {Q : Int32 → x_H → Prop} {c : x_S} {r : Int32} {s : x_S} (hF : F_Mod_ceiling c = some (r, s)) (hQ : Q r (hpk o s)) : Call E m_Mod_ceiling 0 0 [.ref 46] (hpk o c) Q := by
  refine Call_of (L := [some (.ref 46), none]) (by decide) (by intro v hv; simp only [List.mem_cons, List.not_mem_nil, or_false] at hv; rw [hv]; rfl) (Nat.le_of_ble_eq_true rfl) rfl ?_
  unfold F_Mod_ceiling at hF
  refine Ev_aload_n d_Mod_ceiling_0 rfl ?_
  obtain ⟨r1, c1, hC, hF⟩ := x_bind_some hF
  refine k_Mod_154 rfl d_Mod_ceiling_1 ⟨by decide, by decide⟩ (Nat.le_of_ble_eq_true rfl) ?_
  exact C_Mod_watched hC (T_Mod_ceiling_4 hF hQ)
def F_Mod_fall_109 (s0 : Int32) (c : x_S) : Option (Int32 × x_S) := some (s0, c)
theorem T_Mod_fall_109 {E : x_E} {o : x_S} {Q : Int32 → x_H → Prop} {l0 : Option Value} {l1 : Option Value} {l2 : Option Value} {l3 : Option Value} {l4 : Option Value} {s0 : Int32} {c : x_S} {r : Int32} {s : x_S} (hF : F_Mod_fall_109 s0 c = some (r, s)) (hQ : Q r (hpk o s)) : Ev E m_Mod_fall 0 0 109 [l0, l1, l2, l3, l4] [.int s0] (hpk o c) Q := by
  unfold F_Mod_fall_109 at hF
  cases hF
  exact Ev_ireturn d_Mod_fall_109 rfl hQ
def F_Mod_fall_84 (K : Int32 → Int32 → Int32 → x_S → Option (Int32 × x_S)) (x1 x3 s0 : Int32) (c : x_S) : Option (Int32 × x_S) := K x1 s0 (x3 + (1 : Int32)) c
theorem T_Mod_fall_84 {E : x_E} {o : x_S} {Q : Int32 → x_H → Prop} {K : Int32 → Int32 → Int32 → x_S → Option (Int32 × x_S)} (hK : ∀ {l4 : Option Value} {x1 x2 x3 : Int32} {c : x_S} {r : Int32} {s : x_S}, K x1 x2 x3 c = some (r, s) → Q r (hpk o s) → Ev E m_Mod_fall 0 0 4 [some (.ref 46), some (.int x1), some (.int x2), some (.int x3), l4] [] (hpk o c) Q) {l2 : Option Value} {l4 : Option Value} {x1 x3 s0 : Int32} {c : x_S} {r : Int32} {s : x_S} (hF : F_Mod_fall_84 K x1 x3 s0 c = some (r, s)) (hQ : Q r (hpk o s)) : Ev E m_Mod_fall 0 0 84 [some (.ref 46), some (.int x1), l2, some (.int x3), l4] [.int s0] (hpk o c) Q := by
  unfold F_Mod_fall_84 at hF
  refine Ev_istore_n (L' := [some (.ref 46), some (.int x1), some (.int s0), some (.int x3), l4]) d_Mod_fall_84 (by decide) rfl ?_
  refine Ev_iinc (v := (x3 + (1 : Int32))) (L' := [some (.ref 46), some (.int x1), some (.int s0), some (.int (x3 + (1 : Int32))), l4]) d_Mod_fall_85 rfl rfl (by decide) rfl ?_
  refine Ev_goto (tgt := 4) d_Mod_fall_88 rfl ?_
  exact hK hF hQ
def F_Mod_fall_83 (K : Int32 → Int32 → Int32 → x_S → Option (Int32 × x_S)) (x1 x2 x3 : Int32) (c : x_S) : Option (Int32 × x_S) := F_Mod_fall_84 K x1 x3 x2 c
theorem T_Mod_fall_83 {E : x_E} {o : x_S} {Q : Int32 → x_H → Prop} {K : Int32 → Int32 → Int32 → x_S → Option (Int32 × x_S)} (hK : ∀ {l4 : Option Value} {x1 x2 x3 : Int32} {c : x_S} {r : Int32} {s : x_S}, K x1 x2 x3 c = some (r, s) → Q r (hpk o s) → Ev E m_Mod_fall 0 0 4 [some (.ref 46), some (.int x1), some (.int x2), some (.int x3), l4] [] (hpk o c) Q) {l4 : Option Value} {x1 x2 x3 : Int32} {c : x_S} {r : Int32} {s : x_S} (hF : F_Mod_fall_83 K x1 x2 x3 c = some (r, s)) (hQ : Q r (hpk o s)) : Ev E m_Mod_fall 0 0 83 [some (.ref 46), some (.int x1), some (.int x2), some (.int x3), l4] [] (hpk o c) Q := by
  unfold F_Mod_fall_83 at hF
  refine Ev_iload_n d_Mod_fall_83 rfl ?_
  exact T_Mod_fall_84 (fun h1 h2 => hK h1 h2) hF hQ
def F_Mod_fall_57 (K : Int32 → Int32 → Int32 → x_S → Option (Int32 × x_S)) (x1 x2 x3 s0 : Int32) (c : x_S) : Option (Int32 × x_S) := if s0 = 0 then (F_Mod_fall_83 K x1 x2 x3 c) else (x_ix x3 7 (fun j2 => if (c 50 j2) ≤ x2 then (F_Mod_fall_83 K x1 x2 x3 c) else (x_ix x3 7 (fun j4 => F_Mod_fall_84 K x1 x3 (c 50 j4) c))))
theorem T_Mod_fall_57 {E : x_E} {o : x_S} {Q : Int32 → x_H → Prop} {K : Int32 → Int32 → Int32 → x_S → Option (Int32 × x_S)} (hK : ∀ {l4 : Option Value} {x1 x2 x3 : Int32} {c : x_S} {r : Int32} {s : x_S}, K x1 x2 x3 c = some (r, s) → Q r (hpk o s) → Ev E m_Mod_fall 0 0 4 [some (.ref 46), some (.int x1), some (.int x2), some (.int x3), l4] [] (hpk o c) Q) {l4 : Option Value} {x1 x2 x3 s0 : Int32} {c : x_S} {r : Int32} {s : x_S} (hF : F_Mod_fall_57 K x1 x2 x3 s0 c = some (r, s)) (hQ : Q r (hpk o s)) : Ev E m_Mod_fall 0 0 57 [some (.ref 46), some (.int x1), some (.int x2), some (.int x3), l4] [.int s0] (hpk o c) Q := by
  unfold F_Mod_fall_57 at hF
  refine Ev_istore (L' := [some (.ref 46), some (.int x1), some (.int x2), some (.int x3), some (.int s0)]) d_Mod_fall_57 (by decide) rfl ?_
  refine Ev_iload d_Mod_fall_59 rfl ?_
  refine Ev_if_eq (tgt := 83) d_Mod_fall_61 rfl (fun h1 => ?_) (fun h1 => ?_)
  · rw [if_pos h1] at hF
    exact T_Mod_fall_83 (fun h1 h2 => hK h1 h2) hF hQ
  · rw [if_neg h1] at hF
    refine Ev_aload_n d_Mod_fall_64 rfl ?_
    refine g_Mod_19 rfl d_Mod_fall_65 ?_
    refine Ev_iload_n d_Mod_fall_68 rfl ?_
    obtain ⟨j2, hij2, hjj2, hF⟩ := x_ix_some hF
    refine Em_iald d_Mod_fall_69 (P := 50) (by decide) rfl hij2 hjj2 ?_
    refine Ev_iload_n d_Mod_fall_70 rfl ?_
    refine Ev_icmp_le (tgt := 83) d_Mod_fall_71 rfl (fun h3 => ?_) (fun h3 => ?_)
    · rw [if_pos h3] at hF
      exact T_Mod_fall_83 (fun h1 h2 => hK h1 h2) hF hQ
    · rw [if_neg h3] at hF
      refine Ev_aload_n d_Mod_fall_74 rfl ?_
      refine g_Mod_19 rfl d_Mod_fall_75 ?_
      refine Ev_iload_n d_Mod_fall_78 rfl ?_
      obtain ⟨j4, hij4, hjj4, hF⟩ := x_ix_some hF
      refine Em_iald d_Mod_fall_79 (P := 50) (by decide) rfl hij4 hjj4 ?_
      refine Ev_goto (tgt := 84) d_Mod_fall_80 rfl ?_
      exact T_Mod_fall_84 (fun h1 h2 => hK h1 h2) hF hQ
def F_Mod_fall_56 (K : Int32 → Int32 → Int32 → x_S → Option (Int32 × x_S)) (x1 x2 x3 : Int32) (c : x_S) : Option (Int32 × x_S) := F_Mod_fall_57 K x1 x2 x3 (0 : Int32) c
theorem T_Mod_fall_56 {E : x_E} {o : x_S} {Q : Int32 → x_H → Prop} {K : Int32 → Int32 → Int32 → x_S → Option (Int32 × x_S)} (hK : ∀ {l4 : Option Value} {x1 x2 x3 : Int32} {c : x_S} {r : Int32} {s : x_S}, K x1 x2 x3 c = some (r, s) → Q r (hpk o s) → Ev E m_Mod_fall 0 0 4 [some (.ref 46), some (.int x1), some (.int x2), some (.int x3), l4] [] (hpk o c) Q) {l4 : Option Value} {x1 x2 x3 : Int32} {c : x_S} {r : Int32} {s : x_S} (hF : F_Mod_fall_56 K x1 x2 x3 c = some (r, s)) (hQ : Q r (hpk o s)) : Ev E m_Mod_fall 0 0 56 [some (.ref 46), some (.int x1), some (.int x2), some (.int x3), l4] [] (hpk o c) Q := by
  unfold F_Mod_fall_56 at hF
  refine Ev_iconst (v := 0) d_Mod_fall_56 (by decide) ?_
  exact T_Mod_fall_57 (fun h1 h2 => hK h1 h2) hF hQ
def F_Mod_fall_52 (K : Int32 → Int32 → Int32 → x_S → Option (Int32 × x_S)) (x1 x2 x3 : Int32) (c : x_S) : Option (Int32 × x_S) := F_Mod_fall_57 K x1 x2 x3 (1 : Int32) c
theorem T_Mod_fall_52 {E : x_E} {o : x_S} {Q : Int32 → x_H → Prop} {K : Int32 → Int32 → Int32 → x_S → Option (Int32 × x_S)} (hK : ∀ {l4 : Option Value} {x1 x2 x3 : Int32} {c : x_S} {r : Int32} {s : x_S}, K x1 x2 x3 c = some (r, s) → Q r (hpk o s) → Ev E m_Mod_fall 0 0 4 [some (.ref 46), some (.int x1), some (.int x2), some (.int x3), l4] [] (hpk o c) Q) {l4 : Option Value} {x1 x2 x3 : Int32} {c : x_S} {r : Int32} {s : x_S} (hF : F_Mod_fall_52 K x1 x2 x3 c = some (r, s)) (hQ : Q r (hpk o s)) : Ev E m_Mod_fall 0 0 52 [some (.ref 46), some (.int x1), some (.int x2), some (.int x3), l4] [] (hpk o c) Q := by
  unfold F_Mod_fall_52 at hF
  refine Ev_iconst (v := 1) d_Mod_fall_52 (by decide) ?_
  refine Ev_goto (tgt := 57) d_Mod_fall_53 rfl ?_
  exact T_Mod_fall_57 (fun h1 h2 => hK h1 h2) hF hQ
def F_Mod_fall_4 : Nat → Int32 → Int32 → Int32 → x_S → Option (Int32 × x_S)
  | 0, _, _, _, _ => none
  | n + 1, x1, x2, x3, c => if (c 46 16) ≤ x3 then (if ((c 46 3) - (c 46 2)) ≤ x1 then (F_Mod_fall_109 x2 c) else (F_Mod_fall_109 (0 : Int32) c)) else (x_ix x3 7 (fun j3 => if x1 < (c 49 j3) then (F_Mod_fall_56 (F_Mod_fall_4 n) x1 x2 x3 c) else (if (x3 + (1 : Int32)) = (c 46 16) then (F_Mod_fall_52 (F_Mod_fall_4 n) x1 x2 x3 c) else (x_ix (x3 + (1 : Int32)) 7 (fun j6 => if (c 49 j6) ≤ ((c 46 3) - (c 46 2)) then (F_Mod_fall_56 (F_Mod_fall_4 n) x1 x2 x3 c) else (F_Mod_fall_52 (F_Mod_fall_4 n) x1 x2 x3 c))))))
theorem T_Mod_fall_4 {E : x_E} {o : x_S} {Q : Int32 → x_H → Prop} : ∀ (n : Nat) {l4 : Option Value} {x1 x2 x3 : Int32} {c : x_S} {r : Int32} {s : x_S}, F_Mod_fall_4 n x1 x2 x3 c = some (r, s) → Q r (hpk o s) → Ev E m_Mod_fall 0 0 4 [some (.ref 46), some (.int x1), some (.int x2), some (.int x3), l4] [] (hpk o c) Q := by
  intro n
  induction n with
  | zero => intro l4 x1 x2 x3 c r s hF; rw [F_Mod_fall_4] at hF; cases hF
  | succ n ih =>
    intro l4 x1 x2 x3 c r s hF hQ
    rw [F_Mod_fall_4] at hF
    refine Ev_iload_n d_Mod_fall_4 rfl ?_
    refine Ev_aload_n d_Mod_fall_5 rfl ?_
    refine g_Mod_95 rfl d_Mod_fall_6 ?_
    refine Ev_icmp_ge (tgt := 91) d_Mod_fall_9 rfl (fun h1 => ?_) (fun h1 => ?_)
    · rw [if_pos h1] at hF
      refine Ev_iload_n d_Mod_fall_91 rfl ?_
      refine Ev_aload_n d_Mod_fall_92 rfl ?_
      refine g_Mod_189 rfl d_Mod_fall_93 ?_
      refine Ev_aload_n d_Mod_fall_96 rfl ?_
      refine g_Mod_72 rfl d_Mod_fall_97 ?_
      refine Ev_isub d_Mod_fall_100 ?_
      refine Ev_icmp_ge (tgt := 108) d_Mod_fall_101 rfl (fun h2 => ?_) (fun h2 => ?_)
      · rw [if_pos h2] at hF
        refine Ev_iload_n d_Mod_fall_108 rfl ?_
        exact T_Mod_fall_109 hF hQ
      · rw [if_neg h2] at hF
        refine Ev_iconst (v := 0) d_Mod_fall_104 (by decide) ?_
        refine Ev_goto (tgt := 109) d_Mod_fall_105 rfl ?_
        exact T_Mod_fall_109 hF hQ
    · rw [if_neg h1] at hF
      refine Ev_aload_n d_Mod_fall_12 rfl ?_
      refine g_Mod_16 rfl d_Mod_fall_13 ?_
      refine Ev_iload_n d_Mod_fall_16 rfl ?_
      obtain ⟨j3, hij3, hjj3, hF⟩ := x_ix_some hF
      refine Em_iald d_Mod_fall_17 (P := 49) (by decide) rfl hij3 hjj3 ?_
      refine Ev_iload_n d_Mod_fall_18 rfl ?_
      refine Ev_icmp_gt (tgt := 56) d_Mod_fall_19 rfl (fun h4 => ?_) (fun h4 => ?_)
      · rw [if_pos h4] at hF
        exact T_Mod_fall_56 (fun h1 h2 => ih h1 h2) hF hQ
      · rw [if_neg h4] at hF
        refine Ev_iload_n d_Mod_fall_22 rfl ?_
        refine Ev_iconst (v := 1) d_Mod_fall_23 (by decide) ?_
        refine Ev_iadd d_Mod_fall_24 ?_
        refine Ev_aload_n d_Mod_fall_25 rfl ?_
        refine g_Mod_95 rfl d_Mod_fall_26 ?_
        refine Ev_icmp_eq (tgt := 52) d_Mod_fall_29 rfl (fun h5 => ?_) (fun h5 => ?_)
        · rw [if_pos h5] at hF
          exact T_Mod_fall_52 (fun h1 h2 => ih h1 h2) hF hQ
        · rw [if_neg h5] at hF
          refine Ev_aload_n d_Mod_fall_32 rfl ?_
          refine g_Mod_16 rfl d_Mod_fall_33 ?_
          refine Ev_iload_n d_Mod_fall_36 rfl ?_
          refine Ev_iconst (v := 1) d_Mod_fall_37 (by decide) ?_
          refine Ev_iadd d_Mod_fall_38 ?_
          obtain ⟨j6, hij6, hjj6, hF⟩ := x_ix_some hF
          refine Em_iald d_Mod_fall_39 (P := 49) (by decide) rfl hij6 hjj6 ?_
          refine Ev_aload_n d_Mod_fall_40 rfl ?_
          refine g_Mod_189 rfl d_Mod_fall_41 ?_
          refine Ev_aload_n d_Mod_fall_44 rfl ?_
          refine g_Mod_72 rfl d_Mod_fall_45 ?_
          refine Ev_isub d_Mod_fall_48 ?_
          refine Ev_icmp_le (tgt := 56) d_Mod_fall_49 rfl (fun h7 => ?_) (fun h7 => ?_)
          · rw [if_pos h7] at hF
            exact T_Mod_fall_56 (fun h1 h2 => ih h1 h2) hF hQ
          · rw [if_neg h7] at hF
            exact T_Mod_fall_52 (fun h1 h2 => ih h1 h2) hF hQ
def F_Mod_fall (x1 : Int32) (c : x_S) : Option (Int32 × x_S) := F_Mod_fall_4 x_fuel x1 (0 : Int32) (0 : Int32) c
theorem C_Mod_fall {E : x_E} {o : x_S} {Q : Int32 → x_H → Prop} {x1 : Int32} {c : x_S} {r : Int32} {s : x_S} (hF : F_Mod_fall x1 c = some (r, s)) (hQ : Q r (hpk o s)) : Call E m_Mod_fall 0 0 [.ref 46, .int x1] (hpk o c) Q := by
  refine Call_of (L := [some (.ref 46), some (.int x1), none, none, none]) (by decide) (by intro v hv; simp only [List.mem_cons, List.not_mem_nil, or_false] at hv; rcases hv with rfl | rfl <;> rfl) (Nat.le_of_ble_eq_true rfl) rfl ?_
  unfold F_Mod_fall at hF
  refine Ev_iconst (v := 0) d_Mod_fall_0 (by decide) ?_
  refine Ev_istore_n (L' := [some (.ref 46), some (.int x1), some (.int (0 : Int32)), none, none]) d_Mod_fall_1 (by decide) rfl ?_
  refine Ev_iconst (v := 0) d_Mod_fall_2 (by decide) ?_
  refine Ev_istore_n (L' := [some (.ref 46), some (.int x1), some (.int (0 : Int32)), some (.int (0 : Int32)), none]) d_Mod_fall_3 (by decide) rfl ?_
  exact T_Mod_fall_4 x_fuel hF hQ
def F_Mod_braking_46 (x4 : Int32) (c : x_S) : Option (Int32 × x_S) := some (x4, c)
theorem T_Mod_braking_46 {E : x_E} {o : x_S} {Q : Int32 → x_H → Prop} {l0 : Option Value} {l1 : Option Value} {l2 : Option Value} {l3 : Option Value} {l5 : Option Value} {x4 : Int32} {c : x_S} {r : Int32} {s : x_S} (hF : F_Mod_braking_46 x4 c = some (r, s)) (hQ : Q r (hpk o s)) : Ev E m_Mod_braking 0 0 46 [l0, l1, l2, l3, some (.int x4), l5] [] (hpk o c) Q := by
  unfold F_Mod_braking_46 at hF
  refine Ev_iload d_Mod_braking_46 rfl ?_
  cases hF
  exact Ev_ireturn d_Mod_braking_48 rfl hQ
def F_Mod_braking_33 (K : Int32 → Int32 → Int32 → Int32 → Int32 → x_S → Option (Int32 × x_S)) (x1 x2 x4 x5 s0 : Int32) (c : x_S) : Option (Int32 × x_S) := K x1 x2 s0 (x4 + s0) (x5 + (1 : Int32)) c
theorem T_Mod_braking_33 {E : x_E} {o : x_S} {Q : Int32 → x_H → Prop} {K : Int32 → Int32 → Int32 → Int32 → Int32 → x_S → Option (Int32 × x_S)} (hK : ∀ {l0 : Option Value} {x1 x2 x3 x4 x5 : Int32} {c : x_S} {r : Int32} {s : x_S}, K x1 x2 x3 x4 x5 c = some (r, s) → Q r (hpk o s) → Ev E m_Mod_braking 0 0 8 [l0, some (.int x1), some (.int x2), some (.int x3), some (.int x4), some (.int x5)] [] (hpk o c) Q) {l0 : Option Value} {l3 : Option Value} {x1 x2 x4 x5 s0 : Int32} {c : x_S} {r : Int32} {s : x_S} (hF : F_Mod_braking_33 K x1 x2 x4 x5 s0 c = some (r, s)) (hQ : Q r (hpk o s)) : Ev E m_Mod_braking 0 0 33 [l0, some (.int x1), some (.int x2), l3, some (.int x4), some (.int x5)] [.int s0] (hpk o c) Q := by
  unfold F_Mod_braking_33 at hF
  refine Ev_istore_n (L' := [l0, some (.int x1), some (.int x2), some (.int s0), some (.int x4), some (.int x5)]) d_Mod_braking_33 (by decide) rfl ?_
  refine Ev_iload d_Mod_braking_34 rfl ?_
  refine Ev_iload_n d_Mod_braking_36 rfl ?_
  refine Ev_iadd d_Mod_braking_37 ?_
  refine Ev_istore (L' := [l0, some (.int x1), some (.int x2), some (.int s0), some (.int (x4 + s0)), some (.int x5)]) d_Mod_braking_38 (by decide) rfl ?_
  refine Ev_iinc (v := (x5 + (1 : Int32))) (L' := [l0, some (.int x1), some (.int x2), some (.int s0), some (.int (x4 + s0)), some (.int (x5 + (1 : Int32)))]) d_Mod_braking_40 rfl rfl (by decide) rfl ?_
  refine Ev_goto (tgt := 8) d_Mod_braking_43 rfl ?_
  exact hK hF hQ
def F_Mod_braking_8 : Nat → Int32 → Int32 → Int32 → Int32 → Int32 → x_S → Option (Int32 × x_S)
  | 0, _, _, _, _, _, _ => none
  | n + 1, x1, x2, x3, x4, x5, c => if (1000 : Int32) ≤ x5 then (F_Mod_braking_46 x4 c) else (if x3 ≤ x1 then (F_Mod_braking_46 x4 c) else (if x2 ≤ x3 then (F_Mod_braking_33 (F_Mod_braking_8 n) x1 x2 x4 x5 (x3 - x2) c) else (F_Mod_braking_33 (F_Mod_braking_8 n) x1 x2 x4 x5 (0 : Int32) c)))
theorem T_Mod_braking_8 {E : x_E} {o : x_S} {Q : Int32 → x_H → Prop} : ∀ (n : Nat) {l0 : Option Value} {x1 x2 x3 x4 x5 : Int32} {c : x_S} {r : Int32} {s : x_S}, F_Mod_braking_8 n x1 x2 x3 x4 x5 c = some (r, s) → Q r (hpk o s) → Ev E m_Mod_braking 0 0 8 [l0, some (.int x1), some (.int x2), some (.int x3), some (.int x4), some (.int x5)] [] (hpk o c) Q := by
  intro n
  induction n with
  | zero => intro l0 x1 x2 x3 x4 x5 c r s hF; rw [F_Mod_braking_8] at hF; cases hF
  | succ n ih =>
    intro l0 x1 x2 x3 x4 x5 c r s hF hQ
    rw [F_Mod_braking_8] at hF
    refine Ev_iload d_Mod_braking_8 rfl ?_
    refine Ev_sipush (v := (1000)) d_Mod_braking_10 (by decide) ?_
    refine Ev_icmp_ge (tgt := 46) d_Mod_braking_13 rfl (fun h1 => ?_) (fun h1 => ?_)
    · rw [if_pos h1] at hF
      exact T_Mod_braking_46 hF hQ
    · rw [if_neg h1] at hF
      refine Ev_iload_n d_Mod_braking_16 rfl ?_
      refine Ev_iload_n d_Mod_braking_17 rfl ?_
      refine Ev_icmp_le (tgt := 46) d_Mod_braking_18 rfl (fun h2 => ?_) (fun h2 => ?_)
      · rw [if_pos h2] at hF
        exact T_Mod_braking_46 hF hQ
      · rw [if_neg h2] at hF
        refine Ev_iload_n d_Mod_braking_21 rfl ?_
        refine Ev_iload_n d_Mod_braking_22 rfl ?_
        refine Ev_icmp_ge (tgt := 30) d_Mod_braking_23 rfl (fun h3 => ?_) (fun h3 => ?_)
        · rw [if_pos h3] at hF
          refine Ev_iload_n d_Mod_braking_30 rfl ?_
          refine Ev_iload_n d_Mod_braking_31 rfl ?_
          refine Ev_isub d_Mod_braking_32 ?_
          exact T_Mod_braking_33 (fun h1 h2 => ih h1 h2) hF hQ
        · rw [if_neg h3] at hF
          refine Ev_iconst (v := 0) d_Mod_braking_26 (by decide) ?_
          refine Ev_goto (tgt := 33) d_Mod_braking_27 rfl ?_
          exact T_Mod_braking_33 (fun h1 h2 => ih h1 h2) hF hQ
def F_Mod_braking (x0 x1 x2 : Int32) (c : x_S) : Option (Int32 × x_S) := F_Mod_braking_8 x_fuel x1 x2 x0 (0 : Int32) (0 : Int32) c
theorem C_Mod_braking {E : x_E} {o : x_S} {Q : Int32 → x_H → Prop} {x0 x1 x2 : Int32} {c : x_S} {r : Int32} {s : x_S} (hF : F_Mod_braking x0 x1 x2 c = some (r, s)) (hQ : Q r (hpk o s)) : Call E m_Mod_braking 0 0 [.int x0, .int x1, .int x2] (hpk o c) Q := by
  refine Call_of (L := [some (.int x0), some (.int x1), some (.int x2), none, none, none]) (by decide) (by intro v hv; simp only [List.mem_cons, List.not_mem_nil, or_false] at hv; rcases hv with rfl | rfl | rfl <;> rfl) (Nat.le_of_ble_eq_true rfl) rfl ?_
  unfold F_Mod_braking at hF
  refine Ev_iload_n d_Mod_braking_0 rfl ?_
  refine Ev_istore_n (L' := [some (.int x0), some (.int x1), some (.int x2), some (.int x0), none, none]) d_Mod_braking_1 (by decide) rfl ?_
  refine Ev_iconst (v := 0) d_Mod_braking_2 (by decide) ?_
  refine Ev_istore (L' := [some (.int x0), some (.int x1), some (.int x2), some (.int x0), some (.int (0 : Int32)), none]) d_Mod_braking_3 (by decide) rfl ?_
  refine Ev_iconst (v := 0) d_Mod_braking_5 (by decide) ?_
  refine Ev_istore (L' := [some (.int x0), some (.int x1), some (.int x2), some (.int x0), some (.int (0 : Int32)), some (.int (0 : Int32))]) d_Mod_braking_6 (by decide) rfl ?_
  exact T_Mod_braking_8 x_fuel hF hQ
