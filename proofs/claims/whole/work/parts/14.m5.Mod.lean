/-! printed by wip/gen/gen4.py: TrainGuardModel -/
def F_Mod_driver_162 (c : x_S) : Option (Int32 × x_S) := some ((1 : Int32), c)
theorem T_Mod_driver_162 {E : x_E} {o : x_S} {Q : Int32 → x_H → Prop} {l0 : Option Value} {l1 : Option Value} {l2 : Option Value} {l3 : Option Value} {l4 : Option Value} {c : x_S} {r : Int32} {s : x_S} (hF : F_Mod_driver_162 c = some (r, s)) (hQ : Q r (hpk o s)) : Ev E m_Mod_driver 0 0 162 [l0, l1, l2, l3, l4] [] (hpk o c) Q := by
  unfold F_Mod_driver_162 at hF
  refine Ev_iconst (v := 1) d_Mod_driver_162 (by decide) ?_
  cases hF
  exact Ev_zreturn d_Mod_driver_163 rfl (Or.inr rfl) hQ
def F_Mod_driver_157 (c : x_S) : Option (Int32 × x_S) := x_bind (F_Mod_become (1 : Int32) c) (fun _ c1 => F_Mod_driver_162 c1)
theorem T_Mod_driver_157 {E : x_E} {o : x_S} {Q : Int32 → x_H → Prop} {l1 : Option Value} {l2 : Option Value} {l3 : Option Value} {l4 : Option Value} {c : x_S} {r : Int32} {s : x_S} (hF : F_Mod_driver_157 c = some (r, s)) (hQ : Q r (hpk o s)) : Ev E m_Mod_driver 0 0 157 [some (.ref 46), l1, l2, l3, l4] [] (hpk o c) Q := by
  unfold F_Mod_driver_157 at hF
  refine Ev_aload_n d_Mod_driver_157 rfl ?_
  refine Ev_iconst (v := 1) d_Mod_driver_158 (by decide) ?_
  obtain ⟨r1, c1, hC, hF⟩ := x_bind_some hF
  refine k_Mod_104 rfl d_Mod_driver_159 ⟨by decide, by decide⟩ (Nat.le_of_ble_eq_true rfl) ?_
  exact C_Mod_become hC (T_Mod_driver_162 hF hQ)
def F_Mod_driver_145 (c : x_S) : Option (Int32 × x_S) := F_Mod_driver_157 (x_up c 46 12 ((c 46 4) + (3000 : Int32)))
theorem T_Mod_driver_145 {E : x_E} {o : x_S} {Q : Int32 → x_H → Prop} {l1 : Option Value} {l2 : Option Value} {l3 : Option Value} {l4 : Option Value} {c : x_S} {r : Int32} {s : x_S} (hF : F_Mod_driver_145 c = some (r, s)) (hQ : Q r (hpk o s)) : Ev E m_Mod_driver 0 0 145 [some (.ref 46), l1, l2, l3, l4] [] (hpk o c) Q := by
  unfold F_Mod_driver_145 at hF
  refine Ev_aload_n d_Mod_driver_145 rfl ?_
  refine Ev_aload_n d_Mod_driver_146 rfl ?_
  refine g_Mod_195 rfl d_Mod_driver_147 ?_
  refine Ev_sipush (v := (3000)) d_Mod_driver_150 (by decide) ?_
  refine Ev_iadd d_Mod_driver_153 ?_
  refine q_Mod_216 rfl d_Mod_driver_154 ?_
  exact T_Mod_driver_157 hF hQ
def F_Mod_driver_142 (c : x_S) : Option (Int32 × x_S) := F_Mod_driver_162 c
theorem T_Mod_driver_142 {E : x_E} {o : x_S} {Q : Int32 → x_H → Prop} {l0 : Option Value} {l1 : Option Value} {l2 : Option Value} {l3 : Option Value} {l4 : Option Value} {c : x_S} {r : Int32} {s : x_S} (hF : F_Mod_driver_142 c = some (r, s)) (hQ : Q r (hpk o s)) : Ev E m_Mod_driver 0 0 142 [l0, l1, l2, l3, l4] [] (hpk o c) Q := by
  unfold F_Mod_driver_142 at hF
  refine Ev_goto (tgt := 162) d_Mod_driver_142 rfl ?_
  exact T_Mod_driver_162 hF hQ
def F_Mod_driver_121 (c : x_S) : Option (Int32 × x_S) := F_Mod_driver_162 c
theorem T_Mod_driver_121 {E : x_E} {o : x_S} {Q : Int32 → x_H → Prop} {l0 : Option Value} {l1 : Option Value} {l2 : Option Value} {l3 : Option Value} {l4 : Option Value} {c : x_S} {r : Int32} {s : x_S} (hF : F_Mod_driver_121 c = some (r, s)) (hQ : Q r (hpk o s)) : Ev E m_Mod_driver 0 0 121 [l0, l1, l2, l3, l4] [] (hpk o c) Q := by
  unfold F_Mod_driver_121 at hF
  refine Ev_goto (tgt := 162) d_Mod_driver_121 rfl ?_
  exact T_Mod_driver_162 hF hQ
def F_Mod_driver_108 (c : x_S) : Option (Int32 × x_S) := F_Mod_driver_162 c
theorem T_Mod_driver_108 {E : x_E} {o : x_S} {Q : Int32 → x_H → Prop} {l0 : Option Value} {l1 : Option Value} {l2 : Option Value} {l3 : Option Value} {l4 : Option Value} {c : x_S} {r : Int32} {s : x_S} (hF : F_Mod_driver_108 c = some (r, s)) (hQ : Q r (hpk o s)) : Ev E m_Mod_driver 0 0 108 [l0, l1, l2, l3, l4] [] (hpk o c) Q := by
  unfold F_Mod_driver_108 at hF
  refine Ev_goto (tgt := 162) d_Mod_driver_108 rfl ?_
  exact T_Mod_driver_162 hF hQ
def F_Mod_driver_99 (x3 x4 : Int32) (c : x_S) : Option (Int32 × x_S) := if x3 = 0 then (if x4 = 0 then (if (c 46 8) = 0 then (F_Mod_driver_145 c) else (if (c 46 13) ≤ 0 then (F_Mod_driver_145 c) else (x_bind (F_Mod_enters c) (fun _ c5 => F_Mod_driver_142 c5)))) else (x_bind (F_Mod_become (5 : Int32) c) (fun _ c6 => F_Mod_driver_121 c6))) else (F_Mod_driver_108 (x_up c 46 29 (0 : Int32)))
theorem T_Mod_driver_99 {E : x_E} {o : x_S} {Q : Int32 → x_H → Prop} {l1 : Option Value} {l2 : Option Value} {x3 x4 : Int32} {c : x_S} {r : Int32} {s : x_S} (hF : F_Mod_driver_99 x3 x4 c = some (r, s)) (hQ : Q r (hpk o s)) : Ev E m_Mod_driver 0 0 99 [some (.ref 46), l1, l2, some (.int x3), some (.int x4)] [] (hpk o c) Q := by
  unfold F_Mod_driver_99 at hF
  refine Ev_iload_n d_Mod_driver_99 rfl ?_
  refine Ev_if_eq (tgt := 111) d_Mod_driver_100 rfl (fun h1 => ?_) (fun h1 => ?_)
  · rw [if_pos h1] at hF
    refine Ev_iload d_Mod_driver_111 rfl ?_
    refine Ev_if_eq (tgt := 124) d_Mod_driver_113 rfl (fun h2 => ?_) (fun h2 => ?_)
    · rw [if_pos h2] at hF
      refine Ev_aload_n d_Mod_driver_124 rfl ?_
      refine g_Mod_88 rfl d_Mod_driver_125 ?_
      refine Ev_if_eq (tgt := 145) d_Mod_driver_128 rfl (fun h3 => ?_) (fun h3 => ?_)
      · rw [if_pos h3] at hF
        exact T_Mod_driver_145 hF hQ
      · rw [if_neg h3] at hF
        refine Ev_aload_n d_Mod_driver_131 rfl ?_
        refine g_Mod_92 rfl d_Mod_driver_132 ?_
        refine Ev_if_le (tgt := 145) d_Mod_driver_135 rfl (fun h4 => ?_) (fun h4 => ?_)
        · rw [if_pos h4] at hF
          exact T_Mod_driver_145 hF hQ
        · rw [if_neg h4] at hF
          refine Ev_aload_n d_Mod_driver_138 rfl ?_
          obtain ⟨r5, c5, hC, hF⟩ := x_bind_some hF
          refine k_Mod_186 rfl d_Mod_driver_139 ⟨by decide, by decide⟩ (Nat.le_of_ble_eq_true rfl) ?_
          exact C_Mod_enters hC (T_Mod_driver_142 hF hQ)
    · rw [if_neg h2] at hF
      refine Ev_aload_n d_Mod_driver_116 rfl ?_
      refine Ev_iconst (v := 5) d_Mod_driver_117 (by decide) ?_
      obtain ⟨r6, c6, hC, hF⟩ := x_bind_some hF
      refine k_Mod_104 rfl d_Mod_driver_118 ⟨by decide, by decide⟩ (Nat.le_of_ble_eq_true rfl) ?_
      exact C_Mod_become hC (T_Mod_driver_121 hF hQ)
  · rw [if_neg h1] at hF
    refine Ev_aload_n d_Mod_driver_103 rfl ?_
    refine Ev_iconst (v := 0) d_Mod_driver_104 (by decide) ?_
    refine q_Mod_101 rfl d_Mod_driver_105 (Or.inl rfl) ?_
    exact T_Mod_driver_108 hF hQ
def F_Mod_driver_92 (x1 x3 x4 : Int32) (c : x_S) : Option (Int32 × x_S) := x_bind (F_Mod_write (7 : Int32) x1 c) (fun _ c1 => F_Mod_driver_99 x3 x4 c1)
theorem T_Mod_driver_92 {E : x_E} {o : x_S} {Q : Int32 → x_H → Prop} {l2 : Option Value} {x1 x3 x4 : Int32} {c : x_S} {r : Int32} {s : x_S} (hF : F_Mod_driver_92 x1 x3 x4 c = some (r, s)) (hQ : Q r (hpk o s)) : Ev E m_Mod_driver 0 0 92 [some (.ref 46), some (.int x1), l2, some (.int x3), some (.int x4)] [] (hpk o c) Q := by
  unfold F_Mod_driver_92 at hF
  refine Ev_aload_n d_Mod_driver_92 rfl ?_
  refine Ev_bipush (v := (7)) d_Mod_driver_93 (by decide) ?_
  refine Ev_iload_n d_Mod_driver_95 rfl ?_
  obtain ⟨r1, c1, hC, hF⟩ := x_bind_some hF
  refine k_Mod_84 rfl d_Mod_driver_96 ⟨by decide, by decide⟩ (Nat.le_of_ble_eq_true rfl) ?_
  exact C_Mod_write hC (T_Mod_driver_99 hF hQ)
def F_Mod_driver_75 (x1 x2 x3 s0 : Int32) (c : x_S) : Option (Int32 × x_S) := if x2 = 0 then (if x3 = 0 then (if s0 = 0 then (some ((0 : Int32), c)) else (F_Mod_driver_92 x1 x3 s0 c)) else (F_Mod_driver_92 x1 x3 s0 c)) else (F_Mod_driver_92 x1 x3 s0 c)
theorem T_Mod_driver_75 {E : x_E} {o : x_S} {Q : Int32 → x_H → Prop} {l4 : Option Value} {x1 x2 x3 s0 : Int32} {c : x_S} {r : Int32} {s : x_S} (hF : F_Mod_driver_75 x1 x2 x3 s0 c = some (r, s)) (hQ : Q r (hpk o s)) : Ev E m_Mod_driver 0 0 75 [some (.ref 46), some (.int x1), some (.int x2), some (.int x3), l4] [.int s0] (hpk o c) Q := by
  unfold F_Mod_driver_75 at hF
  refine Ev_istore (L' := [some (.ref 46), some (.int x1), some (.int x2), some (.int x3), some (.int s0)]) d_Mod_driver_75 (by decide) rfl ?_
  refine Ev_iload_n d_Mod_driver_77 rfl ?_
  refine Ev_if_ne (tgt := 92) d_Mod_driver_78 rfl (fun h1 => ?_) (fun h1 => ?_)
  · rw [if_neg h1] at hF
    exact T_Mod_driver_92 hF hQ
  · rw [if_pos h1] at hF
    refine Ev_iload_n d_Mod_driver_81 rfl ?_
    refine Ev_if_ne (tgt := 92) d_Mod_driver_82 rfl (fun h2 => ?_) (fun h2 => ?_)
    · rw [if_neg h2] at hF
      exact T_Mod_driver_92 hF hQ
    · rw [if_pos h2] at hF
      refine Ev_iload d_Mod_driver_85 rfl ?_
      refine Ev_if_ne (tgt := 92) d_Mod_driver_87 rfl (fun h3 => ?_) (fun h3 => ?_)
      · rw [if_neg h3] at hF
        exact T_Mod_driver_92 hF hQ
      · rw [if_pos h3] at hF
        refine Ev_iconst (v := 0) d_Mod_driver_90 (by decide) ?_
        cases hF
        exact Ev_zreturn d_Mod_driver_91 rfl (Or.inl rfl) hQ
def F_Mod_driver_74 (x1 x2 x3 : Int32) (c : x_S) : Option (Int32 × x_S) := F_Mod_driver_75 x1 x2 x3 (0 : Int32) c
theorem T_Mod_driver_74 {E : x_E} {o : x_S} {Q : Int32 → x_H → Prop} {l4 : Option Value} {x1 x2 x3 : Int32} {c : x_S} {r : Int32} {s : x_S} (hF : F_Mod_driver_74 x1 x2 x3 c = some (r, s)) (hQ : Q r (hpk o s)) : Ev E m_Mod_driver 0 0 74 [some (.ref 46), some (.int x1), some (.int x2), some (.int x3), l4] [] (hpk o c) Q := by
  unfold F_Mod_driver_74 at hF
  refine Ev_iconst (v := 0) d_Mod_driver_74 (by decide) ?_
  exact T_Mod_driver_75 hF hQ
def F_Mod_driver_49 (x1 x2 s0 : Int32) (c : x_S) : Option (Int32 × x_S) := if x1 = (2 : Int32) then (if (c 46 6) = (4 : Int32) then (if (c 46 5) = 0 then (F_Mod_driver_75 x1 x2 s0 (1 : Int32) c) else (F_Mod_driver_74 x1 x2 s0 c)) else (F_Mod_driver_74 x1 x2 s0 c)) else (F_Mod_driver_74 x1 x2 s0 c)
theorem T_Mod_driver_49 {E : x_E} {o : x_S} {Q : Int32 → x_H → Prop} {l3 : Option Value} {l4 : Option Value} {x1 x2 s0 : Int32} {c : x_S} {r : Int32} {s : x_S} (hF : F_Mod_driver_49 x1 x2 s0 c = some (r, s)) (hQ : Q r (hpk o s)) : Ev E m_Mod_driver 0 0 49 [some (.ref 46), some (.int x1), some (.int x2), l3, l4] [.int s0] (hpk o c) Q := by
  unfold F_Mod_driver_49 at hF
  refine Ev_istore_n (L' := [some (.ref 46), some (.int x1), some (.int x2), some (.int s0), l4]) d_Mod_driver_49 (by decide) rfl ?_
  refine Ev_iload_n d_Mod_driver_50 rfl ?_
  refine Ev_iconst (v := 2) d_Mod_driver_51 (by decide) ?_
  refine Ev_icmp_ne (tgt := 74) d_Mod_driver_52 rfl (fun h1 => ?_) (fun h1 => ?_)
  · rw [if_neg h1] at hF
    exact T_Mod_driver_74 hF hQ
  · rw [if_pos h1] at hF
    refine Ev_aload_n d_Mod_driver_55 rfl ?_
    refine g_Mod_81 rfl d_Mod_driver_56 ?_
    refine Ev_iconst (v := 4) d_Mod_driver_59 (by decide) ?_
    refine Ev_icmp_ne (tgt := 74) d_Mod_driver_60 rfl (fun h2 => ?_) (fun h2 => ?_)
    · rw [if_neg h2] at hF
      exact T_Mod_driver_74 hF hQ
    · rw [if_pos h2] at hF
      refine Ev_aload_n d_Mod_driver_63 rfl ?_
      refine g_Mod_158 rfl d_Mod_driver_64 ?_
      refine Ev_if_ne (tgt := 74) d_Mod_driver_67 rfl (fun h3 => ?_) (fun h3 => ?_)
      · rw [if_neg h3] at hF
        exact T_Mod_driver_74 hF hQ
      · rw [if_pos h3] at hF
        refine Ev_iconst (v := 1) d_Mod_driver_70 (by decide) ?_
        refine Ev_goto (tgt := 75) d_Mod_driver_71 rfl ?_
        exact T_Mod_driver_75 hF hQ
def F_Mod_driver_48 (x1 x2 : Int32) (c : x_S) : Option (Int32 × x_S) := F_Mod_driver_49 x1 x2 (0 : Int32) c
theorem T_Mod_driver_48 {E : x_E} {o : x_S} {Q : Int32 → x_H → Prop} {l3 : Option Value} {l4 : Option Value} {x1 x2 : Int32} {c : x_S} {r : Int32} {s : x_S} (hF : F_Mod_driver_48 x1 x2 c = some (r, s)) (hQ : Q r (hpk o s)) : Ev E m_Mod_driver 0 0 48 [some (.ref 46), some (.int x1), some (.int x2), l3, l4] [] (hpk o c) Q := by
  unfold F_Mod_driver_48 at hF
  refine Ev_iconst (v := 0) d_Mod_driver_48 (by decide) ?_
  exact T_Mod_driver_49 hF hQ
def F_Mod_driver_31 (x1 s0 : Int32) (c : x_S) : Option (Int32 × x_S) := if x1 = (1 : Int32) then (if (c 46 29) = 0 then (F_Mod_driver_48 x1 s0 c) else (F_Mod_driver_49 x1 s0 (1 : Int32) c)) else (F_Mod_driver_48 x1 s0 c)
theorem T_Mod_driver_31 {E : x_E} {o : x_S} {Q : Int32 → x_H → Prop} {l2 : Option Value} {l3 : Option Value} {l4 : Option Value} {x1 s0 : Int32} {c : x_S} {r : Int32} {s : x_S} (hF : F_Mod_driver_31 x1 s0 c = some (r, s)) (hQ : Q r (hpk o s)) : Ev E m_Mod_driver 0 0 31 [some (.ref 46), some (.int x1), l2, l3, l4] [.int s0] (hpk o c) Q := by
  unfold F_Mod_driver_31 at hF
  refine Ev_istore_n (L' := [some (.ref 46), some (.int x1), some (.int s0), l3, l4]) d_Mod_driver_31 (by decide) rfl ?_
  refine Ev_iload_n d_Mod_driver_32 rfl ?_
  refine Ev_iconst (v := 1) d_Mod_driver_33 (by decide) ?_
  refine Ev_icmp_ne (tgt := 48) d_Mod_driver_34 rfl (fun h1 => ?_) (fun h1 => ?_)
  · rw [if_neg h1] at hF
    exact T_Mod_driver_48 hF hQ
  · rw [if_pos h1] at hF
    refine Ev_aload_n d_Mod_driver_37 rfl ?_
    refine g_Mod_101 rfl d_Mod_driver_38 ?_
    refine Ev_if_eq (tgt := 48) d_Mod_driver_41 rfl (fun h2 => ?_) (fun h2 => ?_)
    · rw [if_pos h2] at hF
      exact T_Mod_driver_48 hF hQ
    · rw [if_neg h2] at hF
      refine Ev_iconst (v := 1) d_Mod_driver_44 (by decide) ?_
      refine Ev_goto (tgt := 49) d_Mod_driver_45 rfl ?_
      exact T_Mod_driver_49 hF hQ
def F_Mod_driver_30 (x1 : Int32) (c : x_S) : Option (Int32 × x_S) := F_Mod_driver_31 x1 (0 : Int32) c
theorem T_Mod_driver_30 {E : x_E} {o : x_S} {Q : Int32 → x_H → Prop} {l2 : Option Value} {l3 : Option Value} {l4 : Option Value} {x1 : Int32} {c : x_S} {r : Int32} {s : x_S} (hF : F_Mod_driver_30 x1 c = some (r, s)) (hQ : Q r (hpk o s)) : Ev E m_Mod_driver 0 0 30 [some (.ref 46), some (.int x1), l2, l3, l4] [] (hpk o c) Q := by
  unfold F_Mod_driver_30 at hF
  refine Ev_iconst (v := 0) d_Mod_driver_30 (by decide) ?_
  exact T_Mod_driver_31 hF hQ
def F_Mod_driver_19 (x1 : Int32) (c : x_S) : Option (Int32 × x_S) := if (c 46 5) = 0 then (F_Mod_driver_31 x1 (1 : Int32) c) else (F_Mod_driver_30 x1 c)
theorem T_Mod_driver_19 {E : x_E} {o : x_S} {Q : Int32 → x_H → Prop} {l2 : Option Value} {l3 : Option Value} {l4 : Option Value} {x1 : Int32} {c : x_S} {r : Int32} {s : x_S} (hF : F_Mod_driver_19 x1 c = some (r, s)) (hQ : Q r (hpk o s)) : Ev E m_Mod_driver 0 0 19 [some (.ref 46), some (.int x1), l2, l3, l4] [] (hpk o c) Q := by
  unfold F_Mod_driver_19 at hF
  refine Ev_aload_n d_Mod_driver_19 rfl ?_
  refine g_Mod_158 rfl d_Mod_driver_20 ?_
  refine Ev_if_ne (tgt := 30) d_Mod_driver_23 rfl (fun h1 => ?_) (fun h1 => ?_)
  · rw [if_neg h1] at hF
    exact T_Mod_driver_30 hF hQ
  · rw [if_pos h1] at hF
    refine Ev_iconst (v := 1) d_Mod_driver_26 (by decide) ?_
    refine Ev_goto (tgt := 31) d_Mod_driver_27 rfl ?_
    exact T_Mod_driver_31 hF hQ
def F_Mod_driver (x1 : Int32) (c : x_S) : Option (Int32 × x_S) := if x1 = 0 then (if (c 46 6) = 0 then (F_Mod_driver_19 x1 c) else (if (c 46 6) = (5 : Int32) then (F_Mod_driver_19 x1 c) else (F_Mod_driver_30 x1 c))) else (F_Mod_driver_30 x1 c)
theorem C_Mod_driver {E : x_E} {o : x_S} {Q : Int32 → x_H → Prop} {x1 : Int32} {c : x_S} {r : Int32} {s : x_S} (hF : F_Mod_driver x1 c = some (r, s)) (hQ : Q r (hpk o s)) : Call E m_Mod_driver 0 0 [.ref 46, .int x1] (hpk o c) Q := by
  refine Call_of (L := [some (.ref 46), some (.int x1), none, none, none]) (by decide) (by intro v hv; simp only [List.mem_cons, List.not_mem_nil, or_false] at hv; rcases hv with rfl | rfl <;> rfl) (Nat.le_of_ble_eq_true rfl) rfl ?_
  unfold F_Mod_driver at hF
  refine Ev_iload_n d_Mod_driver_0 rfl ?_
  refine Ev_if_ne (tgt := 30) d_Mod_driver_1 rfl (fun h1 => ?_) (fun h1 => ?_)
  · rw [if_neg h1] at hF
    exact T_Mod_driver_30 hF hQ
  · rw [if_pos h1] at hF
    refine Ev_aload_n d_Mod_driver_4 rfl ?_
    refine g_Mod_81 rfl d_Mod_driver_5 ?_
    refine Ev_if_eq (tgt := 19) d_Mod_driver_8 rfl (fun h2 => ?_) (fun h2 => ?_)
    · rw [if_pos h2] at hF
      exact T_Mod_driver_19 hF hQ
    · rw [if_neg h2] at hF
      refine Ev_aload_n d_Mod_driver_11 rfl ?_
      refine g_Mod_81 rfl d_Mod_driver_12 ?_
      refine Ev_iconst (v := 5) d_Mod_driver_15 (by decide) ?_
      refine Ev_icmp_ne (tgt := 30) d_Mod_driver_16 rfl (fun h3 => ?_) (fun h3 => ?_)
      · rw [if_neg h3] at hF
        exact T_Mod_driver_30 hF hQ
      · rw [if_pos h3] at hF
        exact T_Mod_driver_19 hF hQ
def F_Mod_mode (c : x_S) : Option (Int32 × x_S) := some ((c 46 6), c)
theorem C_Mod_mode {E : x_E} {o : x_S} {Q : Int32 → x_H → Prop} {c : x_S} {r : Int32} {s : x_S} (hF : F_Mod_mode c = some (r, s)) (hQ : Q r (hpk o s)) : Call E m_Mod_mode 0 0 [.ref 46] (hpk o c) Q := by
  refine Call_of (L := [some (.ref 46)]) (by decide) (by intro v hv; simp only [List.mem_cons, List.not_mem_nil, or_false] at hv; rw [hv]; rfl) (Nat.le_of_ble_eq_true rfl) rfl ?_
  unfold F_Mod_mode at hF
  refine Ev_aload_n d_Mod_mode_0 rfl ?_
  refine g_Mod_81 rfl d_Mod_mode_1 ?_
  cases hF
  exact Ev_ireturn d_Mod_mode_4 rfl hQ
def F_Mod_state_76 (s0 : Int32) (c : x_S) : Option (Int32 × x_S) := some (s0, c)
theorem T_Mod_state_76 {E : x_E} {o : x_S} {Q : Int32 → x_H → Prop} {l0 : Option Value} {l1 : Option Value} {s0 : Int32} {c : x_S} {r : Int32} {s : x_S} (hF : F_Mod_state_76 s0 c = some (r, s)) (hQ : Q r (hpk o s)) : Ev E m_Mod_state 0 0 76 [l0, l1] [.int s0] (hpk o c) Q := by
  unfold F_Mod_state_76 at hF
  cases hF
  exact Ev_ireturn d_Mod_state_76 rfl hQ
def F_Mod_state (x1 : Int32) (c : x_S) : Option (Int32 × x_S) := if x1 = 0 then (some ((c 46 3), c)) else (if x1 = 1 then (some ((c 46 4), c)) else (if x1 = 2 then (some ((c 46 5), c)) else (if x1 = 3 then (some ((c 46 33), c)) else (if x1 = 4 then (if (c 46 29) = 0 then (F_Mod_state_76 (0 : Int32) c) else (F_Mod_state_76 (1 : Int32) c)) else (if x1 = 5 then (some ((c 46 7), c)) else (if x1 = 6 then (some ((c 46 35), c)) else (some ((-1 : Int32), c))))))))
theorem C_Mod_state {E : x_E} {o : x_S} {Q : Int32 → x_H → Prop} {x1 : Int32} {c : x_S} {r : Int32} {s : x_S} (hF : F_Mod_state x1 c = some (r, s)) (hQ : Q r (hpk o s)) : Call E m_Mod_state 0 0 [.ref 46, .int x1] (hpk o c) Q := by
  refine Call_of (L := [some (.ref 46), some (.int x1)]) (by decide) (by intro v hv; simp only [List.mem_cons, List.not_mem_nil, or_false] at hv; rcases hv with rfl | rfl <;> rfl) (Nat.le_of_ble_eq_true rfl) rfl ?_
  unfold F_Mod_state at hF
  refine Ev_iload_n d_Mod_state_0 rfl ?_
  by_cases h1 : x1 = 0
  · rw [if_pos h1] at hF
    refine Ev_tableIn (off := 43) (tgt := 44) d_Mod_state_1 (by rw [h1]; decide) (by rw [h1]; decide) (by rw [h1]; decide) rfl ?_
    refine Ev_aload_n d_Mod_state_44 rfl ?_
    refine g_Mod_189 rfl d_Mod_state_45 ?_
    cases hF
    exact Ev_ireturn d_Mod_state_48 rfl hQ
  · rw [if_neg h1] at hF
    by_cases h2 : x1 = 1
    · rw [if_pos h2] at hF
      refine Ev_tableIn (off := 48) (tgt := 49) d_Mod_state_1 (by rw [h2]; decide) (by rw [h2]; decide) (by rw [h2]; decide) rfl ?_
      refine Ev_aload_n d_Mod_state_49 rfl ?_
      refine g_Mod_195 rfl d_Mod_state_50 ?_
      cases hF
      exact Ev_ireturn d_Mod_state_53 rfl hQ
    · rw [if_neg h2] at hF
      by_cases h3 : x1 = 2
      · rw [if_pos h3] at hF
        refine Ev_tableIn (off := 53) (tgt := 54) d_Mod_state_1 (by rw [h3]; decide) (by rw [h3]; decide) (by rw [h3]; decide) rfl ?_
        refine Ev_aload_n d_Mod_state_54 rfl ?_
        refine g_Mod_158 rfl d_Mod_state_55 ?_
        cases hF
        exact Ev_ireturn d_Mod_state_58 rfl hQ
      · rw [if_neg h3] at hF
        by_cases h4 : x1 = 3
        · rw [if_pos h4] at hF
          refine Ev_tableIn (off := 58) (tgt := 59) d_Mod_state_1 (by rw [h4]; decide) (by rw [h4]; decide) (by rw [h4]; decide) rfl ?_
          refine Ev_aload_n d_Mod_state_59 rfl ?_
          refine g_Mod_228 rfl d_Mod_state_60 ?_
          cases hF
          exact Ev_ireturn d_Mod_state_63 rfl hQ
        · rw [if_neg h4] at hF
          by_cases h5 : x1 = 4
          · rw [if_pos h5] at hF
            refine Ev_tableIn (off := 63) (tgt := 64) d_Mod_state_1 (by rw [h5]; decide) (by rw [h5]; decide) (by rw [h5]; decide) rfl ?_
            refine Ev_aload_n d_Mod_state_64 rfl ?_
            refine g_Mod_101 rfl d_Mod_state_65 ?_
            refine Ev_if_eq (tgt := 75) d_Mod_state_68 rfl (fun h6 => ?_) (fun h6 => ?_)
            · rw [if_pos h6] at hF
              refine Ev_iconst (v := 0) d_Mod_state_75 (by decide) ?_
              exact T_Mod_state_76 hF hQ
            · rw [if_neg h6] at hF
              refine Ev_iconst (v := 1) d_Mod_state_71 (by decide) ?_
              refine Ev_goto (tgt := 76) d_Mod_state_72 rfl ?_
              exact T_Mod_state_76 hF hQ
          · rw [if_neg h5] at hF
            by_cases h7 : x1 = 5
            · rw [if_pos h7] at hF
              refine Ev_tableIn (off := 76) (tgt := 77) d_Mod_state_1 (by rw [h7]; decide) (by rw [h7]; decide) (by rw [h7]; decide) rfl ?_
              refine Ev_aload_n d_Mod_state_77 rfl ?_
              refine g_Mod_75 rfl d_Mod_state_78 ?_
              cases hF
              exact Ev_ireturn d_Mod_state_81 rfl hQ
            · rw [if_neg h7] at hF
              by_cases h8 : x1 = 6
              · rw [if_pos h8] at hF
                refine Ev_tableIn (off := 81) (tgt := 82) d_Mod_state_1 (by rw [h8]; decide) (by rw [h8]; decide) (by rw [h8]; decide) rfl ?_
                refine Ev_aload_n d_Mod_state_82 rfl ?_
                refine g_Mod_114 rfl d_Mod_state_83 ?_
                cases hF
                exact Ev_ireturn d_Mod_state_86 rfl hQ
              · rw [if_neg h8] at hF
                have eh1 := lv_neT h1 (show (0 : Int32).toInt = 0 by decide)
                have eh2 := lv_neT h2 (show (1 : Int32).toInt = 1 by decide)
                have eh3 := lv_neT h3 (show (2 : Int32).toInt = 2 by decide)
                have eh4 := lv_neT h4 (show (3 : Int32).toInt = 3 by decide)
                have eh5 := lv_neT h5 (show (4 : Int32).toInt = 4 by decide)
                have eh7 := lv_neT h7 (show (5 : Int32).toInt = 5 by decide)
                have eh8 := lv_neT h8 (show (6 : Int32).toInt = 6 by decide)
                refine Ev_tableOut (tgt := 87) d_Mod_state_1 (by omega) rfl ?_
                refine Ev_iconst (v := (-1)) d_Mod_state_87 (by decide) ?_
                cases hF
                exact Ev_ireturn d_Mod_state_88 rfl hQ
def F_Mod_display_130 (s0 : Int32) (c : x_S) : Option (Int32 × x_S) := some (s0, c)
theorem T_Mod_display_130 {E : x_E} {o : x_S} {Q : Int32 → x_H → Prop} {l0 : Option Value} {l1 : Option Value} {l2 : Option Value} {s0 : Int32} {c : x_S} {r : Int32} {s : x_S} (hF : F_Mod_display_130 s0 c = some (r, s)) (hQ : Q r (hpk o s)) : Ev E m_Mod_display 0 0 130 [l0, l1, l2] [.int s0] (hpk o c) Q := by
  unfold F_Mod_display_130 at hF
  cases hF
  exact Ev_ireturn d_Mod_display_130 rfl hQ
def F_Mod_display_117 (s0 : Int32) (c : x_S) : Option (Int32 × x_S) := some (s0, c)
theorem T_Mod_display_117 {E : x_E} {o : x_S} {Q : Int32 → x_H → Prop} {l0 : Option Value} {l1 : Option Value} {l2 : Option Value} {s0 : Int32} {c : x_S} {r : Int32} {s : x_S} (hF : F_Mod_display_117 s0 c = some (r, s)) (hQ : Q r (hpk o s)) : Ev E m_Mod_display 0 0 117 [l0, l1, l2] [.int s0] (hpk o c) Q := by
  unfold F_Mod_display_117 at hF
  cases hF
  exact Ev_ireturn d_Mod_display_117 rfl hQ
def F_Mod_display_81 (s0 : Int32) (c : x_S) : Option (Int32 × x_S) := some (s0, c)
theorem T_Mod_display_81 {E : x_E} {o : x_S} {Q : Int32 → x_H → Prop} {l0 : Option Value} {l1 : Option Value} {l2 : Option Value} {s0 : Int32} {c : x_S} {r : Int32} {s : x_S} (hF : F_Mod_display_81 s0 c = some (r, s)) (hQ : Q r (hpk o s)) : Ev E m_Mod_display 0 0 81 [l0, l1, l2] [.int s0] (hpk o c) Q := by
  unfold F_Mod_display_81 at hF
  cases hF
  exact Ev_ireturn d_Mod_display_81 rfl hQ
def F_Mod_display_68 (s0 : Int32) (c : x_S) : Option (Int32 × x_S) := some (s0, c)
theorem T_Mod_display_68 {E : x_E} {o : x_S} {Q : Int32 → x_H → Prop} {l0 : Option Value} {l1 : Option Value} {l2 : Option Value} {s0 : Int32} {c : x_S} {r : Int32} {s : x_S} (hF : F_Mod_display_68 s0 c = some (r, s)) (hQ : Q r (hpk o s)) : Ev E m_Mod_display 0 0 68 [l0, l1, l2] [.int s0] (hpk o c) Q := by
  unfold F_Mod_display_68 at hF
  cases hF
  exact Ev_ireturn d_Mod_display_68 rfl hQ
def F_Mod_display_22 (x1 s0 : Int32) (c : x_S) : Option (Int32 × x_S) := if x1 = 0 then (if s0 = 0 then (x_bind (F_Mod_allowed c) (fun r3 c3 => F_Mod_display_68 r3 c3)) else (F_Mod_display_68 (0 : Int32) c)) else (if x1 = 1 then (x_bind (F_Mod_grade (c 46 5) (c 46 9) c) (fun r5 c5 => F_Mod_display_81 r5 c5)) else (if x1 = 2 then (if (c 46 8) = 0 then (F_Mod_display_117 (-1 : Int32) c) else (if (c 46 9) ≤ (c 46 4) then (F_Mod_display_117 (0 : Int32) c) else (F_Mod_display_117 ((c 46 9) - (c 46 4)) c))) else (if x1 = 3 then (if s0 = 0 then (x_bind (F_Mod_ceiling c) (fun r11 c11 => F_Mod_display_130 r11 c11)) else (F_Mod_display_130 (-1 : Int32) c)) else (some ((-1 : Int32), c)))))
theorem T_Mod_display_22 {E : x_E} {o : x_S} {Q : Int32 → x_H → Prop} {l2 : Option Value} {x1 s0 : Int32} {c : x_S} {r : Int32} {s : x_S} (hF : F_Mod_display_22 x1 s0 c = some (r, s)) (hQ : Q r (hpk o s)) : Ev E m_Mod_display 0 0 22 [some (.ref 46), some (.int x1), l2] [.int s0] (hpk o c) Q := by
  unfold F_Mod_display_22 at hF
  refine Ev_istore_n (L' := [some (.ref 46), some (.int x1), some (.int s0)]) d_Mod_display_22 (by decide) rfl ?_
  refine Ev_iload_n d_Mod_display_23 rfl ?_
  by_cases h1 : x1 = 0
  · rw [if_pos h1] at hF
    refine Ev_tableIn (off := 32) (tgt := 56) d_Mod_display_24 (by rw [h1]; decide) (by rw [h1]; decide) (by rw [h1]; decide) rfl ?_
    refine Ev_iload_n d_Mod_display_56 rfl ?_
    refine Ev_if_eq (tgt := 64) d_Mod_display_57 rfl (fun h2 => ?_) (fun h2 => ?_)
    · rw [if_pos h2] at hF
      refine Ev_aload_n d_Mod_display_64 rfl ?_
      obtain ⟨r3, c3, hC, hF⟩ := x_bind_some hF
      refine k_Mod_231 rfl d_Mod_display_65 ⟨by decide, by decide⟩ (Nat.le_of_ble_eq_true rfl) ?_
      exact C_Mod_allowed hC (T_Mod_display_68 hF hQ)
    · rw [if_neg h2] at hF
      refine Ev_iconst (v := 0) d_Mod_display_60 (by decide) ?_
      refine Ev_goto (tgt := 68) d_Mod_display_61 rfl ?_
      exact T_Mod_display_68 hF hQ
  · rw [if_neg h1] at hF
    by_cases h4 : x1 = 1
    · rw [if_pos h4] at hF
      refine Ev_tableIn (off := 45) (tgt := 69) d_Mod_display_24 (by rw [h4]; decide) (by rw [h4]; decide) (by rw [h4]; decide) rfl ?_
      refine Ev_aload_n d_Mod_display_69 rfl ?_
      refine Ev_aload_n d_Mod_display_70 rfl ?_
      refine g_Mod_158 rfl d_Mod_display_71 ?_
      refine Ev_aload_n d_Mod_display_74 rfl ?_
      refine g_Mod_151 rfl d_Mod_display_75 ?_
      obtain ⟨r5, c5, hC, hF⟩ := x_bind_some hF
      refine k_Mod_161 rfl d_Mod_display_78 ⟨by decide, by decide⟩ (Nat.le_of_ble_eq_true rfl) ?_
      exact C_Mod_grade hC (T_Mod_display_81 hF hQ)
    · rw [if_neg h4] at hF
      by_cases h6 : x1 = 2
      · rw [if_pos h6] at hF
        refine Ev_tableIn (off := 58) (tgt := 82) d_Mod_display_24 (by rw [h6]; decide) (by rw [h6]; decide) (by rw [h6]; decide) rfl ?_
        refine Ev_aload_n d_Mod_display_82 rfl ?_
        refine g_Mod_88 rfl d_Mod_display_83 ?_
        refine Ev_if_ne (tgt := 93) d_Mod_display_86 rfl (fun h7 => ?_) (fun h7 => ?_)
        · rw [if_neg h7] at hF
          refine Ev_aload_n d_Mod_display_93 rfl ?_
          refine g_Mod_151 rfl d_Mod_display_94 ?_
          refine Ev_aload_n d_Mod_display_97 rfl ?_
          refine g_Mod_195 rfl d_Mod_display_98 ?_
          refine Ev_icmp_le (tgt := 116) d_Mod_display_101 rfl (fun h8 => ?_) (fun h8 => ?_)
          · rw [if_pos h8] at hF
            refine Ev_iconst (v := 0) d_Mod_display_116 (by decide) ?_
            exact T_Mod_display_117 hF hQ
          · rw [if_neg h8] at hF
            refine Ev_aload_n d_Mod_display_104 rfl ?_
            refine g_Mod_151 rfl d_Mod_display_105 ?_
            refine Ev_aload_n d_Mod_display_108 rfl ?_
            refine g_Mod_195 rfl d_Mod_display_109 ?_
            refine Ev_isub d_Mod_display_112 ?_
            refine Ev_goto (tgt := 117) d_Mod_display_113 rfl ?_
            exact T_Mod_display_117 hF hQ
        · rw [if_pos h7] at hF
          refine Ev_iconst (v := (-1)) d_Mod_display_89 (by decide) ?_
          refine Ev_goto (tgt := 117) d_Mod_display_90 rfl ?_
          exact T_Mod_display_117 hF hQ
      · rw [if_neg h6] at hF
        by_cases h9 : x1 = 3
        · rw [if_pos h9] at hF
          refine Ev_tableIn (off := 94) (tgt := 118) d_Mod_display_24 (by rw [h9]; decide) (by rw [h9]; decide) (by rw [h9]; decide) rfl ?_
          refine Ev_iload_n d_Mod_display_118 rfl ?_
          refine Ev_if_eq (tgt := 126) d_Mod_display_119 rfl (fun h10 => ?_) (fun h10 => ?_)
          · rw [if_pos h10] at hF
            refine Ev_aload_n d_Mod_display_126 rfl ?_
            obtain ⟨r11, c11, hC, hF⟩ := x_bind_some hF
            refine k_Mod_208 rfl d_Mod_display_127 ⟨by decide, by decide⟩ (Nat.le_of_ble_eq_true rfl) ?_
            exact C_Mod_ceiling hC (T_Mod_display_130 hF hQ)
          · rw [if_neg h10] at hF
            refine Ev_iconst (v := (-1)) d_Mod_display_122 (by decide) ?_
            refine Ev_goto (tgt := 130) d_Mod_display_123 rfl ?_
            exact T_Mod_display_130 hF hQ
        · rw [if_neg h9] at hF
          have eh1 := lv_neT h1 (show (0 : Int32).toInt = 0 by decide)
          have eh4 := lv_neT h4 (show (1 : Int32).toInt = 1 by decide)
          have eh6 := lv_neT h6 (show (2 : Int32).toInt = 2 by decide)
          have eh9 := lv_neT h9 (show (3 : Int32).toInt = 3 by decide)
          refine Ev_tableOut (tgt := 131) d_Mod_display_24 (by omega) rfl ?_
          refine Ev_iconst (v := (-1)) d_Mod_display_131 (by decide) ?_
          cases hF
          exact Ev_ireturn d_Mod_display_132 rfl hQ
def F_Mod_display_17 (x1 : Int32) (c : x_S) : Option (Int32 × x_S) := F_Mod_display_22 x1 (1 : Int32) c
theorem T_Mod_display_17 {E : x_E} {o : x_S} {Q : Int32 → x_H → Prop} {l2 : Option Value} {x1 : Int32} {c : x_S} {r : Int32} {s : x_S} (hF : F_Mod_display_17 x1 c = some (r, s)) (hQ : Q r (hpk o s)) : Ev E m_Mod_display 0 0 17 [some (.ref 46), some (.int x1), l2] [] (hpk o c) Q := by
  unfold F_Mod_display_17 at hF
  refine Ev_iconst (v := 1) d_Mod_display_17 (by decide) ?_
  refine Ev_goto (tgt := 22) d_Mod_display_18 rfl ?_
  exact T_Mod_display_22 hF hQ
def F_Mod_display (x1 : Int32) (c : x_S) : Option (Int32 × x_S) := if (c 46 6) = (4 : Int32) then (F_Mod_display_17 x1 c) else (if (c 46 6) = (6 : Int32) then (F_Mod_display_17 x1 c) else (F_Mod_display_22 x1 (0 : Int32) c))
theorem C_Mod_display {E : x_E} {o : x_S} {Q : Int32 → x_H → Prop} {x1 : Int32} {c : x_S} {r : Int32} {s : x_S} (hF : F_Mod_display x1 c = some (r, s)) (hQ : Q r (hpk o s)) : Call E m_Mod_display 0 0 [.ref 46, .int x1] (hpk o c) Q := by
  refine Call_of (L := [some (.ref 46), some (.int x1), none]) (by decide) (by intro v hv; simp only [List.mem_cons, List.not_mem_nil, or_false] at hv; rcases hv with rfl | rfl <;> rfl) (Nat.le_of_ble_eq_true rfl) rfl ?_
  unfold F_Mod_display at hF
  refine Ev_aload_n d_Mod_display_0 rfl ?_
  refine g_Mod_81 rfl d_Mod_display_1 ?_
  refine Ev_iconst (v := 4) d_Mod_display_4 (by decide) ?_
  refine Ev_icmp_eq (tgt := 17) d_Mod_display_5 rfl (fun h1 => ?_) (fun h1 => ?_)
  · rw [if_pos h1] at hF
    exact T_Mod_display_17 hF hQ
  · rw [if_neg h1] at hF
    refine Ev_aload_n d_Mod_display_8 rfl ?_
    refine g_Mod_81 rfl d_Mod_display_9 ?_
    refine Ev_bipush (v := (6)) d_Mod_display_12 (by decide) ?_
    refine Ev_icmp_ne (tgt := 21) d_Mod_display_14 rfl (fun h2 => ?_) (fun h2 => ?_)
    · rw [if_neg h2] at hF
      refine Ev_iconst (v := 0) d_Mod_display_21 (by decide) ?_
      exact T_Mod_display_22 hF hQ
    · rw [if_pos h2] at hF
      exact T_Mod_display_17 hF hQ
def F_Mod_marks_50 (s0 : Int32) (c : x_S) : Option (Int32 × x_S) := some (s0, c)
theorem T_Mod_marks_50 {E : x_E} {o : x_S} {Q : Int32 → x_H → Prop} {l0 : Option Value} {l1 : Option Value} {s0 : Int32} {c : x_S} {r : Int32} {s : x_S} (hF : F_Mod_marks_50 s0 c = some (r, s)) (hQ : Q r (hpk o s)) : Ev E m_Mod_marks 0 0 50 [l0, l1] [.int s0] (hpk o c) Q := by
  unfold F_Mod_marks_50 at hF
  cases hF
  exact Ev_ireturn d_Mod_marks_50 rfl hQ
def F_Mod_marks_49 (s0 s1 : Int32) (c : x_S) : Option (Int32 × x_S) := F_Mod_marks_50 (s0 + s1) c
theorem T_Mod_marks_49 {E : x_E} {o : x_S} {Q : Int32 → x_H → Prop} {l0 : Option Value} {l1 : Option Value} {s0 s1 : Int32} {c : x_S} {r : Int32} {s : x_S} (hF : F_Mod_marks_49 s0 s1 c = some (r, s)) (hQ : Q r (hpk o s)) : Ev E m_Mod_marks 0 0 49 [l0, l1] [.int s1, .int s0] (hpk o c) Q := by
  unfold F_Mod_marks_49 at hF
  refine Ev_iadd d_Mod_marks_49 ?_
  exact T_Mod_marks_50 hF hQ
def F_Mod_marks_12 (c : x_S) : Option (Int32 × x_S) := F_Mod_marks_50 (-1 : Int32) c
theorem T_Mod_marks_12 {E : x_E} {o : x_S} {Q : Int32 → x_H → Prop} {l0 : Option Value} {l1 : Option Value} {c : x_S} {r : Int32} {s : x_S} (hF : F_Mod_marks_12 c = some (r, s)) (hQ : Q r (hpk o s)) : Ev E m_Mod_marks 0 0 12 [l0, l1] [] (hpk o c) Q := by
  unfold F_Mod_marks_12 at hF
  refine Ev_iconst (v := (-1)) d_Mod_marks_12 (by decide) ?_
  refine Ev_goto (tgt := 50) d_Mod_marks_13 rfl ?_
  exact T_Mod_marks_50 hF hQ
def F_Mod_marks (x1 : Int32) (c : x_S) : Option (Int32 × x_S) := if x1 < 0 then (F_Mod_marks_12 c) else (if x1 < (c 46 19) then (x_ix x1 7 (fun j3 => x_ix x1 7 (fun j4 => x_ix x1 7 (fun j5 => if (c 54 j5) = 0 then (F_Mod_marks_49 (((1000 : Int32) * (c 51 j3)) + ((4 : Int32) * (c 52 j4))) (0 : Int32) c) else (F_Mod_marks_49 (((1000 : Int32) * (c 51 j3)) + ((4 : Int32) * (c 52 j4))) (1 : Int32) c))))) else (F_Mod_marks_12 c))
theorem C_Mod_marks {E : x_E} {o : x_S} {Q : Int32 → x_H → Prop} {x1 : Int32} {c : x_S} {r : Int32} {s : x_S} (hF : F_Mod_marks x1 c = some (r, s)) (hQ : Q r (hpk o s)) : Call E m_Mod_marks 0 0 [.ref 46, .int x1] (hpk o c) Q := by
  refine Call_of (L := [some (.ref 46), some (.int x1)]) (by decide) (by intro v hv; simp only [List.mem_cons, List.not_mem_nil, or_false] at hv; rcases hv with rfl | rfl <;> rfl) (Nat.le_of_ble_eq_true rfl) rfl ?_
  unfold F_Mod_marks at hF
  refine Ev_iload_n d_Mod_marks_0 rfl ?_
  refine Ev_if_lt (tgt := 12) d_Mod_marks_1 rfl (fun h1 => ?_) (fun h1 => ?_)
  · rw [if_pos h1] at hF
    exact T_Mod_marks_12 hF hQ
  · rw [if_neg h1] at hF
    refine Ev_iload_n d_Mod_marks_4 rfl ?_
    refine Ev_aload_n d_Mod_marks_5 rfl ?_
    refine g_Mod_98 rfl d_Mod_marks_6 ?_
    refine Ev_icmp_lt (tgt := 16) d_Mod_marks_9 rfl (fun h2 => ?_) (fun h2 => ?_)
    · rw [if_pos h2] at hF
      refine Ev_sipush (v := (1000)) d_Mod_marks_16 (by decide) ?_
      refine Ev_aload_n d_Mod_marks_19 rfl ?_
      refine g_Mod_22 rfl d_Mod_marks_20 ?_
      refine Ev_iload_n d_Mod_marks_23 rfl ?_
      obtain ⟨j3, hij3, hjj3, hF⟩ := x_ix_some hF
      refine Em_iald d_Mod_marks_24 (P := 51) (by decide) rfl hij3 hjj3 ?_
      refine Ev_imul d_Mod_marks_25 ?_
      refine Ev_iconst (v := 4) d_Mod_marks_26 (by decide) ?_
      refine Ev_aload_n d_Mod_marks_27 rfl ?_
      refine g_Mod_25 rfl d_Mod_marks_28 ?_
      refine Ev_iload_n d_Mod_marks_31 rfl ?_
      obtain ⟨j4, hij4, hjj4, hF⟩ := x_ix_some hF
      refine Em_iald d_Mod_marks_32 (P := 52) (by decide) rfl hij4 hjj4 ?_
      refine Ev_imul d_Mod_marks_33 ?_
      refine Ev_iadd d_Mod_marks_34 ?_
      refine Ev_aload_n d_Mod_marks_35 rfl ?_
      refine g_Mod_31 rfl d_Mod_marks_36 ?_
      refine Ev_iload_n d_Mod_marks_39 rfl ?_
      obtain ⟨j5, hij5, hjj5, hF⟩ := x_ix_some hF
      refine Em_zald d_Mod_marks_40 (P := 54) (by decide) rfl hij5 hjj5 ?_
      refine Ev_if_eq (tgt := 48) d_Mod_marks_41 rfl (fun h6 => ?_) (fun h6 => ?_)
      · rw [if_pos h6] at hF
        refine Ev_iconst (v := 0) d_Mod_marks_48 (by decide) ?_
        exact T_Mod_marks_49 hF hQ
      · rw [if_neg h6] at hF
        refine Ev_iconst (v := 1) d_Mod_marks_44 (by decide) ?_
        refine Ev_goto (tgt := 49) d_Mod_marks_45 rfl ?_
        exact T_Mod_marks_49 hF hQ
    · rw [if_neg h2] at hF
      exact T_Mod_marks_12 hF hQ
def F_Mod_note_22 (s0 : Int32) (c : x_S) : Option (Int32 × x_S) := some (s0, c)
theorem T_Mod_note_22 {E : x_E} {o : x_S} {Q : Int32 → x_H → Prop} {l0 : Option Value} {l1 : Option Value} {s0 : Int32} {c : x_S} {r : Int32} {s : x_S} (hF : F_Mod_note_22 s0 c = some (r, s)) (hQ : Q r (hpk o s)) : Ev E m_Mod_note 0 0 22 [l0, l1] [.int s0] (hpk o c) Q := by
  unfold F_Mod_note_22 at hF
  cases hF
  exact Ev_ireturn d_Mod_note_22 rfl hQ
def F_Mod_note_12 (c : x_S) : Option (Int32 × x_S) := F_Mod_note_22 (-1 : Int32) c
theorem T_Mod_note_12 {E : x_E} {o : x_S} {Q : Int32 → x_H → Prop} {l0 : Option Value} {l1 : Option Value} {c : x_S} {r : Int32} {s : x_S} (hF : F_Mod_note_12 c = some (r, s)) (hQ : Q r (hpk o s)) : Ev E m_Mod_note 0 0 12 [l0, l1] [] (hpk o c) Q := by
  unfold F_Mod_note_12 at hF
  refine Ev_iconst (v := (-1)) d_Mod_note_12 (by decide) ?_
  refine Ev_goto (tgt := 22) d_Mod_note_13 rfl ?_
  exact T_Mod_note_22 hF hQ
def F_Mod_note (x1 : Int32) (c : x_S) : Option (Int32 × x_S) := if x1 < 0 then (F_Mod_note_12 c) else (if x1 < (c 46 42) then (x_ix x1 16 (fun j3 => F_Mod_note_22 (c 63 j3) c)) else (F_Mod_note_12 c))
theorem C_Mod_note {E : x_E} {o : x_S} {Q : Int32 → x_H → Prop} {x1 : Int32} {c : x_S} {r : Int32} {s : x_S} (hF : F_Mod_note x1 c = some (r, s)) (hQ : Q r (hpk o s)) : Call E m_Mod_note 0 0 [.ref 46, .int x1] (hpk o c) Q := by
  refine Call_of (L := [some (.ref 46), some (.int x1)]) (by decide) (by intro v hv; simp only [List.mem_cons, List.not_mem_nil, or_false] at hv; rcases hv with rfl | rfl <;> rfl) (Nat.le_of_ble_eq_true rfl) rfl ?_
  unfold F_Mod_note at hF
  refine Ev_iload_n d_Mod_note_0 rfl ?_
  refine Ev_if_lt (tgt := 12) d_Mod_note_1 rfl (fun h1 => ?_) (fun h1 => ?_)
  · rw [if_pos h1] at hF
    exact T_Mod_note_12 hF hQ
  · rw [if_neg h1] at hF
    refine Ev_iload_n d_Mod_note_4 rfl ?_
    refine Ev_aload_n d_Mod_note_5 rfl ?_
    refine g_Mod_78 rfl d_Mod_note_6 ?_
    refine Ev_icmp_lt (tgt := 16) d_Mod_note_9 rfl (fun h2 => ?_) (fun h2 => ?_)
    · rw [if_pos h2] at hF
      refine Ev_aload_n d_Mod_note_16 rfl ?_
      refine g_Mod_63 rfl d_Mod_note_17 ?_
      refine Ev_iload_n d_Mod_note_20 rfl ?_
      obtain ⟨j3, hij3, hjj3, hF⟩ := x_ix_some hF
      refine Em_iald d_Mod_note_21 (P := 63) (by decide) rfl hij3 hjj3 ?_
      exact T_Mod_note_22 hF hQ
    · rw [if_neg h2] at hF
      exact T_Mod_note_12 hF hQ
