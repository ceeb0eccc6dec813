/-! printed by wip/gen/gen4.py: TrainGuardModel -/
def F_Mod_past_95 (s0 : Int32) (c : x_S) : Option (Int32 × x_S) := x_b01 s0 (some (s0, c))
theorem T_Mod_past_95 {E : x_E} {o : x_S} {Q : Int32 → x_H → Prop} {l0 : Option Value} {l1 : Option Value} {l2 : Option Value} {l3 : Option Value} {l4 : Option Value} {l5 : Option Value} {l6 : Option Value} {l7 : Option Value} {l8 : Option Value} {l9 : Option Value} {l10 : Option Value} {s0 : Int32} {c : x_S} {r : Int32} {s : x_S} (hF : F_Mod_past_95 s0 c = some (r, s)) (hQ : Q r (hpk o s)) : Ev E m_Mod_past 0 0 95 [l0, l1, l2, l3, l4, l5, l6, l7, l8, l9, l10] [.int s0] (hpk o c) Q := by
  unfold F_Mod_past_95 at hF
  obtain ⟨hb1, hF⟩ := x_b01_some hF
  cases hF
  exact Ev_zreturn d_Mod_past_95 rfl hb1 hQ
def F_Mod_past_55 : Nat → Int32 → Int32 → Int32 → Int32 → Int32 → x_S → Option (Int32 × x_S)
  | 0, _, _, _, _, _, _ => none
  | n + 1, x1, x3, x5, x9, x10, c => if x3 < x10 then (if ((c 46 4) + x9) ≤ x5 then (F_Mod_past_95 (0 : Int32) c) else (F_Mod_past_95 (1 : Int32) c)) else (F_Mod_past_55 n x1 x3 x5 (x9 + (x1 + ((2 : Int32) * x10))) (x10 + (1 : Int32)) c)
theorem T_Mod_past_55 {E : x_E} {o : x_S} {Q : Int32 → x_H → Prop} : ∀ (n : Nat) {l2 : Option Value} {l4 : Option Value} {l6 : Option Value} {l7 : Option Value} {l8 : Option Value} {x1 x3 x5 x9 x10 : Int32} {c : x_S} {r : Int32} {s : x_S}, F_Mod_past_55 n x1 x3 x5 x9 x10 c = some (r, s) → Q r (hpk o s) → Ev E m_Mod_past 0 0 55 [some (.ref 46), some (.int x1), l2, some (.int x3), l4, some (.int x5), l6, l7, l8, some (.int x9), some (.int x10)] [] (hpk o c) Q := by
  intro n
  induction n with
  | zero => intro l2 l4 l6 l7 l8 x1 x3 x5 x9 x10 c r s hF; rw [F_Mod_past_55] at hF; cases hF
  | succ n ih =>
    intro l2 l4 l6 l7 l8 x1 x3 x5 x9 x10 c r s hF hQ
    rw [F_Mod_past_55] at hF
    refine Ev_iload d_Mod_past_55 rfl ?_
    refine Ev_iload_n d_Mod_past_57 rfl ?_
    refine Ev_icmp_gt (tgt := 78) d_Mod_past_58 rfl (fun h1 => ?_) (fun h1 => ?_)
    · rw [if_pos h1] at hF
      refine Ev_aload_n d_Mod_past_78 rfl ?_
      refine g_Mod_195 rfl d_Mod_past_79 ?_
      refine Ev_iload d_Mod_past_82 rfl ?_
      refine Ev_iadd d_Mod_past_84 ?_
      refine Ev_iload d_Mod_past_85 rfl ?_
      refine Ev_icmp_le (tgt := 94) d_Mod_past_87 rfl (fun h2 => ?_) (fun h2 => ?_)
      · rw [if_pos h2] at hF
        refine Ev_iconst (v := 0) d_Mod_past_94 (by decide) ?_
        exact T_Mod_past_95 hF hQ
      · rw [if_neg h2] at hF
        refine Ev_iconst (v := 1) d_Mod_past_90 (by decide) ?_
        refine Ev_goto (tgt := 95) d_Mod_past_91 rfl ?_
        exact T_Mod_past_95 hF hQ
    · rw [if_neg h1] at hF
      refine Ev_iload d_Mod_past_61 rfl ?_
      refine Ev_iload_n d_Mod_past_63 rfl ?_
      refine Ev_iconst (v := 2) d_Mod_past_64 (by decide) ?_
      refine Ev_iload d_Mod_past_65 rfl ?_
      refine Ev_imul d_Mod_past_67 ?_
      refine Ev_iadd d_Mod_past_68 ?_
      refine Ev_iadd d_Mod_past_69 ?_
      refine Ev_istore (L' := [some (.ref 46), some (.int x1), l2, some (.int x3), l4, some (.int x5), l6, l7, l8, some (.int (x9 + (x1 + ((2 : Int32) * x10)))), some (.int x10)]) d_Mod_past_70 (by decide) rfl ?_
      refine Ev_iinc (v := (x10 + (1 : Int32))) (L' := [some (.ref 46), some (.int x1), l2, some (.int x3), l4, some (.int x5), l6, l7, l8, some (.int (x9 + (x1 + ((2 : Int32) * x10)))), some (.int (x10 + (1 : Int32)))]) d_Mod_past_72 rfl rfl (by decide) rfl ?_
      refine Ev_goto (tgt := 55) d_Mod_past_75 rfl ?_
      exact ih hF hQ
def F_Mod_past_49 (x1 x3 x5 s0 s1 : Int32) (c : x_S) : Option (Int32 × x_S) := F_Mod_past_55 x_fuel x1 x3 x5 (s0 + s1) (1 : Int32) c
theorem T_Mod_past_49 {E : x_E} {o : x_S} {Q : Int32 → x_H → Prop} {l2 : Option Value} {l4 : Option Value} {l6 : Option Value} {l7 : Option Value} {l8 : Option Value} {l9 : Option Value} {l10 : Option Value} {x1 x3 x5 s0 s1 : Int32} {c : x_S} {r : Int32} {s : x_S} (hF : F_Mod_past_49 x1 x3 x5 s0 s1 c = some (r, s)) (hQ : Q r (hpk o s)) : Ev E m_Mod_past 0 0 49 [some (.ref 46), some (.int x1), l2, some (.int x3), l4, some (.int x5), l6, l7, l8, l9, l10] [.int s1, .int s0] (hpk o c) Q := by
  unfold F_Mod_past_49 at hF
  refine Ev_iadd d_Mod_past_49 ?_
  refine Ev_istore (L' := [some (.ref 46), some (.int x1), l2, some (.int x3), l4, some (.int x5), l6, l7, l8, some (.int (s0 + s1)), l10]) d_Mod_past_50 (by decide) rfl ?_
  refine Ev_iconst (v := 1) d_Mod_past_52 (by decide) ?_
  refine Ev_istore (L' := [some (.ref 46), some (.int x1), l2, some (.int x3), l4, some (.int x5), l6, l7, l8, some (.int (s0 + s1)), some (.int (1 : Int32))]) d_Mod_past_53 (by decide) rfl ?_
  exact T_Mod_past_55 x_fuel hF hQ
def F_Mod_past_46 (x1 x3 x5 s0 s1 s2 s3 : Int32) (c : x_S) : Option (Int32 × x_S) := x_bind (F_Mod_braking s1 s2 s3 c) (fun r1 c1 => F_Mod_past_49 x1 x3 x5 s0 r1 c1)
theorem T_Mod_past_46 {E : x_E} {o : x_S} {Q : Int32 → x_H → Prop} {l2 : Option Value} {l4 : Option Value} {l6 : Option Value} {l7 : Option Value} {l8 : Option Value} {l9 : Option Value} {l10 : Option Value} {x1 x3 x5 s0 s1 s2 s3 : Int32} {c : x_S} {r : Int32} {s : x_S} (hF : F_Mod_past_46 x1 x3 x5 s0 s1 s2 s3 c = some (r, s)) (hQ : Q r (hpk o s)) : Ev E m_Mod_past 0 0 46 [some (.ref 46), some (.int x1), l2, some (.int x3), l4, some (.int x5), l6, l7, l8, l9, l10] [.int s3, .int s2, .int s1, .int s0] (hpk o c) Q := by
  unfold F_Mod_past_46 at hF
  obtain ⟨r1, c1, hC, hF⟩ := x_bind_some hF
  refine k_Mod_198 rfl d_Mod_past_46 ⟨by decide, by decide⟩ (Nat.le_of_ble_eq_true rfl) ?_
  exact C_Mod_braking hC (T_Mod_past_49 hF hQ)
def F_Mod_past_23 (x1 x3 x4 x5 x6 x7 s0 s1 : Int32) (c : x_S) : Option (Int32 × x_S) := if (1 : Int32) ≤ (s0 - s1) then (F_Mod_past_46 x1 x3 x5 (x4 * x1) x7 x6 (s0 - s1) c) else (F_Mod_past_46 x1 x3 x5 (x4 * x1) x7 x6 (1 : Int32) c)
theorem T_Mod_past_23 {E : x_E} {o : x_S} {Q : Int32 → x_H → Prop} {l2 : Option Value} {l8 : Option Value} {l9 : Option Value} {l10 : Option Value} {x1 x3 x4 x5 x6 x7 s0 s1 : Int32} {c : x_S} {r : Int32} {s : x_S} (hF : F_Mod_past_23 x1 x3 x4 x5 x6 x7 s0 s1 c = some (r, s)) (hQ : Q r (hpk o s)) : Ev E m_Mod_past 0 0 23 [some (.ref 46), some (.int x1), l2, some (.int x3), some (.int x4), some (.int x5), some (.int x6), some (.int x7), l8, l9, l10] [.int s1, .int s0] (hpk o c) Q := by
  unfold F_Mod_past_23 at hF
  refine Ev_isub d_Mod_past_23 ?_
  refine Ev_istore (L' := [some (.ref 46), some (.int x1), l2, some (.int x3), some (.int x4), some (.int x5), some (.int x6), some (.int x7), some (.int (s0 - s1)), l9, l10]) d_Mod_past_24 (by decide) rfl ?_
  refine Ev_iload d_Mod_past_26 rfl ?_
  refine Ev_iload_n d_Mod_past_28 rfl ?_
  refine Ev_imul d_Mod_past_29 ?_
  refine Ev_iload d_Mod_past_30 rfl ?_
  refine Ev_iload d_Mod_past_32 rfl ?_
  refine Ev_iload d_Mod_past_34 rfl ?_
  refine Ev_iconst (v := 1) d_Mod_past_36 (by decide) ?_
  refine Ev_icmp_ge (tgt := 44) d_Mod_past_37 rfl (fun h1 => ?_) (fun h1 => ?_)
  · rw [if_pos h1] at hF
    refine Ev_iload d_Mod_past_44 rfl ?_
    exact T_Mod_past_46 hF hQ
  · rw [if_neg h1] at hF
    refine Ev_iconst (v := 1) d_Mod_past_40 (by decide) ?_
    refine Ev_goto (tgt := 46) d_Mod_past_41 rfl ?_
    exact T_Mod_past_46 hF hQ
def F_Mod_past (x1 x2 x3 x4 x5 x6 : Int32) (c : x_S) : Option (Int32 × x_S) := if x6 < (x1 + ((2 : Int32) * x3)) then (x_bind (F_Mod_fall x5 c) (fun r2 c2 => F_Mod_past_23 x1 x3 x4 x5 x6 (x1 + ((2 : Int32) * x3)) x2 r2 c2)) else (some ((0 : Int32), c))
theorem C_Mod_past {E : x_E} {o : x_S} {Q : Int32 → x_H → Prop} {x1 x2 x3 x4 x5 x6 : Int32} {c : x_S} {r : Int32} {s : x_S} (hF : F_Mod_past x1 x2 x3 x4 x5 x6 c = some (r, s)) (hQ : Q r (hpk o s)) : Call E m_Mod_past 0 0 [.ref 46, .int x1, .int x2, .int x3, .int x4, .int x5, .int x6] (hpk o c) Q := by
  refine Call_of (L := [some (.ref 46), some (.int x1), some (.int x2), some (.int x3), some (.int x4), some (.int x5), some (.int x6), none, none, none, none]) (by decide) (by intro v hv; simp only [List.mem_cons, List.not_mem_nil, or_false] at hv; rcases hv with rfl | rfl | rfl | rfl | rfl | rfl | rfl <;> rfl) (Nat.le_of_ble_eq_true rfl) rfl ?_
  unfold F_Mod_past at hF
  refine Ev_iload_n d_Mod_past_0 rfl ?_
  refine Ev_iconst (v := 2) d_Mod_past_1 (by decide) ?_
  refine Ev_iload_n d_Mod_past_2 rfl ?_
  refine Ev_imul d_Mod_past_3 ?_
  refine Ev_iadd d_Mod_past_4 ?_
  refine Ev_istore (L' := [some (.ref 46), some (.int x1), some (.int x2), some (.int x3), some (.int x4), some (.int x5), some (.int x6), some (.int (x1 + ((2 : Int32) * x3))), none, none, none]) d_Mod_past_5 (by decide) rfl ?_
  refine Ev_iload d_Mod_past_7 rfl ?_
  refine Ev_iload d_Mod_past_9 rfl ?_
  refine Ev_icmp_gt (tgt := 16) d_Mod_past_11 rfl (fun h1 => ?_) (fun h1 => ?_)
  · rw [if_pos h1] at hF
    refine Ev_iload_n d_Mod_past_16 rfl ?_
    refine Ev_aload_n d_Mod_past_17 rfl ?_
    refine Ev_iload d_Mod_past_18 rfl ?_
    obtain ⟨r2, c2, hC, hF⟩ := x_bind_some hF
    refine k_Mod_201 rfl d_Mod_past_20 ⟨by decide, by decide⟩ (Nat.le_of_ble_eq_true rfl) ?_
    exact C_Mod_fall hC (T_Mod_past_23 hF hQ)
  · rw [if_neg h1] at hF
    refine Ev_iconst (v := 0) d_Mod_past_14 (by decide) ?_
    cases hF
    exact Ev_zreturn d_Mod_past_15 rfl (Or.inl rfl) hQ
def F_Mod_over_155 (K : Int32 → Int32 → Int32 → Int32 → Int32 → Int32 → x_S → Option (Int32 × x_S)) (x1 x2 x3 x4 x7 s0 : Int32) (c : x_S) : Option (Int32 × x_S) := K x1 x2 x3 x4 s0 (x7 + (1 : Int32)) c
theorem T_Mod_over_155 {E : x_E} {o : x_S} {Q : Int32 → x_H → Prop} {K : Int32 → Int32 → Int32 → Int32 → Int32 → Int32 → x_S → Option (Int32 × x_S)} (hK : ∀ {l5 : Option Value} {x1 x2 x3 x4 x6 x7 : Int32} {c : x_S} {r : Int32} {s : x_S}, K x1 x2 x3 x4 x6 x7 c = some (r, s) → Q r (hpk o s) → Ev E m_Mod_over 0 0 96 [some (.ref 46), some (.int x1), some (.int x2), some (.int x3), some (.int x4), l5, some (.int x6), some (.int x7)] [] (hpk o c) Q) {l5 : Option Value} {l6 : Option Value} {x1 x2 x3 x4 x7 s0 : Int32} {c : x_S} {r : Int32} {s : x_S} (hF : F_Mod_over_155 K x1 x2 x3 x4 x7 s0 c = some (r, s)) (hQ : Q r (hpk o s)) : Ev E m_Mod_over 0 0 155 [some (.ref 46), some (.int x1), some (.int x2), some (.int x3), some (.int x4), l5, l6, some (.int x7)] [.int s0] (hpk o c) Q := by
  unfold F_Mod_over_155 at hF
  refine Ev_istore (L' := [some (.ref 46), some (.int x1), some (.int x2), some (.int x3), some (.int x4), l5, some (.int s0), some (.int x7)]) d_Mod_over_155 (by decide) rfl ?_
  refine Ev_iinc (v := (x7 + (1 : Int32))) (L' := [some (.ref 46), some (.int x1), some (.int x2), some (.int x3), some (.int x4), l5, some (.int s0), some (.int (x7 + (1 : Int32)))]) d_Mod_over_157 rfl rfl (by decide) rfl ?_
  refine Ev_goto (tgt := 96) d_Mod_over_160 rfl ?_
  exact hK hF hQ
def F_Mod_over_154 (K : Int32 → Int32 → Int32 → Int32 → Int32 → Int32 → x_S → Option (Int32 × x_S)) (x1 x2 x3 x4 x7 : Int32) (c : x_S) : Option (Int32 × x_S) := F_Mod_over_155 K x1 x2 x3 x4 x7 (0 : Int32) c
theorem T_Mod_over_154 {E : x_E} {o : x_S} {Q : Int32 → x_H → Prop} {K : Int32 → Int32 → Int32 → Int32 → Int32 → Int32 → x_S → Option (Int32 × x_S)} (hK : ∀ {l5 : Option Value} {x1 x2 x3 x4 x6 x7 : Int32} {c : x_S} {r : Int32} {s : x_S}, K x1 x2 x3 x4 x6 x7 c = some (r, s) → Q r (hpk o s) → Ev E m_Mod_over 0 0 96 [some (.ref 46), some (.int x1), some (.int x2), some (.int x3), some (.int x4), l5, some (.int x6), some (.int x7)] [] (hpk o c) Q) {l5 : Option Value} {l6 : Option Value} {x1 x2 x3 x4 x7 : Int32} {c : x_S} {r : Int32} {s : x_S} (hF : F_Mod_over_154 K x1 x2 x3 x4 x7 c = some (r, s)) (hQ : Q r (hpk o s)) : Ev E m_Mod_over 0 0 154 [some (.ref 46), some (.int x1), some (.int x2), some (.int x3), some (.int x4), l5, l6, some (.int x7)] [] (hpk o c) Q := by
  unfold F_Mod_over_154 at hF
  refine Ev_iconst (v := 0) d_Mod_over_154 (by decide) ?_
  exact T_Mod_over_155 (fun h1 h2 => hK h1 h2) hF hQ
def F_Mod_over_150 (K : Int32 → Int32 → Int32 → Int32 → Int32 → Int32 → x_S → Option (Int32 × x_S)) (x1 x2 x3 x4 x7 : Int32) (c : x_S) : Option (Int32 × x_S) := F_Mod_over_155 K x1 x2 x3 x4 x7 (1 : Int32) c
theorem T_Mod_over_150 {E : x_E} {o : x_S} {Q : Int32 → x_H → Prop} {K : Int32 → Int32 → Int32 → Int32 → Int32 → Int32 → x_S → Option (Int32 × x_S)} (hK : ∀ {l5 : Option Value} {x1 x2 x3 x4 x6 x7 : Int32} {c : x_S} {r : Int32} {s : x_S}, K x1 x2 x3 x4 x6 x7 c = some (r, s) → Q r (hpk o s) → Ev E m_Mod_over 0 0 96 [some (.ref 46), some (.int x1), some (.int x2), some (.int x3), some (.int x4), l5, some (.int x6), some (.int x7)] [] (hpk o c) Q) {l5 : Option Value} {l6 : Option Value} {x1 x2 x3 x4 x7 : Int32} {c : x_S} {r : Int32} {s : x_S} (hF : F_Mod_over_150 K x1 x2 x3 x4 x7 c = some (r, s)) (hQ : Q r (hpk o s)) : Ev E m_Mod_over 0 0 150 [some (.ref 46), some (.int x1), some (.int x2), some (.int x3), some (.int x4), l5, l6, some (.int x7)] [] (hpk o c) Q := by
  unfold F_Mod_over_150 at hF
  refine Ev_iconst (v := 1) d_Mod_over_150 (by decide) ?_
  refine Ev_goto (tgt := 155) d_Mod_over_151 rfl ?_
  exact T_Mod_over_155 (fun h1 h2 => hK h1 h2) hF hQ
def F_Mod_over_147 (K : Int32 → Int32 → Int32 → Int32 → Int32 → Int32 → x_S → Option (Int32 × x_S)) (x1 x2 x3 x4 x7 s0 : Int32) (c : x_S) : Option (Int32 × x_S) := if s0 = 0 then (F_Mod_over_154 K x1 x2 x3 x4 x7 c) else (F_Mod_over_150 K x1 x2 x3 x4 x7 c)
theorem T_Mod_over_147 {E : x_E} {o : x_S} {Q : Int32 → x_H → Prop} {K : Int32 → Int32 → Int32 → Int32 → Int32 → Int32 → x_S → Option (Int32 × x_S)} (hK : ∀ {l5 : Option Value} {x1 x2 x3 x4 x6 x7 : Int32} {c : x_S} {r : Int32} {s : x_S}, K x1 x2 x3 x4 x6 x7 c = some (r, s) → Q r (hpk o s) → Ev E m_Mod_over 0 0 96 [some (.ref 46), some (.int x1), some (.int x2), some (.int x3), some (.int x4), l5, some (.int x6), some (.int x7)] [] (hpk o c) Q) {l5 : Option Value} {l6 : Option Value} {x1 x2 x3 x4 x7 s0 : Int32} {c : x_S} {r : Int32} {s : x_S} (hF : F_Mod_over_147 K x1 x2 x3 x4 x7 s0 c = some (r, s)) (hQ : Q r (hpk o s)) : Ev E m_Mod_over 0 0 147 [some (.ref 46), some (.int x1), some (.int x2), some (.int x3), some (.int x4), l5, l6, some (.int x7)] [.int s0] (hpk o c) Q := by
  unfold F_Mod_over_147 at hF
  refine Ev_if_eq (tgt := 154) d_Mod_over_147 rfl (fun h1 => ?_) (fun h1 => ?_)
  · rw [if_pos h1] at hF
    exact T_Mod_over_154 (fun h1 h2 => hK h1 h2) hF hQ
  · rw [if_neg h1] at hF
    exact T_Mod_over_150 (fun h1 h2 => hK h1 h2) hF hQ
def F_Mod_over_96 : Nat → Int32 → Int32 → Int32 → Int32 → Int32 → Int32 → x_S → Option (Int32 × x_S)
  | 0, _, _, _, _, _, _, _ => none
  | n + 1, x1, x2, x3, x4, x6, x7, c => if (c 46 24) ≤ x7 then (x_b01 x6 (some (x6, c))) else (if x6 = 0 then (x_ix x7 6 (fun j4 => if (c 56 j4) ≤ (c 46 4) then (F_Mod_over_154 (F_Mod_over_96 n) x1 x2 x3 x4 x7 c) else (x_ix x7 6 (fun j6 => x_ix x7 6 (fun j7 => x_bind (F_Mod_past x1 x2 x3 x4 (c 56 j6) (c 58 j7) c) (fun r8 c8 => F_Mod_over_147 (F_Mod_over_96 n) x1 x2 x3 x4 x7 r8 c8)))))) else (F_Mod_over_150 (F_Mod_over_96 n) x1 x2 x3 x4 x7 c))
theorem T_Mod_over_96 {E : x_E} {o : x_S} {Q : Int32 → x_H → Prop} : ∀ (n : Nat) {l5 : Option Value} {x1 x2 x3 x4 x6 x7 : Int32} {c : x_S} {r : Int32} {s : x_S}, F_Mod_over_96 n x1 x2 x3 x4 x6 x7 c = some (r, s) → Q r (hpk o s) → Ev E m_Mod_over 0 0 96 [some (.ref 46), some (.int x1), some (.int x2), some (.int x3), some (.int x4), l5, some (.int x6), some (.int x7)] [] (hpk o c) Q := by
  intro n
  induction n with
  | zero => intro l5 x1 x2 x3 x4 x6 x7 c r s hF; rw [F_Mod_over_96] at hF; cases hF
  | succ n ih =>
    intro l5 x1 x2 x3 x4 x6 x7 c r s hF hQ
    rw [F_Mod_over_96] at hF
    refine Ev_iload d_Mod_over_96 rfl ?_
    refine Ev_aload_n d_Mod_over_98 rfl ?_
    refine g_Mod_171 rfl d_Mod_over_99 ?_
    refine Ev_icmp_ge (tgt := 163) d_Mod_over_102 rfl (fun h1 => ?_) (fun h1 => ?_)
    · rw [if_pos h1] at hF
      refine Ev_iload d_Mod_over_163 rfl ?_
      obtain ⟨hb2, hF⟩ := x_b01_some hF
      cases hF
      exact Ev_zreturn d_Mod_over_165 rfl hb2 hQ
    · rw [if_neg h1] at hF
      refine Ev_iload d_Mod_over_105 rfl ?_
      refine Ev_if_ne (tgt := 150) d_Mod_over_107 rfl (fun h3 => ?_) (fun h3 => ?_)
      · rw [if_neg h3] at hF
        exact T_Mod_over_150 (fun h1 h2 => ih h1 h2) hF hQ
      · rw [if_pos h3] at hF
        refine Ev_aload_n d_Mod_over_110 rfl ?_
        refine g_Mod_38 rfl d_Mod_over_111 ?_
        refine Ev_iload d_Mod_over_114 rfl ?_
        obtain ⟨j4, hij4, hjj4, hF⟩ := x_ix_some hF
        refine Em_iald d_Mod_over_116 (P := 56) (by decide) rfl hij4 hjj4 ?_
        refine Ev_aload_n d_Mod_over_117 rfl ?_
        refine g_Mod_195 rfl d_Mod_over_118 ?_
        refine Ev_icmp_le (tgt := 154) d_Mod_over_121 rfl (fun h5 => ?_) (fun h5 => ?_)
        · rw [if_pos h5] at hF
          exact T_Mod_over_154 (fun h1 h2 => ih h1 h2) hF hQ
        · rw [if_neg h5] at hF
          refine Ev_aload_n d_Mod_over_124 rfl ?_
          refine Ev_iload_n d_Mod_over_125 rfl ?_
          refine Ev_iload_n d_Mod_over_126 rfl ?_
          refine Ev_iload_n d_Mod_over_127 rfl ?_
          refine Ev_iload d_Mod_over_128 rfl ?_
          refine Ev_aload_n d_Mod_over_130 rfl ?_
          refine g_Mod_38 rfl d_Mod_over_131 ?_
          refine Ev_iload d_Mod_over_134 rfl ?_
          obtain ⟨j6, hij6, hjj6, hF⟩ := x_ix_some hF
          refine Em_iald d_Mod_over_136 (P := 56) (by decide) rfl hij6 hjj6 ?_
          refine Ev_aload_n d_Mod_over_137 rfl ?_
          refine g_Mod_44 rfl d_Mod_over_138 ?_
          refine Ev_iload d_Mod_over_141 rfl ?_
          obtain ⟨j7, hij7, hjj7, hF⟩ := x_ix_some hF
          refine Em_iald d_Mod_over_143 (P := 58) (by decide) rfl hij7 hjj7 ?_
          obtain ⟨r8, c8, hC, hF⟩ := x_bind_some hF
          refine k_Mod_204 rfl d_Mod_over_144 ⟨by decide, by decide⟩ (Nat.le_of_ble_eq_true rfl) ?_
          exact C_Mod_past hC (T_Mod_over_147 (fun h1 h2 => ih h1 h2) hF hQ)
def F_Mod_over_85 (K : Int32 → Int32 → Int32 → Int32 → Int32 → Int32 → x_S → Option (Int32 × x_S)) (x1 x2 x3 x4 x7 s0 : Int32) (c : x_S) : Option (Int32 × x_S) := K x1 x2 x3 x4 s0 (x7 + (1 : Int32)) c
theorem T_Mod_over_85 {E : x_E} {o : x_S} {Q : Int32 → x_H → Prop} {K : Int32 → Int32 → Int32 → Int32 → Int32 → Int32 → x_S → Option (Int32 × x_S)} (hK : ∀ {l5 : Option Value} {x1 x2 x3 x4 x6 x7 : Int32} {c : x_S} {r : Int32} {s : x_S}, K x1 x2 x3 x4 x6 x7 c = some (r, s) → Q r (hpk o s) → Ev E m_Mod_over 0 0 26 [some (.ref 46), some (.int x1), some (.int x2), some (.int x3), some (.int x4), l5, some (.int x6), some (.int x7)] [] (hpk o c) Q) {l5 : Option Value} {l6 : Option Value} {x1 x2 x3 x4 x7 s0 : Int32} {c : x_S} {r : Int32} {s : x_S} (hF : F_Mod_over_85 K x1 x2 x3 x4 x7 s0 c = some (r, s)) (hQ : Q r (hpk o s)) : Ev E m_Mod_over 0 0 85 [some (.ref 46), some (.int x1), some (.int x2), some (.int x3), some (.int x4), l5, l6, some (.int x7)] [.int s0] (hpk o c) Q := by
  unfold F_Mod_over_85 at hF
  refine Ev_istore (L' := [some (.ref 46), some (.int x1), some (.int x2), some (.int x3), some (.int x4), l5, some (.int s0), some (.int x7)]) d_Mod_over_85 (by decide) rfl ?_
  refine Ev_iinc (v := (x7 + (1 : Int32))) (L' := [some (.ref 46), some (.int x1), some (.int x2), some (.int x3), some (.int x4), l5, some (.int s0), some (.int (x7 + (1 : Int32)))]) d_Mod_over_87 rfl rfl (by decide) rfl ?_
  refine Ev_goto (tgt := 26) d_Mod_over_90 rfl ?_
  exact hK hF hQ
def F_Mod_over_84 (K : Int32 → Int32 → Int32 → Int32 → Int32 → Int32 → x_S → Option (Int32 × x_S)) (x1 x2 x3 x4 x7 : Int32) (c : x_S) : Option (Int32 × x_S) := F_Mod_over_85 K x1 x2 x3 x4 x7 (0 : Int32) c
theorem T_Mod_over_84 {E : x_E} {o : x_S} {Q : Int32 → x_H → Prop} {K : Int32 → Int32 → Int32 → Int32 → Int32 → Int32 → x_S → Option (Int32 × x_S)} (hK : ∀ {l5 : Option Value} {x1 x2 x3 x4 x6 x7 : Int32} {c : x_S} {r : Int32} {s : x_S}, K x1 x2 x3 x4 x6 x7 c = some (r, s) → Q r (hpk o s) → Ev E m_Mod_over 0 0 26 [some (.ref 46), some (.int x1), some (.int x2), some (.int x3), some (.int x4), l5, some (.int x6), some (.int x7)] [] (hpk o c) Q) {l5 : Option Value} {l6 : Option Value} {x1 x2 x3 x4 x7 : Int32} {c : x_S} {r : Int32} {s : x_S} (hF : F_Mod_over_84 K x1 x2 x3 x4 x7 c = some (r, s)) (hQ : Q r (hpk o s)) : Ev E m_Mod_over 0 0 84 [some (.ref 46), some (.int x1), some (.int x2), some (.int x3), some (.int x4), l5, l6, some (.int x7)] [] (hpk o c) Q := by
  unfold F_Mod_over_84 at hF
  refine Ev_iconst (v := 0) d_Mod_over_84 (by decide) ?_
  exact T_Mod_over_85 (fun h1 h2 => hK h1 h2) hF hQ
def F_Mod_over_80 (K : Int32 → Int32 → Int32 → Int32 → Int32 → Int32 → x_S → Option (Int32 × x_S)) (x1 x2 x3 x4 x7 : Int32) (c : x_S) : Option (Int32 × x_S) := F_Mod_over_85 K x1 x2 x3 x4 x7 (1 : Int32) c
theorem T_Mod_over_80 {E : x_E} {o : x_S} {Q : Int32 → x_H → Prop} {K : Int32 → Int32 → Int32 → Int32 → Int32 → Int32 → x_S → Option (Int32 × x_S)} (hK : ∀ {l5 : Option Value} {x1 x2 x3 x4 x6 x7 : Int32} {c : x_S} {r : Int32} {s : x_S}, K x1 x2 x3 x4 x6 x7 c = some (r, s) → Q r (hpk o s) → Ev E m_Mod_over 0 0 26 [some (.ref 46), some (.int x1), some (.int x2), some (.int x3), some (.int x4), l5, some (.int x6), some (.int x7)] [] (hpk o c) Q) {l5 : Option Value} {l6 : Option Value} {x1 x2 x3 x4 x7 : Int32} {c : x_S} {r : Int32} {s : x_S} (hF : F_Mod_over_80 K x1 x2 x3 x4 x7 c = some (r, s)) (hQ : Q r (hpk o s)) : Ev E m_Mod_over 0 0 80 [some (.ref 46), some (.int x1), some (.int x2), some (.int x3), some (.int x4), l5, l6, some (.int x7)] [] (hpk o c) Q := by
  unfold F_Mod_over_80 at hF
  refine Ev_iconst (v := 1) d_Mod_over_80 (by decide) ?_
  refine Ev_goto (tgt := 85) d_Mod_over_81 rfl ?_
  exact T_Mod_over_85 (fun h1 h2 => hK h1 h2) hF hQ
def F_Mod_over_77 (K : Int32 → Int32 → Int32 → Int32 → Int32 → Int32 → x_S → Option (Int32 × x_S)) (x1 x2 x3 x4 x7 s0 : Int32) (c : x_S) : Option (Int32 × x_S) := if s0 = 0 then (F_Mod_over_84 K x1 x2 x3 x4 x7 c) else (F_Mod_over_80 K x1 x2 x3 x4 x7 c)
theorem T_Mod_over_77 {E : x_E} {o : x_S} {Q : Int32 → x_H → Prop} {K : Int32 → Int32 → Int32 → Int32 → Int32 → Int32 → x_S → Option (Int32 × x_S)} (hK : ∀ {l5 : Option Value} {x1 x2 x3 x4 x6 x7 : Int32} {c : x_S} {r : Int32} {s : x_S}, K x1 x2 x3 x4 x6 x7 c = some (r, s) → Q r (hpk o s) → Ev E m_Mod_over 0 0 26 [some (.ref 46), some (.int x1), some (.int x2), some (.int x3), some (.int x4), l5, some (.int x6), some (.int x7)] [] (hpk o c) Q) {l5 : Option Value} {l6 : Option Value} {x1 x2 x3 x4 x7 s0 : Int32} {c : x_S} {r : Int32} {s : x_S} (hF : F_Mod_over_77 K x1 x2 x3 x4 x7 s0 c = some (r, s)) (hQ : Q r (hpk o s)) : Ev E m_Mod_over 0 0 77 [some (.ref 46), some (.int x1), some (.int x2), some (.int x3), some (.int x4), l5, l6, some (.int x7)] [.int s0] (hpk o c) Q := by
  unfold F_Mod_over_77 at hF
  refine Ev_if_eq (tgt := 84) d_Mod_over_77 rfl (fun h1 => ?_) (fun h1 => ?_)
  · rw [if_pos h1] at hF
    exact T_Mod_over_84 (fun h1 h2 => hK h1 h2) hF hQ
  · rw [if_neg h1] at hF
    exact T_Mod_over_80 (fun h1 h2 => hK h1 h2) hF hQ
def F_Mod_over_26 : Nat → Int32 → Int32 → Int32 → Int32 → Int32 → Int32 → x_S → Option (Int32 × x_S)
  | 0, _, _, _, _, _, _, _ => none
  | n + 1, x1, x2, x3, x4, x6, x7, c => if (c 46 13) ≤ x7 then (F_Mod_over_96 x_fuel x1 x2 x3 x4 x6 (0 : Int32) c) else (if x6 = 0 then (x_ix x7 7 (fun j3 => if (c 47 j3) ≤ (c 46 4) then (F_Mod_over_84 (F_Mod_over_26 n) x1 x2 x3 x4 x7 c) else (x_ix x7 7 (fun j5 => x_ix x7 7 (fun j6 => x_bind (F_Mod_past x1 x2 x3 x4 (c 47 j5) (c 48 j6) c) (fun r7 c7 => F_Mod_over_77 (F_Mod_over_26 n) x1 x2 x3 x4 x7 r7 c7)))))) else (F_Mod_over_80 (F_Mod_over_26 n) x1 x2 x3 x4 x7 c))
theorem T_Mod_over_26 {E : x_E} {o : x_S} {Q : Int32 → x_H → Prop} : ∀ (n : Nat) {l5 : Option Value} {x1 x2 x3 x4 x6 x7 : Int32} {c : x_S} {r : Int32} {s : x_S}, F_Mod_over_26 n x1 x2 x3 x4 x6 x7 c = some (r, s) → Q r (hpk o s) → Ev E m_Mod_over 0 0 26 [some (.ref 46), some (.int x1), some (.int x2), some (.int x3), some (.int x4), l5, some (.int x6), some (.int x7)] [] (hpk o c) Q := by
  intro n
  induction n with
  | zero => intro l5 x1 x2 x3 x4 x6 x7 c r s hF; rw [F_Mod_over_26] at hF; cases hF
  | succ n ih =>
    intro l5 x1 x2 x3 x4 x6 x7 c r s hF hQ
    rw [F_Mod_over_26] at hF
    refine Ev_iload d_Mod_over_26 rfl ?_
    refine Ev_aload_n d_Mod_over_28 rfl ?_
    refine g_Mod_92 rfl d_Mod_over_29 ?_
    refine Ev_icmp_ge (tgt := 93) d_Mod_over_32 rfl (fun h1 => ?_) (fun h1 => ?_)
    · rw [if_pos h1] at hF
      refine Ev_iconst (v := 0) d_Mod_over_93 (by decide) ?_
      refine Ev_istore (L' := [some (.ref 46), some (.int x1), some (.int x2), some (.int x3), some (.int x4), l5, some (.int x6), some (.int (0 : Int32))]) d_Mod_over_94 (by decide) rfl ?_
      exact T_Mod_over_96 x_fuel hF hQ
    · rw [if_neg h1] at hF
      refine Ev_iload d_Mod_over_35 rfl ?_
      refine Ev_if_ne (tgt := 80) d_Mod_over_37 rfl (fun h2 => ?_) (fun h2 => ?_)
      · rw [if_neg h2] at hF
        exact T_Mod_over_80 (fun h1 h2 => ih h1 h2) hF hQ
      · rw [if_pos h2] at hF
        refine Ev_aload_n d_Mod_over_40 rfl ?_
        refine g_Mod_7 rfl d_Mod_over_41 ?_
        refine Ev_iload d_Mod_over_44 rfl ?_
        obtain ⟨j3, hij3, hjj3, hF⟩ := x_ix_some hF
        refine Em_iald d_Mod_over_46 (P := 47) (by decide) rfl hij3 hjj3 ?_
        refine Ev_aload_n d_Mod_over_47 rfl ?_
        refine g_Mod_195 rfl d_Mod_over_48 ?_
        refine Ev_icmp_le (tgt := 84) d_Mod_over_51 rfl (fun h4 => ?_) (fun h4 => ?_)
        · rw [if_pos h4] at hF
          exact T_Mod_over_84 (fun h1 h2 => ih h1 h2) hF hQ
        · rw [if_neg h4] at hF
          refine Ev_aload_n d_Mod_over_54 rfl ?_
          refine Ev_iload_n d_Mod_over_55 rfl ?_
          refine Ev_iload_n d_Mod_over_56 rfl ?_
          refine Ev_iload_n d_Mod_over_57 rfl ?_
          refine Ev_iload d_Mod_over_58 rfl ?_
          refine Ev_aload_n d_Mod_over_60 rfl ?_
          refine g_Mod_7 rfl d_Mod_over_61 ?_
          refine Ev_iload d_Mod_over_64 rfl ?_
          obtain ⟨j5, hij5, hjj5, hF⟩ := x_ix_some hF
          refine Em_iald d_Mod_over_66 (P := 47) (by decide) rfl hij5 hjj5 ?_
          refine Ev_aload_n d_Mod_over_67 rfl ?_
          refine g_Mod_13 rfl d_Mod_over_68 ?_
          refine Ev_iload d_Mod_over_71 rfl ?_
          obtain ⟨j6, hij6, hjj6, hF⟩ := x_ix_some hF
          refine Em_iald d_Mod_over_73 (P := 48) (by decide) rfl hij6 hjj6 ?_
          obtain ⟨r7, c7, hC, hF⟩ := x_bind_some hF
          refine k_Mod_204 rfl d_Mod_over_74 ⟨by decide, by decide⟩ (Nat.le_of_ble_eq_true rfl) ?_
          exact C_Mod_past hC (T_Mod_over_77 (fun h1 h2 => ih h1 h2) hF hQ)
def F_Mod_over_21 (x1 x2 x3 x4 s0 : Int32) (c : x_S) : Option (Int32 × x_S) := F_Mod_over_26 x_fuel x1 x2 x3 x4 s0 (0 : Int32) c
theorem T_Mod_over_21 {E : x_E} {o : x_S} {Q : Int32 → x_H → Prop} {l5 : Option Value} {l6 : Option Value} {l7 : Option Value} {x1 x2 x3 x4 s0 : Int32} {c : x_S} {r : Int32} {s : x_S} (hF : F_Mod_over_21 x1 x2 x3 x4 s0 c = some (r, s)) (hQ : Q r (hpk o s)) : Ev E m_Mod_over 0 0 21 [some (.ref 46), some (.int x1), some (.int x2), some (.int x3), some (.int x4), l5, l6, l7] [.int s0] (hpk o c) Q := by
  unfold F_Mod_over_21 at hF
  refine Ev_istore (L' := [some (.ref 46), some (.int x1), some (.int x2), some (.int x3), some (.int x4), l5, some (.int s0), l7]) d_Mod_over_21 (by decide) rfl ?_
  refine Ev_iconst (v := 0) d_Mod_over_23 (by decide) ?_
  refine Ev_istore (L' := [some (.ref 46), some (.int x1), some (.int x2), some (.int x3), some (.int x4), l5, some (.int s0), some (.int (0 : Int32))]) d_Mod_over_24 (by decide) rfl ?_
  exact T_Mod_over_26 x_fuel hF hQ
def F_Mod_over_4 (x1 x2 x3 x4 x5 s0 : Int32) (c : x_S) : Option (Int32 × x_S) := if s0 = 0 then (some ((0 : Int32), c)) else (x_bind (F_Mod_past x1 x2 x3 x4 x5 (0 : Int32) c) (fun r2 c2 => F_Mod_over_21 x1 x2 x3 x4 r2 c2))
theorem T_Mod_over_4 {E : x_E} {o : x_S} {Q : Int32 → x_H → Prop} {l6 : Option Value} {l7 : Option Value} {x1 x2 x3 x4 x5 s0 : Int32} {c : x_S} {r : Int32} {s : x_S} (hF : F_Mod_over_4 x1 x2 x3 x4 x5 s0 c = some (r, s)) (hQ : Q r (hpk o s)) : Ev E m_Mod_over 0 0 4 [some (.ref 46), some (.int x1), some (.int x2), some (.int x3), some (.int x4), some (.int x5), l6, l7] [.int s0] (hpk o c) Q := by
  unfold F_Mod_over_4 at hF
  refine Ev_if_ne (tgt := 9) d_Mod_over_4 rfl (fun h1 => ?_) (fun h1 => ?_)
  · rw [if_neg h1] at hF
    refine Ev_aload_n d_Mod_over_9 rfl ?_
    refine Ev_iload_n d_Mod_over_10 rfl ?_
    refine Ev_iload_n d_Mod_over_11 rfl ?_
    refine Ev_iload_n d_Mod_over_12 rfl ?_
    refine Ev_iload d_Mod_over_13 rfl ?_
    refine Ev_iload d_Mod_over_15 rfl ?_
    refine Ev_iconst (v := 0) d_Mod_over_17 (by decide) ?_
    obtain ⟨r2, c2, hC, hF⟩ := x_bind_some hF
    refine k_Mod_204 rfl d_Mod_over_18 ⟨by decide, by decide⟩ (Nat.le_of_ble_eq_true rfl) ?_
    exact C_Mod_past hC (T_Mod_over_21 hF hQ)
  · rw [if_pos h1] at hF
    refine Ev_iconst (v := 0) d_Mod_over_7 (by decide) ?_
    cases hF
    exact Ev_zreturn d_Mod_over_8 rfl (Or.inl rfl) hQ
def F_Mod_over (x1 x2 x3 x4 x5 : Int32) (c : x_S) : Option (Int32 × x_S) := x_bind (F_Mod_watched c) (fun r1 c1 => F_Mod_over_4 x1 x2 x3 x4 x5 r1 c1)
theorem C_Mod_over {E : x_E} {o : x_S} {Q : Int32 → x_H → Prop} {x1 x2 x3 x4 x5 : Int32} {c : x_S} {r : Int32} {s : x_S} (hF : F_Mod_over x1 x2 x3 x4 x5 c = some (r, s)) (hQ : Q r (hpk o s)) : Call E m_Mod_over 0 0 [.ref 46, .int x1, .int x2, .int x3, .int x4, .int x5] (hpk o c) Q := by
  refine Call_of (L := [some (.ref 46), some (.int x1), some (.int x2), some (.int x3), some (.int x4), some (.int x5), none, none]) (by decide) (by intro v hv; simp only [List.mem_cons, List.not_mem_nil, or_false] at hv; rcases hv with rfl | rfl | rfl | rfl | rfl | rfl <;> rfl) (Nat.le_of_ble_eq_true rfl) rfl ?_
  unfold F_Mod_over at hF
  refine Ev_aload_n d_Mod_over_0 rfl ?_
  obtain ⟨r1, c1, hC, hF⟩ := x_bind_some hF
  refine k_Mod_154 rfl d_Mod_over_1 ⟨by decide, by decide⟩ (Nat.le_of_ble_eq_true rfl) ?_
  exact C_Mod_watched hC (T_Mod_over_4 hF hQ)
def F_Mod_grade_127 (s0 : Int32) (c : x_S) : Option (Int32 × x_S) := some (s0, c)
theorem T_Mod_grade_127 {E : x_E} {o : x_S} {Q : Int32 → x_H → Prop} {l0 : Option Value} {l1 : Option Value} {l2 : Option Value} {l3 : Option Value} {s0 : Int32} {c : x_S} {r : Int32} {s : x_S} (hF : F_Mod_grade_127 s0 c = some (r, s)) (hQ : Q r (hpk o s)) : Ev E m_Mod_grade 0 0 127 [l0, l1, l2, l3] [.int s0] (hpk o c) Q := by
  unfold F_Mod_grade_127 at hF
  cases hF
  exact Ev_ireturn d_Mod_grade_127 rfl hQ
def F_Mod_grade_122 (c : x_S) : Option (Int32 × x_S) := F_Mod_grade_127 (1 : Int32) c
theorem T_Mod_grade_122 {E : x_E} {o : x_S} {Q : Int32 → x_H → Prop} {l0 : Option Value} {l1 : Option Value} {l2 : Option Value} {l3 : Option Value} {c : x_S} {r : Int32} {s : x_S} (hF : F_Mod_grade_122 c = some (r, s)) (hQ : Q r (hpk o s)) : Ev E m_Mod_grade 0 0 122 [l0, l1, l2, l3] [] (hpk o c) Q := by
  unfold F_Mod_grade_122 at hF
  refine Ev_iconst (v := 1) d_Mod_grade_122 (by decide) ?_
  refine Ev_goto (tgt := 127) d_Mod_grade_123 rfl ?_
  exact T_Mod_grade_127 hF hQ
def F_Mod_grade_119 (s0 : Int32) (c : x_S) : Option (Int32 × x_S) := if s0 = 0 then (F_Mod_grade_127 (0 : Int32) c) else (F_Mod_grade_122 c)
theorem T_Mod_grade_119 {E : x_E} {o : x_S} {Q : Int32 → x_H → Prop} {l0 : Option Value} {l1 : Option Value} {l2 : Option Value} {l3 : Option Value} {s0 : Int32} {c : x_S} {r : Int32} {s : x_S} (hF : F_Mod_grade_119 s0 c = some (r, s)) (hQ : Q r (hpk o s)) : Ev E m_Mod_grade 0 0 119 [l0, l1, l2, l3] [.int s0] (hpk o c) Q := by
  unfold F_Mod_grade_119 at hF
  refine Ev_if_eq (tgt := 126) d_Mod_grade_119 rfl (fun h1 => ?_) (fun h1 => ?_)
  · rw [if_pos h1] at hF
    refine Ev_iconst (v := 0) d_Mod_grade_126 (by decide) ?_
    exact T_Mod_grade_127 hF hQ
  · rw [if_neg h1] at hF
    exact T_Mod_grade_122 hF hQ
def F_Mod_grade_100 (c : x_S) : Option (Int32 × x_S) := some ((2 : Int32), c)
theorem T_Mod_grade_100 {E : x_E} {o : x_S} {Q : Int32 → x_H → Prop} {l0 : Option Value} {l1 : Option Value} {l2 : Option Value} {l3 : Option Value} {c : x_S} {r : Int32} {s : x_S} (hF : F_Mod_grade_100 c = some (r, s)) (hQ : Q r (hpk o s)) : Ev E m_Mod_grade 0 0 100 [l0, l1, l2, l3] [] (hpk o c) Q := by
  unfold F_Mod_grade_100 at hF
  refine Ev_iconst (v := 2) d_Mod_grade_100 (by decide) ?_
  cases hF
  exact Ev_ireturn d_Mod_grade_101 rfl hQ
def F_Mod_grade_97 (x1 x2 x3 s0 : Int32) (c : x_S) : Option (Int32 × x_S) := if s0 = 0 then (if x3 < x1 then (F_Mod_grade_122 c) else (x_bind (F_Mod_over x1 (c 46 1) (3 : Int32) (4 : Int32) x2 c) (fun r3 c3 => F_Mod_grade_119 r3 c3))) else (F_Mod_grade_100 c)
theorem T_Mod_grade_97 {E : x_E} {o : x_S} {Q : Int32 → x_H → Prop} {x1 x2 x3 s0 : Int32} {c : x_S} {r : Int32} {s : x_S} (hF : F_Mod_grade_97 x1 x2 x3 s0 c = some (r, s)) (hQ : Q r (hpk o s)) : Ev E m_Mod_grade 0 0 97 [some (.ref 46), some (.int x1), some (.int x2), some (.int x3)] [.int s0] (hpk o c) Q := by
  unfold F_Mod_grade_97 at hF
  refine Ev_if_eq (tgt := 102) d_Mod_grade_97 rfl (fun h1 => ?_) (fun h1 => ?_)
  · rw [if_pos h1] at hF
    refine Ev_iload_n d_Mod_grade_102 rfl ?_
    refine Ev_iload_n d_Mod_grade_103 rfl ?_
    refine Ev_icmp_gt (tgt := 122) d_Mod_grade_104 rfl (fun h2 => ?_) (fun h2 => ?_)
    · rw [if_pos h2] at hF
      exact T_Mod_grade_122 hF hQ
    · rw [if_neg h2] at hF
      refine Ev_aload_n d_Mod_grade_107 rfl ?_
      refine Ev_iload_n d_Mod_grade_108 rfl ?_
      refine Ev_aload_n d_Mod_grade_109 rfl ?_
      refine g_Mod_69 rfl d_Mod_grade_110 ?_
      refine Ev_iconst (v := 3) d_Mod_grade_113 (by decide) ?_
      refine Ev_iconst (v := 4) d_Mod_grade_114 (by decide) ?_
      refine Ev_iload_n d_Mod_grade_115 rfl ?_
      obtain ⟨r3, c3, hC, hF⟩ := x_bind_some hF
      refine k_Mod_212 rfl d_Mod_grade_116 ⟨by decide, by decide⟩ (Nat.le_of_ble_eq_true rfl) ?_
      exact C_Mod_over hC (T_Mod_grade_119 hF hQ)
  · rw [if_neg h1] at hF
    exact T_Mod_grade_100 hF hQ
def F_Mod_grade_76 (c : x_S) : Option (Int32 × x_S) := some ((3 : Int32), c)
theorem T_Mod_grade_76 {E : x_E} {o : x_S} {Q : Int32 → x_H → Prop} {l0 : Option Value} {l1 : Option Value} {l2 : Option Value} {l3 : Option Value} {c : x_S} {r : Int32} {s : x_S} (hF : F_Mod_grade_76 c = some (r, s)) (hQ : Q r (hpk o s)) : Ev E m_Mod_grade 0 0 76 [l0, l1, l2, l3] [] (hpk o c) Q := by
  unfold F_Mod_grade_76 at hF
  refine Ev_iconst (v := 3) d_Mod_grade_76 (by decide) ?_
  cases hF
  exact Ev_ireturn d_Mod_grade_77 rfl hQ
def F_Mod_grade_73 (x1 x2 x3 s0 : Int32) (c : x_S) : Option (Int32 × x_S) := if s0 = 0 then (if (x3 + (3 : Int32)) < x1 then (F_Mod_grade_100 c) else (x_bind (F_Mod_over x1 (c 46 1) (3 : Int32) (2 : Int32) x2 c) (fun r3 c3 => F_Mod_grade_97 x1 x2 x3 r3 c3))) else (F_Mod_grade_76 c)
theorem T_Mod_grade_73 {E : x_E} {o : x_S} {Q : Int32 → x_H → Prop} {x1 x2 x3 s0 : Int32} {c : x_S} {r : Int32} {s : x_S} (hF : F_Mod_grade_73 x1 x2 x3 s0 c = some (r, s)) (hQ : Q r (hpk o s)) : Ev E m_Mod_grade 0 0 73 [some (.ref 46), some (.int x1), some (.int x2), some (.int x3)] [.int s0] (hpk o c) Q := by
  unfold F_Mod_grade_73 at hF
  refine Ev_if_eq (tgt := 78) d_Mod_grade_73 rfl (fun h1 => ?_) (fun h1 => ?_)
  · rw [if_pos h1] at hF
    refine Ev_iload_n d_Mod_grade_78 rfl ?_
    refine Ev_iload_n d_Mod_grade_79 rfl ?_
    refine Ev_iconst (v := 3) d_Mod_grade_80 (by decide) ?_
    refine Ev_iadd d_Mod_grade_81 ?_
    refine Ev_icmp_gt (tgt := 100) d_Mod_grade_82 rfl (fun h2 => ?_) (fun h2 => ?_)
    · rw [if_pos h2] at hF
      exact T_Mod_grade_100 hF hQ
    · rw [if_neg h2] at hF
      refine Ev_aload_n d_Mod_grade_85 rfl ?_
      refine Ev_iload_n d_Mod_grade_86 rfl ?_
      refine Ev_aload_n d_Mod_grade_87 rfl ?_
      refine g_Mod_69 rfl d_Mod_grade_88 ?_
      refine Ev_iconst (v := 3) d_Mod_grade_91 (by decide) ?_
      refine Ev_iconst (v := 2) d_Mod_grade_92 (by decide) ?_
      refine Ev_iload_n d_Mod_grade_93 rfl ?_
      obtain ⟨r3, c3, hC, hF⟩ := x_bind_some hF
      refine k_Mod_212 rfl d_Mod_grade_94 ⟨by decide, by decide⟩ (Nat.le_of_ble_eq_true rfl) ?_
      exact C_Mod_over hC (T_Mod_grade_97 hF hQ)
  · rw [if_neg h1] at hF
    exact T_Mod_grade_76 hF hQ
def F_Mod_grade_52 (c : x_S) : Option (Int32 × x_S) := some ((4 : Int32), c)
theorem T_Mod_grade_52 {E : x_E} {o : x_S} {Q : Int32 → x_H → Prop} {l0 : Option Value} {l1 : Option Value} {l2 : Option Value} {l3 : Option Value} {c : x_S} {r : Int32} {s : x_S} (hF : F_Mod_grade_52 c = some (r, s)) (hQ : Q r (hpk o s)) : Ev E m_Mod_grade 0 0 52 [l0, l1, l2, l3] [] (hpk o c) Q := by
  unfold F_Mod_grade_52 at hF
  refine Ev_iconst (v := 4) d_Mod_grade_52 (by decide) ?_
  cases hF
  exact Ev_ireturn d_Mod_grade_53 rfl hQ
def F_Mod_grade_49 (x1 x2 x3 s0 : Int32) (c : x_S) : Option (Int32 × x_S) := if s0 = 0 then (if (x3 + (5 : Int32)) < x1 then (F_Mod_grade_76 c) else (x_bind (F_Mod_over x1 (c 46 1) (3 : Int32) (0 : Int32) x2 c) (fun r3 c3 => F_Mod_grade_73 x1 x2 x3 r3 c3))) else (F_Mod_grade_52 c)
theorem T_Mod_grade_49 {E : x_E} {o : x_S} {Q : Int32 → x_H → Prop} {x1 x2 x3 s0 : Int32} {c : x_S} {r : Int32} {s : x_S} (hF : F_Mod_grade_49 x1 x2 x3 s0 c = some (r, s)) (hQ : Q r (hpk o s)) : Ev E m_Mod_grade 0 0 49 [some (.ref 46), some (.int x1), some (.int x2), some (.int x3)] [.int s0] (hpk o c) Q := by
  unfold F_Mod_grade_49 at hF
  refine Ev_if_eq (tgt := 54) d_Mod_grade_49 rfl (fun h1 => ?_) (fun h1 => ?_)
  · rw [if_pos h1] at hF
    refine Ev_iload_n d_Mod_grade_54 rfl ?_
    refine Ev_iload_n d_Mod_grade_55 rfl ?_
    refine Ev_iconst (v := 5) d_Mod_grade_56 (by decide) ?_
    refine Ev_iadd d_Mod_grade_57 ?_
    refine Ev_icmp_gt (tgt := 76) d_Mod_grade_58 rfl (fun h2 => ?_) (fun h2 => ?_)
    · rw [if_pos h2] at hF
      exact T_Mod_grade_76 hF hQ
    · rw [if_neg h2] at hF
      refine Ev_aload_n d_Mod_grade_61 rfl ?_
      refine Ev_iload_n d_Mod_grade_62 rfl ?_
      refine Ev_aload_n d_Mod_grade_63 rfl ?_
      refine g_Mod_69 rfl d_Mod_grade_64 ?_
      refine Ev_iconst (v := 3) d_Mod_grade_67 (by decide) ?_
      refine Ev_iconst (v := 0) d_Mod_grade_68 (by decide) ?_
      refine Ev_iload_n d_Mod_grade_69 rfl ?_
      obtain ⟨r3, c3, hC, hF⟩ := x_bind_some hF
      refine k_Mod_212 rfl d_Mod_grade_70 ⟨by decide, by decide⟩ (Nat.le_of_ble_eq_true rfl) ?_
      exact C_Mod_over hC (T_Mod_grade_73 hF hQ)
  · rw [if_neg h1] at hF
    exact T_Mod_grade_52 hF hQ
def F_Mod_grade_23 (x1 x2 s0 : Int32) (c : x_S) : Option (Int32 × x_S) := if (s0 + (8 : Int32)) < x1 then (F_Mod_grade_52 c) else (x_bind (F_Mod_over x1 (c 46 0) (2 : Int32) (0 : Int32) (x2 + (c 46 10)) c) (fun r2 c2 => F_Mod_grade_49 x1 x2 s0 r2 c2))
theorem T_Mod_grade_23 {E : x_E} {o : x_S} {Q : Int32 → x_H → Prop} {l3 : Option Value} {x1 x2 s0 : Int32} {c : x_S} {r : Int32} {s : x_S} (hF : F_Mod_grade_23 x1 x2 s0 c = some (r, s)) (hQ : Q r (hpk o s)) : Ev E m_Mod_grade 0 0 23 [some (.ref 46), some (.int x1), some (.int x2), l3] [.int s0] (hpk o c) Q := by
  unfold F_Mod_grade_23 at hF
  refine Ev_istore_n (L' := [some (.ref 46), some (.int x1), some (.int x2), some (.int s0)]) d_Mod_grade_23 (by decide) rfl ?_
  refine Ev_iload_n d_Mod_grade_24 rfl ?_
  refine Ev_iload_n d_Mod_grade_25 rfl ?_
  refine Ev_bipush (v := (8)) d_Mod_grade_26 (by decide) ?_
  refine Ev_iadd d_Mod_grade_28 ?_
  refine Ev_icmp_gt (tgt := 52) d_Mod_grade_29 rfl (fun h1 => ?_) (fun h1 => ?_)
  · rw [if_pos h1] at hF
    exact T_Mod_grade_52 hF hQ
  · rw [if_neg h1] at hF
    refine Ev_aload_n d_Mod_grade_32 rfl ?_
    refine Ev_iload_n d_Mod_grade_33 rfl ?_
    refine Ev_aload_n d_Mod_grade_34 rfl ?_
    refine g_Mod_66 rfl d_Mod_grade_35 ?_
    refine Ev_iconst (v := 2) d_Mod_grade_38 (by decide) ?_
    refine Ev_iconst (v := 0) d_Mod_grade_39 (by decide) ?_
    refine Ev_iload_n d_Mod_grade_40 rfl ?_
    refine Ev_aload_n d_Mod_grade_41 rfl ?_
    refine g_Mod_183 rfl d_Mod_grade_42 ?_
    refine Ev_iadd d_Mod_grade_45 ?_
    obtain ⟨r2, c2, hC, hF⟩ := x_bind_some hF
    refine k_Mod_212 rfl d_Mod_grade_46 ⟨by decide, by decide⟩ (Nat.le_of_ble_eq_true rfl) ?_
    exact C_Mod_over hC (T_Mod_grade_49 hF hQ)
def F_Mod_grade_17 (c : x_S) : Option (Int32 × x_S) := some ((4 : Int32), c)
theorem T_Mod_grade_17 {E : x_E} {o : x_S} {Q : Int32 → x_H → Prop} {l0 : Option Value} {l1 : Option Value} {l2 : Option Value} {l3 : Option Value} {c : x_S} {r : Int32} {s : x_S} (hF : F_Mod_grade_17 c = some (r, s)) (hQ : Q r (hpk o s)) : Ev E m_Mod_grade 0 0 17 [l0, l1, l2, l3] [] (hpk o c) Q := by
  unfold F_Mod_grade_17 at hF
  refine Ev_iconst (v := 4) d_Mod_grade_17 (by decide) ?_
  cases hF
  exact Ev_ireturn d_Mod_grade_18 rfl hQ
def F_Mod_grade (x1 x2 : Int32) (c : x_S) : Option (Int32 × x_S) := if (c 46 6) = (4 : Int32) then (F_Mod_grade_17 c) else (if (c 46 6) = (6 : Int32) then (F_Mod_grade_17 c) else (x_bind (F_Mod_ceiling c) (fun r3 c3 => F_Mod_grade_23 x1 x2 r3 c3)))
theorem C_Mod_grade {E : x_E} {o : x_S} {Q : Int32 → x_H → Prop} {x1 x2 : Int32} {c : x_S} {r : Int32} {s : x_S} (hF : F_Mod_grade x1 x2 c = some (r, s)) (hQ : Q r (hpk o s)) : Call E m_Mod_grade 0 0 [.ref 46, .int x1, .int x2] (hpk o c) Q := by
  refine Call_of (L := [some (.ref 46), some (.int x1), some (.int x2), none]) (by decide) (by intro v hv; simp only [List.mem_cons, List.not_mem_nil, or_false] at hv; rcases hv with rfl | rfl | rfl <;> rfl) (Nat.le_of_ble_eq_true rfl) rfl ?_
  unfold F_Mod_grade at hF
  refine Ev_aload_n d_Mod_grade_0 rfl ?_
  refine g_Mod_81 rfl d_Mod_grade_1 ?_
  refine Ev_iconst (v := 4) d_Mod_grade_4 (by decide) ?_
  refine Ev_icmp_eq (tgt := 17) d_Mod_grade_5 rfl (fun h1 => ?_) (fun h1 => ?_)
  · rw [if_pos h1] at hF
    exact T_Mod_grade_17 hF hQ
  · rw [if_neg h1] at hF
    refine Ev_aload_n d_Mod_grade_8 rfl ?_
    refine g_Mod_81 rfl d_Mod_grade_9 ?_
    refine Ev_bipush (v := (6)) d_Mod_grade_12 (by decide) ?_
    refine Ev_icmp_ne (tgt := 19) d_Mod_grade_14 rfl (fun h2 => ?_) (fun h2 => ?_)
    · rw [if_neg h2] at hF
      refine Ev_aload_n d_Mod_grade_19 rfl ?_
      obtain ⟨r3, c3, hC, hF⟩ := x_bind_some hF
      refine k_Mod_208 rfl d_Mod_grade_20 ⟨by decide, by decide⟩ (Nat.le_of_ble_eq_true rfl) ?_
      exact C_Mod_ceiling hC (T_Mod_grade_23 hF hQ)
    · rw [if_pos h2] at hF
      exact T_Mod_grade_17 hF hQ
def F_Mod_fits_111 (s0 : Int32) (c : x_S) : Option (Int32 × x_S) := x_b01 s0 (some (s0, c))
theorem T_Mod_fits_111 {E : x_E} {o : x_S} {Q : Int32 → x_H → Prop} {l0 : Option Value} {l1 : Option Value} {l2 : Option Value} {l3 : Option Value} {l4 : Option Value} {s0 : Int32} {c : x_S} {r : Int32} {s : x_S} (hF : F_Mod_fits_111 s0 c = some (r, s)) (hQ : Q r (hpk o s)) : Ev E m_Mod_fits 0 0 111 [l0, l1, l2, l3, l4] [.int s0] (hpk o c) Q := by
  unfold F_Mod_fits_111 at hF
  obtain ⟨hb1, hF⟩ := x_b01_some hF
  cases hF
  exact Ev_zreturn d_Mod_fits_111 rfl hb1 hQ
def F_Mod_fits_106 (c : x_S) : Option (Int32 × x_S) := F_Mod_fits_111 (1 : Int32) c
theorem T_Mod_fits_106 {E : x_E} {o : x_S} {Q : Int32 → x_H → Prop} {l0 : Option Value} {l1 : Option Value} {l2 : Option Value} {l3 : Option Value} {l4 : Option Value} {c : x_S} {r : Int32} {s : x_S} (hF : F_Mod_fits_106 c = some (r, s)) (hQ : Q r (hpk o s)) : Ev E m_Mod_fits 0 0 106 [l0, l1, l2, l3, l4] [] (hpk o c) Q := by
  unfold F_Mod_fits_106 at hF
  refine Ev_iconst (v := 1) d_Mod_fits_106 (by decide) ?_
  refine Ev_goto (tgt := 111) d_Mod_fits_107 rfl ?_
  exact T_Mod_fits_111 hF hQ
def F_Mod_fits_89 (K : Int32 → Int32 → Int32 → x_S → Option (Int32 × x_S)) (x1 x3 s0 : Int32) (c : x_S) : Option (Int32 × x_S) := K x1 s0 (x3 + (1 : Int32)) c
theorem T_Mod_fits_89 {E : x_E} {o : x_S} {Q : Int32 → x_H → Prop} {K : Int32 → Int32 → Int32 → x_S → Option (Int32 × x_S)} (hK : ∀ {l4 : Option Value} {x1 x2 x3 : Int32} {c : x_S} {r : Int32} {s : x_S}, K x1 x2 x3 c = some (r, s) → Q r (hpk o s) → Ev E m_Mod_fits 0 0 6 [some (.ref 46), some (.int x1), some (.int x2), some (.int x3), l4] [] (hpk o c) Q) {l2 : Option Value} {l4 : Option Value} {x1 x3 s0 : Int32} {c : x_S} {r : Int32} {s : x_S} (hF : F_Mod_fits_89 K x1 x3 s0 c = some (r, s)) (hQ : Q r (hpk o s)) : Ev E m_Mod_fits 0 0 89 [some (.ref 46), some (.int x1), l2, some (.int x3), l4] [.int s0] (hpk o c) Q := by
  unfold F_Mod_fits_89 at hF
  refine Ev_istore_n (L' := [some (.ref 46), some (.int x1), some (.int s0), some (.int x3), l4]) d_Mod_fits_89 (by decide) rfl ?_
  refine Ev_iinc (v := (x3 + (1 : Int32))) (L' := [some (.ref 46), some (.int x1), some (.int s0), some (.int (x3 + (1 : Int32))), l4]) d_Mod_fits_90 rfl rfl (by decide) rfl ?_
  refine Ev_goto (tgt := 6) d_Mod_fits_93 rfl ?_
  exact hK hF hQ
def F_Mod_fits_88 (K : Int32 → Int32 → Int32 → x_S → Option (Int32 × x_S)) (x1 x3 : Int32) (c : x_S) : Option (Int32 × x_S) := F_Mod_fits_89 K x1 x3 (0 : Int32) c
theorem T_Mod_fits_88 {E : x_E} {o : x_S} {Q : Int32 → x_H → Prop} {K : Int32 → Int32 → Int32 → x_S → Option (Int32 × x_S)} (hK : ∀ {l4 : Option Value} {x1 x2 x3 : Int32} {c : x_S} {r : Int32} {s : x_S}, K x1 x2 x3 c = some (r, s) → Q r (hpk o s) → Ev E m_Mod_fits 0 0 6 [some (.ref 46), some (.int x1), some (.int x2), some (.int x3), l4] [] (hpk o c) Q) {l2 : Option Value} {l4 : Option Value} {x1 x3 : Int32} {c : x_S} {r : Int32} {s : x_S} (hF : F_Mod_fits_88 K x1 x3 c = some (r, s)) (hQ : Q r (hpk o s)) : Ev E m_Mod_fits 0 0 88 [some (.ref 46), some (.int x1), l2, some (.int x3), l4] [] (hpk o c) Q := by
  unfold F_Mod_fits_88 at hF
  refine Ev_iconst (v := 0) d_Mod_fits_88 (by decide) ?_
  exact T_Mod_fits_89 (fun h1 h2 => hK h1 h2) hF hQ
def F_Mod_fits_84 (K : Int32 → Int32 → Int32 → x_S → Option (Int32 × x_S)) (x1 x3 : Int32) (c : x_S) : Option (Int32 × x_S) := F_Mod_fits_89 K x1 x3 (1 : Int32) c
theorem T_Mod_fits_84 {E : x_E} {o : x_S} {Q : Int32 → x_H → Prop} {K : Int32 → Int32 → Int32 → x_S → Option (Int32 × x_S)} (hK : ∀ {l4 : Option Value} {x1 x2 x3 : Int32} {c : x_S} {r : Int32} {s : x_S}, K x1 x2 x3 c = some (r, s) → Q r (hpk o s) → Ev E m_Mod_fits 0 0 6 [some (.ref 46), some (.int x1), some (.int x2), some (.int x3), l4] [] (hpk o c) Q) {l2 : Option Value} {l4 : Option Value} {x1 x3 : Int32} {c : x_S} {r : Int32} {s : x_S} (hF : F_Mod_fits_84 K x1 x3 c = some (r, s)) (hQ : Q r (hpk o s)) : Ev E m_Mod_fits 0 0 84 [some (.ref 46), some (.int x1), l2, some (.int x3), l4] [] (hpk o c) Q := by
  unfold F_Mod_fits_84 at hF
  refine Ev_iconst (v := 1) d_Mod_fits_84 (by decide) ?_
  refine Ev_goto (tgt := 89) d_Mod_fits_85 rfl ?_
  exact T_Mod_fits_89 (fun h1 h2 => hK h1 h2) hF hQ
def F_Mod_fits_81 (K : Int32 → Int32 → Int32 → x_S → Option (Int32 × x_S)) (x1 x3 s0 s1 : Int32) (c : x_S) : Option (Int32 × x_S) := if s0 = s1 then (F_Mod_fits_84 K x1 x3 c) else (F_Mod_fits_88 K x1 x3 c)
theorem T_Mod_fits_81 {E : x_E} {o : x_S} {Q : Int32 → x_H → Prop} {K : Int32 → Int32 → Int32 → x_S → Option (Int32 × x_S)} (hK : ∀ {l4 : Option Value} {x1 x2 x3 : Int32} {c : x_S} {r : Int32} {s : x_S}, K x1 x2 x3 c = some (r, s) → Q r (hpk o s) → Ev E m_Mod_fits 0 0 6 [some (.ref 46), some (.int x1), some (.int x2), some (.int x3), l4] [] (hpk o c) Q) {l2 : Option Value} {l4 : Option Value} {x1 x3 s0 s1 : Int32} {c : x_S} {r : Int32} {s : x_S} (hF : F_Mod_fits_81 K x1 x3 s0 s1 c = some (r, s)) (hQ : Q r (hpk o s)) : Ev E m_Mod_fits 0 0 81 [some (.ref 46), some (.int x1), l2, some (.int x3), l4] [.int s1, .int s0] (hpk o c) Q := by
  unfold F_Mod_fits_81 at hF
  refine Ev_icmp_ne (tgt := 88) d_Mod_fits_81 rfl (fun h1 => ?_) (fun h1 => ?_)
  · rw [if_neg h1] at hF
    exact T_Mod_fits_88 (fun h1 h2 => hK h1 h2) hF hQ
  · rw [if_pos h1] at hF
    exact T_Mod_fits_84 (fun h1 h2 => hK h1 h2) hF hQ
def F_Mod_fits_57 (K : Int32 → Int32 → Int32 → x_S → Option (Int32 × x_S)) (x2 x3 x4 s0 s1 : Int32) (c : x_S) : Option (Int32 × x_S) := if x2 = 0 then (if x4 = 0 then (F_Mod_fits_88 K (s0 + s1) x3 c) else (x_ix x3 6 (fun j3 => x_bind (F_Mod_told (4 : Int32) (0 : Int32) (0 : Int32) c) (fun r4 c4 => F_Mod_fits_81 K (s0 + s1) x3 (c 55 j3) r4 c4)))) else (F_Mod_fits_84 K (s0 + s1) x3 c)
theorem T_Mod_fits_57 {E : x_E} {o : x_S} {Q : Int32 → x_H → Prop} {K : Int32 → Int32 → Int32 → x_S → Option (Int32 × x_S)} (hK : ∀ {l4 : Option Value} {x1 x2 x3 : Int32} {c : x_S} {r : Int32} {s : x_S}, K x1 x2 x3 c = some (r, s) → Q r (hpk o s) → Ev E m_Mod_fits 0 0 6 [some (.ref 46), some (.int x1), some (.int x2), some (.int x3), l4] [] (hpk o c) Q) {l1 : Option Value} {x2 x3 x4 s0 s1 : Int32} {c : x_S} {r : Int32} {s : x_S} (hF : F_Mod_fits_57 K x2 x3 x4 s0 s1 c = some (r, s)) (hQ : Q r (hpk o s)) : Ev E m_Mod_fits 0 0 57 [some (.ref 46), l1, some (.int x2), some (.int x3), some (.int x4)] [.int s1, .int s0] (hpk o c) Q := by
  unfold F_Mod_fits_57 at hF
  refine Ev_iadd d_Mod_fits_57 ?_
  refine Ev_istore_n (L' := [some (.ref 46), some (.int (s0 + s1)), some (.int x2), some (.int x3), some (.int x4)]) d_Mod_fits_58 (by decide) rfl ?_
  refine Ev_iload_n d_Mod_fits_59 rfl ?_
  refine Ev_if_ne (tgt := 84) d_Mod_fits_60 rfl (fun h1 => ?_) (fun h1 => ?_)
  · rw [if_neg h1] at hF
    exact T_Mod_fits_84 (fun h1 h2 => hK h1 h2) hF hQ
  · rw [if_pos h1] at hF
    refine Ev_iload d_Mod_fits_63 rfl ?_
    refine Ev_if_eq (tgt := 88) d_Mod_fits_65 rfl (fun h2 => ?_) (fun h2 => ?_)
    · rw [if_pos h2] at hF
      exact T_Mod_fits_88 (fun h1 h2 => hK h1 h2) hF hQ
    · rw [if_neg h2] at hF
      refine Ev_aload_n d_Mod_fits_68 rfl ?_
      refine g_Mod_35 rfl d_Mod_fits_69 ?_
      refine Ev_iload_n d_Mod_fits_72 rfl ?_
      obtain ⟨j3, hij3, hjj3, hF⟩ := x_ix_some hF
      refine Em_iald d_Mod_fits_73 (P := 55) (by decide) rfl hij3 hjj3 ?_
      refine Ev_aload_n d_Mod_fits_74 rfl ?_
      refine Ev_iconst (v := 4) d_Mod_fits_75 (by decide) ?_
      refine Ev_iconst (v := 0) d_Mod_fits_76 (by decide) ?_
      refine Ev_iconst (v := 0) d_Mod_fits_77 (by decide) ?_
      obtain ⟨r4, c4, hC, hF⟩ := x_bind_some hF
      refine k_Mod_141 rfl d_Mod_fits_78 ⟨by decide, by decide⟩ (Nat.le_of_ble_eq_true rfl) ?_
      exact C_Mod_told hC (T_Mod_fits_81 (fun h1 h2 => hK h1 h2) hF hQ)
def F_Mod_fits_44 (K : Int32 → Int32 → Int32 → x_S → Option (Int32 × x_S)) (x1 x2 x3 s0 : Int32) (c : x_S) : Option (Int32 × x_S) := if s0 = 0 then (F_Mod_fits_57 K x2 x3 s0 x1 (0 : Int32) c) else (F_Mod_fits_57 K x2 x3 s0 x1 (1 : Int32) c)
theorem T_Mod_fits_44 {E : x_E} {o : x_S} {Q : Int32 → x_H → Prop} {K : Int32 → Int32 → Int32 → x_S → Option (Int32 × x_S)} (hK : ∀ {l4 : Option Value} {x1 x2 x3 : Int32} {c : x_S} {r : Int32} {s : x_S}, K x1 x2 x3 c = some (r, s) → Q r (hpk o s) → Ev E m_Mod_fits 0 0 6 [some (.ref 46), some (.int x1), some (.int x2), some (.int x3), l4] [] (hpk o c) Q) {l4 : Option Value} {x1 x2 x3 s0 : Int32} {c : x_S} {r : Int32} {s : x_S} (hF : F_Mod_fits_44 K x1 x2 x3 s0 c = some (r, s)) (hQ : Q r (hpk o s)) : Ev E m_Mod_fits 0 0 44 [some (.ref 46), some (.int x1), some (.int x2), some (.int x3), l4] [.int s0] (hpk o c) Q := by
  unfold F_Mod_fits_44 at hF
  refine Ev_istore (L' := [some (.ref 46), some (.int x1), some (.int x2), some (.int x3), some (.int s0)]) d_Mod_fits_44 (by decide) rfl ?_
  refine Ev_iload_n d_Mod_fits_46 rfl ?_
  refine Ev_iload d_Mod_fits_47 rfl ?_
  refine Ev_if_eq (tgt := 56) d_Mod_fits_49 rfl (fun h1 => ?_) (fun h1 => ?_)
  · rw [if_pos h1] at hF
    refine Ev_iconst (v := 0) d_Mod_fits_56 (by decide) ?_
    exact T_Mod_fits_57 (fun h1 h2 => hK h1 h2) hF hQ
  · rw [if_neg h1] at hF
    refine Ev_iconst (v := 1) d_Mod_fits_52 (by decide) ?_
    refine Ev_goto (tgt := 57) d_Mod_fits_53 rfl ?_
    exact T_Mod_fits_57 (fun h1 h2 => hK h1 h2) hF hQ
def F_Mod_fits_39 (K : Int32 → Int32 → Int32 → x_S → Option (Int32 × x_S)) (x1 x2 x3 : Int32) (c : x_S) : Option (Int32 × x_S) := F_Mod_fits_44 K x1 x2 x3 (1 : Int32) c
theorem T_Mod_fits_39 {E : x_E} {o : x_S} {Q : Int32 → x_H → Prop} {K : Int32 → Int32 → Int32 → x_S → Option (Int32 × x_S)} (hK : ∀ {l4 : Option Value} {x1 x2 x3 : Int32} {c : x_S} {r : Int32} {s : x_S}, K x1 x2 x3 c = some (r, s) → Q r (hpk o s) → Ev E m_Mod_fits 0 0 6 [some (.ref 46), some (.int x1), some (.int x2), some (.int x3), l4] [] (hpk o c) Q) {l4 : Option Value} {x1 x2 x3 : Int32} {c : x_S} {r : Int32} {s : x_S} (hF : F_Mod_fits_39 K x1 x2 x3 c = some (r, s)) (hQ : Q r (hpk o s)) : Ev E m_Mod_fits 0 0 39 [some (.ref 46), some (.int x1), some (.int x2), some (.int x3), l4] [] (hpk o c) Q := by
  unfold F_Mod_fits_39 at hF
  refine Ev_iconst (v := 1) d_Mod_fits_39 (by decide) ?_
  refine Ev_goto (tgt := 44) d_Mod_fits_40 rfl ?_
  exact T_Mod_fits_44 (fun h1 h2 => hK h1 h2) hF hQ
def F_Mod_fits_36 (K : Int32 → Int32 → Int32 → x_S → Option (Int32 × x_S)) (x1 x2 x3 s0 s1 : Int32) (c : x_S) : Option (Int32 × x_S) := if s0 = s1 then (F_Mod_fits_44 K x1 x2 x3 (0 : Int32) c) else (F_Mod_fits_39 K x1 x2 x3 c)
theorem T_Mod_fits_36 {E : x_E} {o : x_S} {Q : Int32 → x_H → Prop} {K : Int32 → Int32 → Int32 → x_S → Option (Int32 × x_S)} (hK : ∀ {l4 : Option Value} {x1 x2 x3 : Int32} {c : x_S} {r : Int32} {s : x_S}, K x1 x2 x3 c = some (r, s) → Q r (hpk o s) → Ev E m_Mod_fits 0 0 6 [some (.ref 46), some (.int x1), some (.int x2), some (.int x3), l4] [] (hpk o c) Q) {l4 : Option Value} {x1 x2 x3 s0 s1 : Int32} {c : x_S} {r : Int32} {s : x_S} (hF : F_Mod_fits_36 K x1 x2 x3 s0 s1 c = some (r, s)) (hQ : Q r (hpk o s)) : Ev E m_Mod_fits 0 0 36 [some (.ref 46), some (.int x1), some (.int x2), some (.int x3), l4] [.int s1, .int s0] (hpk o c) Q := by
  unfold F_Mod_fits_36 at hF
  refine Ev_icmp_eq (tgt := 43) d_Mod_fits_36 rfl (fun h1 => ?_) (fun h1 => ?_)
  · rw [if_pos h1] at hF
    refine Ev_iconst (v := 0) d_Mod_fits_43 (by decide) ?_
    exact T_Mod_fits_44 (fun h1 h2 => hK h1 h2) hF hQ
  · rw [if_neg h1] at hF
    exact T_Mod_fits_39 (fun h1 h2 => hK h1 h2) hF hQ
def F_Mod_fits_6 : Nat → Int32 → Int32 → Int32 → x_S → Option (Int32 × x_S)
  | 0, _, _, _, _ => none
  | n + 1, x1, x2, x3, c => if (c 46 24) ≤ x3 then (if x2 = 0 then (if (6 : Int32) ≤ x1 then (F_Mod_fits_111 (0 : Int32) c) else (F_Mod_fits_106 c)) else (F_Mod_fits_106 c)) else (x_ix (5 : Int32) 6 (fun j4 => if (c 60 j4) = 0 then (F_Mod_fits_39 (F_Mod_fits_6 n) x1 x2 x3 c) else (x_ix x3 6 (fun j6 => x_bind (F_Mod_told (5 : Int32) (0 : Int32) (0 : Int32) c) (fun r7 c7 => F_Mod_fits_36 (F_Mod_fits_6 n) x1 x2 x3 (c 55 j6) r7 c7)))))
theorem T_Mod_fits_6 {E : x_E} {o : x_S} {Q : Int32 → x_H → Prop} : ∀ (n : Nat) {l4 : Option Value} {x1 x2 x3 : Int32} {c : x_S} {r : Int32} {s : x_S}, F_Mod_fits_6 n x1 x2 x3 c = some (r, s) → Q r (hpk o s) → Ev E m_Mod_fits 0 0 6 [some (.ref 46), some (.int x1), some (.int x2), some (.int x3), l4] [] (hpk o c) Q := by
  intro n
  induction n with
  | zero => intro l4 x1 x2 x3 c r s hF; rw [F_Mod_fits_6] at hF; cases hF
  | succ n ih =>
    intro l4 x1 x2 x3 c r s hF hQ
    rw [F_Mod_fits_6] at hF
    refine Ev_iload_n d_Mod_fits_6 rfl ?_
    refine Ev_aload_n d_Mod_fits_7 rfl ?_
    refine g_Mod_171 rfl d_Mod_fits_8 ?_
    refine Ev_icmp_ge (tgt := 96) d_Mod_fits_11 rfl (fun h1 => ?_) (fun h1 => ?_)
    · rw [if_pos h1] at hF
      refine Ev_iload_n d_Mod_fits_96 rfl ?_
      refine Ev_if_ne (tgt := 106) d_Mod_fits_97 rfl (fun h2 => ?_) (fun h2 => ?_)
      · rw [if_neg h2] at hF
        exact T_Mod_fits_106 hF hQ
      · rw [if_pos h2] at hF
        refine Ev_iload_n d_Mod_fits_100 rfl ?_
        refine Ev_bipush (v := (6)) d_Mod_fits_101 (by decide) ?_
        refine Ev_icmp_ge (tgt := 110) d_Mod_fits_103 rfl (fun h3 => ?_) (fun h3 => ?_)
        · rw [if_pos h3] at hF
          refine Ev_iconst (v := 0) d_Mod_fits_110 (by decide) ?_
          exact T_Mod_fits_111 hF hQ
        · rw [if_neg h3] at hF
          exact T_Mod_fits_106 hF hQ
    · rw [if_neg h1] at hF
      refine Ev_aload_n d_Mod_fits_14 rfl ?_
      refine g_Mod_54 rfl d_Mod_fits_15 ?_
      refine Ev_iconst (v := 5) d_Mod_fits_18 (by decide) ?_
      obtain ⟨j4, hij4, hjj4, hF⟩ := x_ix_some hF
      refine Em_zald d_Mod_fits_19 (P := 60) (by decide) rfl hij4 hjj4 ?_
      refine Ev_if_eq (tgt := 39) d_Mod_fits_20 rfl (fun h5 => ?_) (fun h5 => ?_)
      · rw [if_pos h5] at hF
        exact T_Mod_fits_39 (fun h1 h2 => ih h1 h2) hF hQ
      · rw [if_neg h5] at hF
        refine Ev_aload_n d_Mod_fits_23 rfl ?_
        refine g_Mod_35 rfl d_Mod_fits_24 ?_
        refine Ev_iload_n d_Mod_fits_27 rfl ?_
        obtain ⟨j6, hij6, hjj6, hF⟩ := x_ix_some hF
        refine Em_iald d_Mod_fits_28 (P := 55) (by decide) rfl hij6 hjj6 ?_
        refine Ev_aload_n d_Mod_fits_29 rfl ?_
        refine Ev_iconst (v := 5) d_Mod_fits_30 (by decide) ?_
        refine Ev_iconst (v := 0) d_Mod_fits_31 (by decide) ?_
        refine Ev_iconst (v := 0) d_Mod_fits_32 (by decide) ?_
        obtain ⟨r7, c7, hC, hF⟩ := x_bind_some hF
        refine k_Mod_141 rfl d_Mod_fits_33 ⟨by decide, by decide⟩ (Nat.le_of_ble_eq_true rfl) ?_
        exact C_Mod_told hC (T_Mod_fits_36 (fun h1 h2 => ih h1 h2) hF hQ)
def F_Mod_fits (c : x_S) : Option (Int32 × x_S) := F_Mod_fits_6 x_fuel (0 : Int32) (0 : Int32) (0 : Int32) c
theorem C_Mod_fits {E : x_E} {o : x_S} {Q : Int32 → x_H → Prop} {c : x_S} {r : Int32} {s : x_S} (hF : F_Mod_fits c = some (r, s)) (hQ : Q r (hpk o s)) : Call E m_Mod_fits 0 0 [.ref 46] (hpk o c) Q := by
  refine Call_of (L := [some (.ref 46), none, none, none, none]) (by decide) (by intro v hv; simp only [List.mem_cons, List.not_mem_nil, or_false] at hv; rw [hv]; rfl) (Nat.le_of_ble_eq_true rfl) rfl ?_
  unfold F_Mod_fits at hF
  refine Ev_iconst (v := 0) d_Mod_fits_0 (by decide) ?_
  refine Ev_istore_n (L' := [some (.ref 46), some (.int (0 : Int32)), none, none, none]) d_Mod_fits_1 (by decide) rfl ?_
  refine Ev_iconst (v := 0) d_Mod_fits_2 (by decide) ?_
  refine Ev_istore_n (L' := [some (.ref 46), some (.int (0 : Int32)), some (.int (0 : Int32)), none, none]) d_Mod_fits_3 (by decide) rfl ?_
  refine Ev_iconst (v := 0) d_Mod_fits_4 (by decide) ?_
  refine Ev_istore_n (L' := [some (.ref 46), some (.int (0 : Int32)), some (.int (0 : Int32)), some (.int (0 : Int32)), none]) d_Mod_fits_5 (by decide) rfl ?_
  exact T_Mod_fits_6 x_fuel hF hQ
def F_Mod_drop_89 (c : x_S) : Option (Int32 × x_S) := some (0, c)
theorem T_Mod_drop_89 {E : x_E} {o : x_S} {Q : Int32 → x_H → Prop} {l0 : Option Value} {l1 : Option Value} {l2 : Option Value} {l3 : Option Value} {c : x_S} {r : Int32} {s : x_S} (hF : F_Mod_drop_89 c = some (r, s)) (hQ : Q r (hpk o s)) : Ev E m_Mod_drop 0 0 89 [l0, l1, l2, l3] [] (hpk o c) Q := by
  unfold F_Mod_drop_89 at hF
  cases hF
  exact Ev_return d_Mod_drop_89 rfl hQ
def F_Mod_drop_76 (K : Int32 → Int32 → Int32 → x_S → Option (Int32 × x_S)) (x1 x3 s0 s1 : Int32) (c : x_S) : Option (Int32 × x_S) := K x1 (s0 + s1) (x3 + (1 : Int32)) c
theorem T_Mod_drop_76 {E : x_E} {o : x_S} {Q : Int32 → x_H → Prop} {K : Int32 → Int32 → Int32 → x_S → Option (Int32 × x_S)} (hK : ∀ {x1 x2 x3 : Int32} {c : x_S} {r : Int32} {s : x_S}, K x1 x2 x3 c = some (r, s) → Q r (hpk o s) → Ev E m_Mod_drop 0 0 4 [some (.ref 46), some (.int x1), some (.int x2), some (.int x3)] [] (hpk o c) Q) {l2 : Option Value} {x1 x3 s0 s1 : Int32} {c : x_S} {r : Int32} {s : x_S} (hF : F_Mod_drop_76 K x1 x3 s0 s1 c = some (r, s)) (hQ : Q r (hpk o s)) : Ev E m_Mod_drop 0 0 76 [some (.ref 46), some (.int x1), l2, some (.int x3)] [.int s1, .int s0] (hpk o c) Q := by
  unfold F_Mod_drop_76 at hF
  refine Ev_iadd d_Mod_drop_76 ?_
  refine Ev_istore_n (L' := [some (.ref 46), some (.int x1), some (.int (s0 + s1)), some (.int x3)]) d_Mod_drop_77 (by decide) rfl ?_
  refine Ev_iinc (v := (x3 + (1 : Int32))) (L' := [some (.ref 46), some (.int x1), some (.int (s0 + s1)), some (.int (x3 + (1 : Int32)))]) d_Mod_drop_78 rfl rfl (by decide) rfl ?_
  refine Ev_goto (tgt := 4) d_Mod_drop_81 rfl ?_
  exact hK hF hQ
def F_Mod_drop_60 (K : Int32 → Int32 → Int32 → x_S → Option (Int32 × x_S)) (x1 x2 x3 : Int32) (c : x_S) : Option (Int32 × x_S) := x_ix x3 6 (fun j1 => if (c 55 j1) = x1 then (F_Mod_drop_76 K x1 x3 x2 (0 : Int32) c) else (F_Mod_drop_76 K x1 x3 x2 (1 : Int32) c))
theorem T_Mod_drop_60 {E : x_E} {o : x_S} {Q : Int32 → x_H → Prop} {K : Int32 → Int32 → Int32 → x_S → Option (Int32 × x_S)} (hK : ∀ {x1 x2 x3 : Int32} {c : x_S} {r : Int32} {s : x_S}, K x1 x2 x3 c = some (r, s) → Q r (hpk o s) → Ev E m_Mod_drop 0 0 4 [some (.ref 46), some (.int x1), some (.int x2), some (.int x3)] [] (hpk o c) Q) {x1 x2 x3 : Int32} {c : x_S} {r : Int32} {s : x_S} (hF : F_Mod_drop_60 K x1 x2 x3 c = some (r, s)) (hQ : Q r (hpk o s)) : Ev E m_Mod_drop 0 0 60 [some (.ref 46), some (.int x1), some (.int x2), some (.int x3)] [] (hpk o c) Q := by
  unfold F_Mod_drop_60 at hF
  refine Ev_iload_n d_Mod_drop_60 rfl ?_
  refine Ev_aload_n d_Mod_drop_61 rfl ?_
  refine g_Mod_35 rfl d_Mod_drop_62 ?_
  refine Ev_iload_n d_Mod_drop_65 rfl ?_
  obtain ⟨j1, hij1, hjj1, hF⟩ := x_ix_some hF
  refine Em_iald d_Mod_drop_66 (P := 55) (by decide) rfl hij1 hjj1 ?_
  refine Ev_iload_n d_Mod_drop_67 rfl ?_
  refine Ev_icmp_ne (tgt := 75) d_Mod_drop_68 rfl (fun h2 => ?_) (fun h2 => ?_)
  · rw [if_neg h2] at hF
    refine Ev_iconst (v := 1) d_Mod_drop_75 (by decide) ?_
    exact T_Mod_drop_76 (fun h1 h2 => hK h1 h2) hF hQ
  · rw [if_pos h2] at hF
    refine Ev_iconst (v := 0) d_Mod_drop_71 (by decide) ?_
    refine Ev_goto (tgt := 76) d_Mod_drop_72 rfl ?_
    exact T_Mod_drop_76 (fun h1 h2 => hK h1 h2) hF hQ
def F_Mod_drop_48 (K : Int32 → Int32 → Int32 → x_S → Option (Int32 × x_S)) (x1 x2 x3 : Int32) (c : x_S) : Option (Int32 × x_S) := x_ix x3 6 (fun j1 => x_ix x2 6 (fun j2 => F_Mod_drop_60 K x1 x2 x3 (x_up c 58 j2 (c 58 j1))))
theorem T_Mod_drop_48 {E : x_E} {o : x_S} {Q : Int32 → x_H → Prop} {K : Int32 → Int32 → Int32 → x_S → Option (Int32 × x_S)} (hK : ∀ {x1 x2 x3 : Int32} {c : x_S} {r : Int32} {s : x_S}, K x1 x2 x3 c = some (r, s) → Q r (hpk o s) → Ev E m_Mod_drop 0 0 4 [some (.ref 46), some (.int x1), some (.int x2), some (.int x3)] [] (hpk o c) Q) {x1 x2 x3 : Int32} {c : x_S} {r : Int32} {s : x_S} (hF : F_Mod_drop_48 K x1 x2 x3 c = some (r, s)) (hQ : Q r (hpk o s)) : Ev E m_Mod_drop 0 0 48 [some (.ref 46), some (.int x1), some (.int x2), some (.int x3)] [] (hpk o c) Q := by
  unfold F_Mod_drop_48 at hF
  refine Ev_aload_n d_Mod_drop_48 rfl ?_
  refine g_Mod_44 rfl d_Mod_drop_49 ?_
  refine Ev_iload_n d_Mod_drop_52 rfl ?_
  refine Ev_aload_n d_Mod_drop_53 rfl ?_
  refine g_Mod_44 rfl d_Mod_drop_54 ?_
  refine Ev_iload_n d_Mod_drop_57 rfl ?_
  obtain ⟨j1, hij1, hjj1, hF⟩ := x_ix_some hF
  refine Em_iald d_Mod_drop_58 (P := 58) (by decide) rfl hij1 hjj1 ?_
  obtain ⟨j2, hij2, hjj2, hF⟩ := x_ix_some hF
  refine Em_iast d_Mod_drop_59 (P := 58) (by decide) rfl hij2 hjj2 ?_
  exact T_Mod_drop_60 (fun h1 h2 => hK h1 h2) hF hQ
def F_Mod_drop_36 (K : Int32 → Int32 → Int32 → x_S → Option (Int32 × x_S)) (x1 x2 x3 : Int32) (c : x_S) : Option (Int32 × x_S) := x_ix x3 6 (fun j1 => x_ix x2 6 (fun j2 => F_Mod_drop_48 K x1 x2 x3 (x_up c 57 j2 (c 57 j1))))
theorem T_Mod_drop_36 {E : x_E} {o : x_S} {Q : Int32 → x_H → Prop} {K : Int32 → Int32 → Int32 → x_S → Option (Int32 × x_S)} (hK : ∀ {x1 x2 x3 : Int32} {c : x_S} {r : Int32} {s : x_S}, K x1 x2 x3 c = some (r, s) → Q r (hpk o s) → Ev E m_Mod_drop 0 0 4 [some (.ref 46), some (.int x1), some (.int x2), some (.int x3)] [] (hpk o c) Q) {x1 x2 x3 : Int32} {c : x_S} {r : Int32} {s : x_S} (hF : F_Mod_drop_36 K x1 x2 x3 c = some (r, s)) (hQ : Q r (hpk o s)) : Ev E m_Mod_drop 0 0 36 [some (.ref 46), some (.int x1), some (.int x2), some (.int x3)] [] (hpk o c) Q := by
  unfold F_Mod_drop_36 at hF
  refine Ev_aload_n d_Mod_drop_36 rfl ?_
  refine g_Mod_41 rfl d_Mod_drop_37 ?_
  refine Ev_iload_n d_Mod_drop_40 rfl ?_
  refine Ev_aload_n d_Mod_drop_41 rfl ?_
  refine g_Mod_41 rfl d_Mod_drop_42 ?_
  refine Ev_iload_n d_Mod_drop_45 rfl ?_
  obtain ⟨j1, hij1, hjj1, hF⟩ := x_ix_some hF
  refine Em_iald d_Mod_drop_46 (P := 57) (by decide) rfl hij1 hjj1 ?_
  obtain ⟨j2, hij2, hjj2, hF⟩ := x_ix_some hF
  refine Em_iast d_Mod_drop_47 (P := 57) (by decide) rfl hij2 hjj2 ?_
  exact T_Mod_drop_48 (fun h1 h2 => hK h1 h2) hF hQ
def F_Mod_drop_24 (K : Int32 → Int32 → Int32 → x_S → Option (Int32 × x_S)) (x1 x2 x3 : Int32) (c : x_S) : Option (Int32 × x_S) := x_ix x3 6 (fun j1 => x_ix x2 6 (fun j2 => F_Mod_drop_36 K x1 x2 x3 (x_up c 56 j2 (c 56 j1))))
theorem T_Mod_drop_24 {E : x_E} {o : x_S} {Q : Int32 → x_H → Prop} {K : Int32 → Int32 → Int32 → x_S → Option (Int32 × x_S)} (hK : ∀ {x1 x2 x3 : Int32} {c : x_S} {r : Int32} {s : x_S}, K x1 x2 x3 c = some (r, s) → Q r (hpk o s) → Ev E m_Mod_drop 0 0 4 [some (.ref 46), some (.int x1), some (.int x2), some (.int x3)] [] (hpk o c) Q) {x1 x2 x3 : Int32} {c : x_S} {r : Int32} {s : x_S} (hF : F_Mod_drop_24 K x1 x2 x3 c = some (r, s)) (hQ : Q r (hpk o s)) : Ev E m_Mod_drop 0 0 24 [some (.ref 46), some (.int x1), some (.int x2), some (.int x3)] [] (hpk o c) Q := by
  unfold F_Mod_drop_24 at hF
  refine Ev_aload_n d_Mod_drop_24 rfl ?_
  refine g_Mod_38 rfl d_Mod_drop_25 ?_
  refine Ev_iload_n d_Mod_drop_28 rfl ?_
  refine Ev_aload_n d_Mod_drop_29 rfl ?_
  refine g_Mod_38 rfl d_Mod_drop_30 ?_
  refine Ev_iload_n d_Mod_drop_33 rfl ?_
  obtain ⟨j1, hij1, hjj1, hF⟩ := x_ix_some hF
  refine Em_iald d_Mod_drop_34 (P := 56) (by decide) rfl hij1 hjj1 ?_
  obtain ⟨j2, hij2, hjj2, hF⟩ := x_ix_some hF
  refine Em_iast d_Mod_drop_35 (P := 56) (by decide) rfl hij2 hjj2 ?_
  exact T_Mod_drop_36 (fun h1 h2 => hK h1 h2) hF hQ
def F_Mod_drop_4 : Nat → Int32 → Int32 → Int32 → x_S → Option (Int32 × x_S)
  | 0, _, _, _, _ => none
  | n + 1, x1, x2, x3, c => if (c 46 24) ≤ x3 then (F_Mod_drop_89 (x_up c 46 24 x2)) else (x_ix x3 6 (fun j2 => x_ix x2 6 (fun j3 => F_Mod_drop_24 (F_Mod_drop_4 n) x1 x2 x3 (x_up c 55 j3 (c 55 j2)))))
theorem T_Mod_drop_4 {E : x_E} {o : x_S} {Q : Int32 → x_H → Prop} : ∀ (n : Nat) {x1 x2 x3 : Int32} {c : x_S} {r : Int32} {s : x_S}, F_Mod_drop_4 n x1 x2 x3 c = some (r, s) → Q r (hpk o s) → Ev E m_Mod_drop 0 0 4 [some (.ref 46), some (.int x1), some (.int x2), some (.int x3)] [] (hpk o c) Q := by
  intro n
  induction n with
  | zero => intro x1 x2 x3 c r s hF; rw [F_Mod_drop_4] at hF; cases hF
  | succ n ih =>
    intro x1 x2 x3 c r s hF hQ
    rw [F_Mod_drop_4] at hF
    refine Ev_iload_n d_Mod_drop_4 rfl ?_
    refine Ev_aload_n d_Mod_drop_5 rfl ?_
    refine g_Mod_171 rfl d_Mod_drop_6 ?_
    refine Ev_icmp_ge (tgt := 84) d_Mod_drop_9 rfl (fun h1 => ?_) (fun h1 => ?_)
    · rw [if_pos h1] at hF
      refine Ev_aload_n d_Mod_drop_84 rfl ?_
      refine Ev_iload_n d_Mod_drop_85 rfl ?_
      refine q_Mod_171 rfl d_Mod_drop_86 ?_
      exact T_Mod_drop_89 hF hQ
    · rw [if_neg h1] at hF
      refine Ev_aload_n d_Mod_drop_12 rfl ?_
      refine g_Mod_35 rfl d_Mod_drop_13 ?_
      refine Ev_iload_n d_Mod_drop_16 rfl ?_
      refine Ev_aload_n d_Mod_drop_17 rfl ?_
      refine g_Mod_35 rfl d_Mod_drop_18 ?_
      refine Ev_iload_n d_Mod_drop_21 rfl ?_
      obtain ⟨j2, hij2, hjj2, hF⟩ := x_ix_some hF
      refine Em_iald d_Mod_drop_22 (P := 55) (by decide) rfl hij2 hjj2 ?_
      obtain ⟨j3, hij3, hjj3, hF⟩ := x_ix_some hF
      refine Em_iast d_Mod_drop_23 (P := 55) (by decide) rfl hij3 hjj3 ?_
      exact T_Mod_drop_24 (fun h1 h2 => ih h1 h2) hF hQ
def F_Mod_drop (x1 : Int32) (c : x_S) : Option (Int32 × x_S) := F_Mod_drop_4 x_fuel x1 (0 : Int32) (0 : Int32) c
theorem C_Mod_drop {E : x_E} {o : x_S} {Q : Int32 → x_H → Prop} {x1 : Int32} {c : x_S} {r : Int32} {s : x_S} (hF : F_Mod_drop x1 c = some (r, s)) (hQ : Q r (hpk o s)) : Call E m_Mod_drop 0 0 [.ref 46, .int x1] (hpk o c) Q := by
  refine Call_of (L := [some (.ref 46), some (.int x1), none, none]) (by decide) (by intro v hv; simp only [List.mem_cons, List.not_mem_nil, or_false] at hv; rcases hv with rfl | rfl <;> rfl) (Nat.le_of_ble_eq_true rfl) rfl ?_
  unfold F_Mod_drop at hF
  refine Ev_iconst (v := 0) d_Mod_drop_0 (by decide) ?_
  refine Ev_istore_n (L' := [some (.ref 46), some (.int x1), some (.int (0 : Int32)), none]) d_Mod_drop_1 (by decide) rfl ?_
  refine Ev_iconst (v := 0) d_Mod_drop_2 (by decide) ?_
  refine Ev_istore_n (L' := [some (.ref 46), some (.int x1), some (.int (0 : Int32)), some (.int (0 : Int32))]) d_Mod_drop_3 (by decide) rfl ?_
  exact T_Mod_drop_4 x_fuel hF hQ
