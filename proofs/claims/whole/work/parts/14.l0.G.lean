/-! printed by wip/gen/gen4.py: TrainGuard -/
def F_G_bits_9 (s0 : Int32) (c : x_S) : Option (Int32 × x_S) := x_b01 s0 (some (s0, c))
theorem T_G_bits_9 {E : x_E} {o : x_S} {Q : Int32 → x_H → Prop} {l0 : Option Value} {l1 : Option Value} {l2 : Option Value} {s0 : Int32} {c : x_S} {r : Int32} {s : x_S} (hF : F_G_bits_9 s0 c = some (r, s)) (hQ : Q r (hpk s o)) : Ev E m_G_bits 0 0 9 [l0, l1, l2] [.int s0] (hpk c o) Q := by
  unfold F_G_bits_9 at hF
  obtain ⟨hb1, hF⟩ := x_b01_some hF
  cases hF
  exact Ev_zreturn d_G_bits_9 rfl hb1 hQ
def F_G_bits (x1 x2 : Int32) (c : x_S) : Option (Int32 × x_S) := x_bind (F_Bit_put x1 x2 c) (fun r1 c1 => F_G_bits_9 r1 c1)
theorem C_G_bits {E : x_E} {o : x_S} {Q : Int32 → x_H → Prop} {x1 x2 : Int32} {c : x_S} {r : Int32} {s : x_S} (hF : F_G_bits x1 x2 c = some (r, s)) (hQ : Q r (hpk s o)) : Call E m_G_bits 0 0 [.ref 0, .int x1, .int x2] (hpk c o) Q := by
  refine Call_of (L := [some (.ref 0), some (.int x1), some (.int x2)]) (by decide) (by intro v hv; simp only [List.mem_cons, List.not_mem_nil, or_false] at hv; rcases hv with rfl | rfl | rfl <;> rfl) (Nat.le_of_ble_eq_true rfl) rfl ?_
  unfold F_G_bits at hF
  refine Ev_aload_n d_G_bits_0 rfl ?_
  refine g_G_26 rfl d_G_bits_1 ?_
  refine Ev_iload_n d_G_bits_4 rfl ?_
  refine Ev_iload_n d_G_bits_5 rfl ?_
  obtain ⟨r1, c1, hC, hF⟩ := x_bind_some hF
  refine k_G_74 rfl d_G_bits_6 ⟨by decide, by decide⟩ (Nat.le_of_ble_eq_true rfl) ?_
  exact C_Bit_put hC (T_G_bits_9 hF hQ)
def F_G_isGuided_21 (s0 : Int32) (c : x_S) : Option (Int32 × x_S) := x_b01 s0 (some (s0, c))
theorem T_G_isGuided_21 {E : x_E} {o : x_S} {Q : Int32 → x_H → Prop} {l0 : Option Value} {s0 : Int32} {c : x_S} {r : Int32} {s : x_S} (hF : F_G_isGuided_21 s0 c = some (r, s)) (hQ : Q r (hpk s o)) : Ev E m_G_isGuided 0 0 21 [l0] [.int s0] (hpk c o) Q := by
  unfold F_G_isGuided_21 at hF
  obtain ⟨hb1, hF⟩ := x_b01_some hF
  cases hF
  exact Ev_zreturn d_G_isGuided_21 rfl hb1 hQ
def F_G_isGuided_16 (c : x_S) : Option (Int32 × x_S) := F_G_isGuided_21 (1 : Int32) c
theorem T_G_isGuided_16 {E : x_E} {o : x_S} {Q : Int32 → x_H → Prop} {l0 : Option Value} {c : x_S} {r : Int32} {s : x_S} (hF : F_G_isGuided_16 c = some (r, s)) (hQ : Q r (hpk s o)) : Ev E m_G_isGuided 0 0 16 [l0] [] (hpk c o) Q := by
  unfold F_G_isGuided_16 at hF
  refine Ev_iconst (v := 1) d_G_isGuided_16 (by decide) ?_
  refine Ev_goto (tgt := 21) d_G_isGuided_17 rfl ?_
  exact T_G_isGuided_21 hF hQ
def F_G_isGuided (c : x_S) : Option (Int32 × x_S) := if (c 0 8) = (2 : Int32) then (F_G_isGuided_16 c) else (if (c 0 8) = (3 : Int32) then (F_G_isGuided_16 c) else (F_G_isGuided_21 (0 : Int32) c))
theorem C_G_isGuided {E : x_E} {o : x_S} {Q : Int32 → x_H → Prop} {c : x_S} {r : Int32} {s : x_S} (hF : F_G_isGuided c = some (r, s)) (hQ : Q r (hpk s o)) : Call E m_G_isGuided 0 0 [.ref 0] (hpk c o) Q := by
  refine Call_of (L := [some (.ref 0)]) (by decide) (by intro v hv; simp only [List.mem_cons, List.not_mem_nil, or_false] at hv; rw [hv]; rfl) (Nat.le_of_ble_eq_true rfl) rfl ?_
  unfold F_G_isGuided at hF
  refine Ev_aload_n d_G_isGuided_0 rfl ?_
  refine g_G_51 rfl d_G_isGuided_1 ?_
  refine Ev_iconst (v := 2) d_G_isGuided_4 (by decide) ?_
  refine Ev_icmp_eq (tgt := 16) d_G_isGuided_5 rfl (fun h1 => ?_) (fun h1 => ?_)
  · rw [if_pos h1] at hF
    exact T_G_isGuided_16 hF hQ
  · rw [if_neg h1] at hF
    refine Ev_aload_n d_G_isGuided_8 rfl ?_
    refine g_G_51 rfl d_G_isGuided_9 ?_
    refine Ev_iconst (v := 3) d_G_isGuided_12 (by decide) ?_
    refine Ev_icmp_ne (tgt := 20) d_G_isGuided_13 rfl (fun h2 => ?_) (fun h2 => ?_)
    · rw [if_neg h2] at hF
      refine Ev_iconst (v := 0) d_G_isGuided_20 (by decide) ?_
      exact T_G_isGuided_21 hF hQ
    · rw [if_pos h2] at hF
      exact T_G_isGuided_16 hF hQ
def F_G_isStopped_22 (s0 : Int32) (c : x_S) : Option (Int32 × x_S) := x_b01 s0 (some (s0, c))
theorem T_G_isStopped_22 {E : x_E} {o : x_S} {Q : Int32 → x_H → Prop} {l0 : Option Value} {s0 : Int32} {c : x_S} {r : Int32} {s : x_S} (hF : F_G_isStopped_22 s0 c = some (r, s)) (hQ : Q r (hpk s o)) : Ev E m_G_isStopped 0 0 22 [l0] [.int s0] (hpk c o) Q := by
  unfold F_G_isStopped_22 at hF
  obtain ⟨hb1, hF⟩ := x_b01_some hF
  cases hF
  exact Ev_zreturn d_G_isStopped_22 rfl hb1 hQ
def F_G_isStopped_17 (c : x_S) : Option (Int32 × x_S) := F_G_isStopped_22 (1 : Int32) c
theorem T_G_isStopped_17 {E : x_E} {o : x_S} {Q : Int32 → x_H → Prop} {l0 : Option Value} {c : x_S} {r : Int32} {s : x_S} (hF : F_G_isStopped_17 c = some (r, s)) (hQ : Q r (hpk s o)) : Ev E m_G_isStopped 0 0 17 [l0] [] (hpk c o) Q := by
  unfold F_G_isStopped_17 at hF
  refine Ev_iconst (v := 1) d_G_isStopped_17 (by decide) ?_
  refine Ev_goto (tgt := 22) d_G_isStopped_18 rfl ?_
  exact T_G_isStopped_22 hF hQ
def F_G_isStopped (c : x_S) : Option (Int32 × x_S) := if (c 0 8) = (4 : Int32) then (F_G_isStopped_17 c) else (if (c 0 8) = (6 : Int32) then (F_G_isStopped_17 c) else (F_G_isStopped_22 (0 : Int32) c))
theorem C_G_isStopped {E : x_E} {o : x_S} {Q : Int32 → x_H → Prop} {c : x_S} {r : Int32} {s : x_S} (hF : F_G_isStopped c = some (r, s)) (hQ : Q r (hpk s o)) : Call E m_G_isStopped 0 0 [.ref 0] (hpk c o) Q := by
  refine Call_of (L := [some (.ref 0)]) (by decide) (by intro v hv; simp only [List.mem_cons, List.not_mem_nil, or_false] at hv; rw [hv]; rfl) (Nat.le_of_ble_eq_true rfl) rfl ?_
  unfold F_G_isStopped at hF
  refine Ev_aload_n d_G_isStopped_0 rfl ?_
  refine g_G_51 rfl d_G_isStopped_1 ?_
  refine Ev_iconst (v := 4) d_G_isStopped_4 (by decide) ?_
  refine Ev_icmp_eq (tgt := 17) d_G_isStopped_5 rfl (fun h1 => ?_) (fun h1 => ?_)
  · rw [if_pos h1] at hF
    exact T_G_isStopped_17 hF hQ
  · rw [if_neg h1] at hF
    refine Ev_aload_n d_G_isStopped_8 rfl ?_
    refine g_G_51 rfl d_G_isStopped_9 ?_
    refine Ev_bipush (v := (6)) d_G_isStopped_12 (by decide) ?_
    refine Ev_icmp_ne (tgt := 21) d_G_isStopped_14 rfl (fun h2 => ?_) (fun h2 => ?_)
    · rw [if_neg h2] at hF
      refine Ev_iconst (v := 0) d_G_isStopped_21 (by decide) ?_
      exact T_G_isStopped_22 hF hQ
    · rw [if_pos h2] at hF
      exact T_G_isStopped_17 hF hQ
def F_G_ceilingNow_67 (s0 : Int32) (c : x_S) : Option (Int32 × x_S) := some (s0, c)
theorem T_G_ceilingNow_67 {E : x_E} {o : x_S} {Q : Int32 → x_H → Prop} {l0 : Option Value} {l1 : Option Value} {s0 : Int32} {c : x_S} {r : Int32} {s : x_S} (hF : F_G_ceilingNow_67 s0 c = some (r, s)) (hQ : Q r (hpk s o)) : Ev E m_G_ceilingNow 0 0 67 [l0, l1] [.int s0] (hpk c o) Q := by
  unfold F_G_ceilingNow_67 at hF
  cases hF
  exact Ev_ireturn d_G_ceilingNow_67 rfl hQ
def F_G_ceilingNow_52 (s0 : Int32) (c : x_S) : Option (Int32 × x_S) := some (s0, c)
theorem T_G_ceilingNow_52 {E : x_E} {o : x_S} {Q : Int32 → x_H → Prop} {l0 : Option Value} {l1 : Option Value} {s0 : Int32} {c : x_S} {r : Int32} {s : x_S} (hF : F_G_ceilingNow_52 s0 c = some (r, s)) (hQ : Q r (hpk s o)) : Ev E m_G_ceilingNow 0 0 52 [l0, l1] [.int s0] (hpk c o) Q := by
  unfold F_G_ceilingNow_52 at hF
  cases hF
  exact Ev_ireturn d_G_ceilingNow_52 rfl hQ
def F_G_ceilingNow_33 (s0 : Int32) (c : x_S) : Option (Int32 × x_S) := if (c 0 8) = (3 : Int32) then (F_G_ceilingNow_52 (if (60 : Int32) < s0 then (60 : Int32) else s0) c) else (F_G_ceilingNow_52 s0 c)
theorem T_G_ceilingNow_33 {E : x_E} {o : x_S} {Q : Int32 → x_H → Prop} {l1 : Option Value} {s0 : Int32} {c : x_S} {r : Int32} {s : x_S} (hF : F_G_ceilingNow_33 s0 c = some (r, s)) (hQ : Q r (hpk s o)) : Ev E m_G_ceilingNow 0 0 33 [some (.ref 0), l1] [.int s0] (hpk c o) Q := by
  unfold F_G_ceilingNow_33 at hF
  refine Ev_istore_n (L' := [some (.ref 0), some (.int s0)]) d_G_ceilingNow_33 (by decide) rfl ?_
  refine Ev_aload_n d_G_ceilingNow_34 rfl ?_
  refine g_G_51 rfl d_G_ceilingNow_35 ?_
  refine Ev_iconst (v := 3) d_G_ceilingNow_38 (by decide) ?_
  refine Ev_icmp_ne (tgt := 51) d_G_ceilingNow_39 rfl (fun h1 => ?_) (fun h1 => ?_)
  · rw [if_neg h1] at hF
    refine Ev_iload_n d_G_ceilingNow_51 rfl ?_
    exact T_G_ceilingNow_52 hF hQ
  · rw [if_pos h1] at hF
    refine Ev_iload_n d_G_ceilingNow_42 rfl ?_
    refine Ev_bipush (v := (60)) d_G_ceilingNow_43 (by decide) ?_
    refine Ev_mmin xw_mG_212 d_G_ceilingNow_45 (by decide) (by decide) (Nat.le_of_ble_eq_true rfl) ?_
    refine Ev_goto (tgt := 52) d_G_ceilingNow_48 rfl ?_
    exact T_G_ceilingNow_52 hF hQ
def F_G_ceilingNow_4 (s0 : Int32) (c : x_S) : Option (Int32 × x_S) := if s0 = 0 then (if (c 0 8) = (1 : Int32) then (F_G_ceilingNow_67 (80 : Int32) c) else (F_G_ceilingNow_67 (0 : Int32) c)) else (x_bind (F_Trk_leastLimit ((c 1 0) - (c 0 0)) (c 1 1) c) (fun r3 c3 => F_G_ceilingNow_33 r3 c3))
theorem T_G_ceilingNow_4 {E : x_E} {o : x_S} {Q : Int32 → x_H → Prop} {l1 : Option Value} {s0 : Int32} {c : x_S} {r : Int32} {s : x_S} (hF : F_G_ceilingNow_4 s0 c = some (r, s)) (hQ : Q r (hpk s o)) : Ev E m_G_ceilingNow 0 0 4 [some (.ref 0), l1] [.int s0] (hpk c o) Q := by
  unfold F_G_ceilingNow_4 at hF
  refine Ev_if_eq (tgt := 53) d_G_ceilingNow_4 rfl (fun h1 => ?_) (fun h1 => ?_)
  · rw [if_pos h1] at hF
    refine Ev_aload_n d_G_ceilingNow_53 rfl ?_
    refine g_G_51 rfl d_G_ceilingNow_54 ?_
    refine Ev_iconst (v := 1) d_G_ceilingNow_57 (by decide) ?_
    refine Ev_icmp_ne (tgt := 66) d_G_ceilingNow_58 rfl (fun h2 => ?_) (fun h2 => ?_)
    · rw [if_neg h2] at hF
      refine Ev_iconst (v := 0) d_G_ceilingNow_66 (by decide) ?_
      exact T_G_ceilingNow_67 hF hQ
    · rw [if_pos h2] at hF
      refine Ev_bipush (v := (80)) d_G_ceilingNow_61 (by decide) ?_
      refine Ev_goto (tgt := 67) d_G_ceilingNow_63 rfl ?_
      exact T_G_ceilingNow_67 hF hQ
  · rw [if_neg h1] at hF
    refine Ev_aload_n d_G_ceilingNow_7 rfl ?_
    refine g_G_19 rfl d_G_ceilingNow_8 ?_
    refine Ev_aload_n d_G_ceilingNow_11 rfl ?_
    refine g_G_10 rfl d_G_ceilingNow_12 ?_
    refine g_G_121 rfl d_G_ceilingNow_15 ?_
    refine Ev_aload_n d_G_ceilingNow_18 rfl ?_
    refine g_G_71 rfl d_G_ceilingNow_19 ?_
    refine Ev_isub d_G_ceilingNow_22 ?_
    refine Ev_aload_n d_G_ceilingNow_23 rfl ?_
    refine g_G_10 rfl d_G_ceilingNow_24 ?_
    refine g_G_115 rfl d_G_ceilingNow_27 ?_
    obtain ⟨r3, c3, hC, hF⟩ := x_bind_some hF
    refine k_G_200 rfl d_G_ceilingNow_30 ⟨by decide, by decide⟩ (Nat.le_of_ble_eq_true rfl) ?_
    exact C_Trk_leastLimit hC (T_G_ceilingNow_33 hF hQ)
def F_G_ceilingNow (c : x_S) : Option (Int32 × x_S) := x_bind (F_G_isGuided c) (fun r1 c1 => F_G_ceilingNow_4 r1 c1)
theorem C_G_ceilingNow {E : x_E} {o : x_S} {Q : Int32 → x_H → Prop} {c : x_S} {r : Int32} {s : x_S} (hF : F_G_ceilingNow c = some (r, s)) (hQ : Q r (hpk s o)) : Call E m_G_ceilingNow 0 0 [.ref 0] (hpk c o) Q := by
  refine Call_of (L := [some (.ref 0), none]) (by decide) (by intro v hv; simp only [List.mem_cons, List.not_mem_nil, or_false] at hv; rw [hv]; rfl) (Nat.le_of_ble_eq_true rfl) rfl ?_
  unfold F_G_ceilingNow at hF
  refine Ev_aload_n d_G_ceilingNow_0 rfl ?_
  obtain ⟨r1, c1, hC, hF⟩ := x_bind_some hF
  refine k_G_221 rfl d_G_ceilingNow_1 ⟨by decide, by decide⟩ (Nat.le_of_ble_eq_true rfl) ?_
  exact C_G_isGuided hC (T_G_ceilingNow_4 hF hQ)
def F_G_addTarget_32 (c : x_S) : Option (Int32 × x_S) := some (0, c)
theorem T_G_addTarget_32 {E : x_E} {o : x_S} {Q : Int32 → x_H → Prop} {l0 : Option Value} {l1 : Option Value} {l2 : Option Value} {c : x_S} {r : Int32} {s : x_S} (hF : F_G_addTarget_32 c = some (r, s)) (hQ : Q r (hpk s o)) : Ev E m_G_addTarget 0 0 32 [l0, l1, l2] [] (hpk c o) Q := by
  unfold F_G_addTarget_32 at hF
  cases hF
  exact Ev_return d_G_addTarget_32 rfl hQ
def F_G_addTarget_29 (s1 s2 s3 : Int32) (c : x_S) : Option (Int32 × x_S) := x_bind (F_Cur_add s1 s2 s3 c) (fun _ c1 => F_G_addTarget_32 c1)
theorem T_G_addTarget_29 {E : x_E} {o : x_S} {Q : Int32 → x_H → Prop} {l0 : Option Value} {l1 : Option Value} {l2 : Option Value} {s1 s2 s3 : Int32} {c : x_S} {r : Int32} {s : x_S} (hF : F_G_addTarget_29 s1 s2 s3 c = some (r, s)) (hQ : Q r (hpk s o)) : Ev E m_G_addTarget 0 0 29 [l0, l1, l2] [.int s3, .int s2, .int s1, .ref 42] (hpk c o) Q := by
  unfold F_G_addTarget_29 at hF
  obtain ⟨r1, c1, hC, hF⟩ := x_bind_some hF
  refine k_G_313 rfl d_G_addTarget_29 ⟨by decide, by decide⟩ (Nat.le_of_ble_eq_true rfl) ?_
  exact C_Cur_add hC (T_G_addTarget_32 hF hQ)
def F_G_addTarget (x1 x2 : Int32) (c : x_S) : Option (Int32 × x_S) := x_bind (F_Spn_greatest 7 ((c 1 0) - (c 0 0)) x1 c) (fun r1 c1 => F_G_addTarget_29 x1 x2 r1 c1)
theorem C_G_addTarget {E : x_E} {o : x_S} {Q : Int32 → x_H → Prop} {x1 x2 : Int32} {c : x_S} {r : Int32} {s : x_S} (hF : F_G_addTarget x1 x2 c = some (r, s)) (hQ : Q r (hpk s o)) : Call E m_G_addTarget 0 0 [.ref 0, .int x1, .int x2] (hpk c o) Q := by
  refine Call_of (L := [some (.ref 0), some (.int x1), some (.int x2)]) (by decide) (by intro v hv; simp only [List.mem_cons, List.not_mem_nil, or_false] at hv; rcases hv with rfl | rfl | rfl <;> rfl) (Nat.le_of_ble_eq_true rfl) rfl ?_
  unfold F_G_addTarget at hF
  refine Ev_aload_n d_G_addTarget_0 rfl ?_
  refine g_G_67 rfl d_G_addTarget_1 ?_
  refine Ev_iload_n d_G_addTarget_4 rfl ?_
  refine Ev_iload_n d_G_addTarget_5 rfl ?_
  refine Ev_aload_n d_G_addTarget_6 rfl ?_
  refine g_G_19 rfl d_G_addTarget_7 ?_
  refine g_G_307 rfl d_G_addTarget_10 ?_
  refine Ev_aload_n d_G_addTarget_13 rfl ?_
  refine g_G_10 rfl d_G_addTarget_14 ?_
  refine g_G_121 rfl d_G_addTarget_17 ?_
  refine Ev_aload_n d_G_addTarget_20 rfl ?_
  refine g_G_71 rfl d_G_addTarget_21 ?_
  refine Ev_isub d_G_addTarget_24 ?_
  refine Ev_iload_n d_G_addTarget_25 rfl ?_
  obtain ⟨r1, c1, hC, hF⟩ := x_bind_some hF
  refine k_G_310 (by simp [x_span]) rfl d_G_addTarget_26 ⟨by decide, by decide⟩ (Nat.le_of_ble_eq_true rfl) ?_
  exact C_Spn_greatest (by simp [x_span]) hC (T_G_addTarget_29 hF hQ)
def F_G_addTargetsOf_42 (p1 : Nat) (K : Int32 → x_S → Option (Int32 × x_S)) (x2 : Int32) (c : x_S) : Option (Int32 × x_S) := K (x2 + (1 : Int32)) c
theorem T_G_addTargetsOf_42 {E : x_E} {o : x_S} {Q : Int32 → x_H → Prop} {p1 : Nat} (hp1 : x_span p1) {K : Int32 → x_S → Option (Int32 × x_S)} (hK : ∀ {x2 : Int32} {c : x_S} {r : Int32} {s : x_S}, K x2 c = some (r, s) → Q r (hpk s o) → Ev E m_G_addTargetsOf 0 0 2 [some (.ref 0), some (.ref p1), some (.int x2)] [] (hpk c o) Q) {x2 : Int32} {c : x_S} {r : Int32} {s : x_S} (hF : F_G_addTargetsOf_42 p1 K x2 c = some (r, s)) (hQ : Q r (hpk s o)) : Ev E m_G_addTargetsOf 0 0 42 [some (.ref 0), some (.ref p1), some (.int x2)] [] (hpk c o) Q := by
  unfold F_G_addTargetsOf_42 at hF
  refine Ev_iinc (v := (x2 + (1 : Int32))) (L' := [some (.ref 0), some (.ref p1), some (.int (x2 + (1 : Int32)))]) d_G_addTargetsOf_42 rfl rfl (by decide) rfl ?_
  refine Ev_goto (tgt := 2) d_G_addTargetsOf_45 rfl ?_
  exact hK hF hQ
def F_G_addTargetsOf_2 (p1 : Nat) : Nat → Int32 → x_S → Option (Int32 × x_S)
  | 0, _, _ => none
  | n + 1, x2, c => if (c p1 3) ≤ x2 then (some (0, c)) else (x_ix x2 7 (fun j2 => if (c (p1 + 1) j2) ≤ (c 1 1) then (F_G_addTargetsOf_42 p1 (F_G_addTargetsOf_2 p1 n) x2 c) else (x_ix x2 7 (fun j4 => x_ix x2 7 (fun j5 => x_bind (F_G_addTarget (c (p1 + 1) j4) (c (p1 + 3) j5) c) (fun _ c6 => F_G_addTargetsOf_42 p1 (F_G_addTargetsOf_2 p1 n) x2 c6))))))
theorem T_G_addTargetsOf_2 {E : x_E} {o : x_S} {Q : Int32 → x_H → Prop} {p1 : Nat} (hp1 : x_span p1) : ∀ (n : Nat) {x2 : Int32} {c : x_S} {r : Int32} {s : x_S}, F_G_addTargetsOf_2 p1 n x2 c = some (r, s) → Q r (hpk s o) → Ev E m_G_addTargetsOf 0 0 2 [some (.ref 0), some (.ref p1), some (.int x2)] [] (hpk c o) Q := by
  intro n
  induction n with
  | zero => intro x2 c r s hF; rw [F_G_addTargetsOf_2] at hF; cases hF
  | succ n ih =>
    intro x2 c r s hF hQ
    rw [F_G_addTargetsOf_2] at hF
    refine Ev_iload_n d_G_addTargetsOf_2 rfl ?_
    refine Ev_aload_n d_G_addTargetsOf_3 rfl ?_
    refine g_G_299 hp1 rfl d_G_addTargetsOf_4 ?_
    refine Ev_icmp_ge (tgt := 48) d_G_addTargetsOf_7 rfl (fun h1 => ?_) (fun h1 => ?_)
    · rw [if_pos h1] at hF
      cases hF
      exact Ev_return d_G_addTargetsOf_48 rfl hQ
    · rw [if_neg h1] at hF
      refine Ev_aload_n d_G_addTargetsOf_10 rfl ?_
      refine g_G_300 hp1 rfl d_G_addTargetsOf_11 ?_
      refine Ev_iload_n d_G_addTargetsOf_14 rfl ?_
      obtain ⟨j2, hij2, hjj2, hF⟩ := x_ix_some hF
      refine Ec_iald d_G_addTargetsOf_15 (P := (p1 + 1)) (x_spanA hp1 0 (by decide)).1 (x_spanA hp1 0 (by decide)).2 hij2 hjj2 ?_
      refine Ev_aload_n d_G_addTargetsOf_16 rfl ?_
      refine g_G_10 rfl d_G_addTargetsOf_17 ?_
      refine g_G_115 rfl d_G_addTargetsOf_20 ?_
      refine Ev_icmp_le (tgt := 42) d_G_addTargetsOf_23 rfl (fun h3 => ?_) (fun h3 => ?_)
      · rw [if_pos h3] at hF
        exact T_G_addTargetsOf_42 hp1 (fun h1 h2 => ih h1 h2) hF hQ
      · rw [if_neg h3] at hF
        refine Ev_aload_n d_G_addTargetsOf_26 rfl ?_
        refine Ev_aload_n d_G_addTargetsOf_27 rfl ?_
        refine g_G_300 hp1 rfl d_G_addTargetsOf_28 ?_
        refine Ev_iload_n d_G_addTargetsOf_31 rfl ?_
        obtain ⟨j4, hij4, hjj4, hF⟩ := x_ix_some hF
        refine Ec_iald d_G_addTargetsOf_32 (P := (p1 + 1)) (x_spanA hp1 0 (by decide)).1 (x_spanA hp1 0 (by decide)).2 hij4 hjj4 ?_
        refine Ev_aload_n d_G_addTargetsOf_33 rfl ?_
        refine g_G_304 hp1 rfl d_G_addTargetsOf_34 ?_
        refine Ev_iload_n d_G_addTargetsOf_37 rfl ?_
        obtain ⟨j5, hij5, hjj5, hF⟩ := x_ix_some hF
        refine Ec_iald d_G_addTargetsOf_38 (P := (p1 + 3)) (x_spanA hp1 2 (by decide)).1 (x_spanA hp1 2 (by decide)).2 hij5 hjj5 ?_
        obtain ⟨r6, c6, hC, hF⟩ := x_bind_some hF
        refine k_G_286 rfl d_G_addTargetsOf_39 ⟨by decide, by decide⟩ (Nat.le_of_ble_eq_true rfl) ?_
        exact C_G_addTarget hC (T_G_addTargetsOf_42 hp1 (fun h1 h2 => ih h1 h2) hF hQ)
def F_G_addTargetsOf (p1 : Nat) (c : x_S) : Option (Int32 × x_S) := F_G_addTargetsOf_2 p1 x_fuel (0 : Int32) c
theorem C_G_addTargetsOf {E : x_E} {o : x_S} {Q : Int32 → x_H → Prop} {p1 : Nat} (hp1 : x_span p1) {c : x_S} {r : Int32} {s : x_S} (hF : F_G_addTargetsOf p1 c = some (r, s)) (hQ : Q r (hpk s o)) : Call E m_G_addTargetsOf 0 0 [.ref 0, .ref p1] (hpk c o) Q := by
  refine Call_of (L := [some (.ref 0), some (.ref p1), none]) (by decide) (by intro v hv; simp only [List.mem_cons, List.not_mem_nil, or_false] at hv; rcases hv with rfl | rfl <;> rfl) (Nat.le_of_ble_eq_true rfl) rfl ?_
  unfold F_G_addTargetsOf at hF
  refine Ev_iconst (v := 0) d_G_addTargetsOf_0 (by decide) ?_
  refine Ev_istore_n (L' := [some (.ref 0), some (.ref p1), some (.int (0 : Int32))]) d_G_addTargetsOf_1 (by decide) rfl ?_
  exact T_G_addTargetsOf_2 hp1 x_fuel hF hQ
def F_G_lookAhead_70 (c : x_S) : Option (Int32 × x_S) := some (0, c)
theorem T_G_lookAhead_70 {E : x_E} {o : x_S} {Q : Int32 → x_H → Prop} {l0 : Option Value} {l1 : Option Value} {c : x_S} {r : Int32} {s : x_S} (hF : F_G_lookAhead_70 c = some (r, s)) (hQ : Q r (hpk s o)) : Ev E m_G_lookAhead 0 0 70 [l0, l1] [] (hpk c o) Q := by
  unfold F_G_lookAhead_70 at hF
  cases hF
  exact Ev_return d_G_lookAhead_70 rfl hQ
def F_G_lookAhead_56 (x1 : Int32) (c : x_S) : Option (Int32 × x_S) := x_bind (F_G_addTarget (x1 + (c 2 6)) (0 : Int32) c) (fun _ c1 => F_G_lookAhead_70 c1)
theorem T_G_lookAhead_56 {E : x_E} {o : x_S} {Q : Int32 → x_H → Prop} {x1 : Int32} {c : x_S} {r : Int32} {s : x_S} (hF : F_G_lookAhead_56 x1 c = some (r, s)) (hQ : Q r (hpk s o)) : Ev E m_G_lookAhead 0 0 56 [some (.ref 0), some (.int x1)] [] (hpk c o) Q := by
  unfold F_G_lookAhead_56 at hF
  refine Ev_aload_n d_G_lookAhead_56 rfl ?_
  refine Ev_iload_n d_G_lookAhead_57 rfl ?_
  refine Ev_aload_n d_G_lookAhead_58 rfl ?_
  refine g_G_19 rfl d_G_lookAhead_59 ?_
  refine g_G_296 rfl d_G_lookAhead_62 ?_
  refine Ev_iadd d_G_lookAhead_65 ?_
  refine Ev_iconst (v := 0) d_G_lookAhead_66 (by decide) ?_
  obtain ⟨r1, c1, hC, hF⟩ := x_bind_some hF
  refine k_G_286 rfl d_G_lookAhead_67 ⟨by decide, by decide⟩ (Nat.le_of_ble_eq_true rfl) ?_
  exact C_G_addTarget hC (T_G_lookAhead_70 hF hQ)
def F_G_lookAhead_42 (x1 : Int32) (c : x_S) : Option (Int32 × x_S) := x_bind (F_G_addTargetsOf 13 c) (fun _ c1 => F_G_lookAhead_56 x1 c1)
theorem T_G_lookAhead_42 {E : x_E} {o : x_S} {Q : Int32 → x_H → Prop} {x1 : Int32} {c : x_S} {r : Int32} {s : x_S} (hF : F_G_lookAhead_42 x1 c = some (r, s)) (hQ : Q r (hpk s o)) : Ev E m_G_lookAhead 0 0 42 [some (.ref 0), some (.int x1)] [] (hpk c o) Q := by
  unfold F_G_lookAhead_42 at hF
  refine Ev_aload_n d_G_lookAhead_42 rfl ?_
  refine Ev_aload_n d_G_lookAhead_43 rfl ?_
  refine g_G_19 rfl d_G_lookAhead_44 ?_
  refine g_G_256 rfl d_G_lookAhead_47 ?_
  refine g_G_293 rfl d_G_lookAhead_50 ?_
  obtain ⟨r1, c1, hC, hF⟩ := x_bind_some hF
  refine k_G_289 rfl d_G_lookAhead_53 ⟨by decide, by decide⟩ (Nat.le_of_ble_eq_true rfl) ?_
  exact C_G_addTargetsOf (by simp [x_span]) hC (T_G_lookAhead_56 hF hQ)
def F_G_lookAhead_31 (x1 : Int32) (c : x_S) : Option (Int32 × x_S) := x_bind (F_G_addTargetsOf 3 c) (fun _ c1 => F_G_lookAhead_42 x1 c1)
theorem T_G_lookAhead_31 {E : x_E} {o : x_S} {Q : Int32 → x_H → Prop} {x1 : Int32} {c : x_S} {r : Int32} {s : x_S} (hF : F_G_lookAhead_31 x1 c = some (r, s)) (hQ : Q r (hpk s o)) : Ev E m_G_lookAhead 0 0 31 [some (.ref 0), some (.int x1)] [] (hpk c o) Q := by
  unfold F_G_lookAhead_31 at hF
  refine Ev_aload_n d_G_lookAhead_31 rfl ?_
  refine Ev_aload_n d_G_lookAhead_32 rfl ?_
  refine g_G_19 rfl d_G_lookAhead_33 ?_
  refine g_G_236 rfl d_G_lookAhead_36 ?_
  obtain ⟨r1, c1, hC, hF⟩ := x_bind_some hF
  refine k_G_289 rfl d_G_lookAhead_39 ⟨by decide, by decide⟩ (Nat.le_of_ble_eq_true rfl) ?_
  exact C_G_addTargetsOf (by simp [x_span]) hC (T_G_lookAhead_42 hF hQ)
def F_G_lookAhead_22 (x1 s0 : Int32) (c : x_S) : Option (Int32 × x_S) := if s0 = 0 then (F_G_lookAhead_70 c) else (x_bind (F_G_addTarget x1 (0 : Int32) c) (fun _ c2 => F_G_lookAhead_31 x1 c2))
theorem T_G_lookAhead_22 {E : x_E} {o : x_S} {Q : Int32 → x_H → Prop} {x1 s0 : Int32} {c : x_S} {r : Int32} {s : x_S} (hF : F_G_lookAhead_22 x1 s0 c = some (r, s)) (hQ : Q r (hpk s o)) : Ev E m_G_lookAhead 0 0 22 [some (.ref 0), some (.int x1)] [.int s0] (hpk c o) Q := by
  unfold F_G_lookAhead_22 at hF
  refine Ev_if_eq (tgt := 70) d_G_lookAhead_22 rfl (fun h1 => ?_) (fun h1 => ?_)
  · rw [if_pos h1] at hF
    exact T_G_lookAhead_70 hF hQ
  · rw [if_neg h1] at hF
    refine Ev_aload_n d_G_lookAhead_25 rfl ?_
    refine Ev_iload_n d_G_lookAhead_26 rfl ?_
    refine Ev_iconst (v := 0) d_G_lookAhead_27 (by decide) ?_
    obtain ⟨r2, c2, hC, hF⟩ := x_bind_some hF
    refine k_G_286 rfl d_G_lookAhead_28 ⟨by decide, by decide⟩ (Nat.le_of_ble_eq_true rfl) ?_
    exact C_G_addTarget hC (T_G_lookAhead_31 hF hQ)
def F_G_lookAhead_18 (x1 : Int32) (c : x_S) : Option (Int32 × x_S) := x_bind (F_G_isGuided c) (fun r1 c1 => F_G_lookAhead_22 x1 r1 c1)
theorem T_G_lookAhead_18 {E : x_E} {o : x_S} {Q : Int32 → x_H → Prop} {x1 : Int32} {c : x_S} {r : Int32} {s : x_S} (hF : F_G_lookAhead_18 x1 c = some (r, s)) (hQ : Q r (hpk s o)) : Ev E m_G_lookAhead 0 0 18 [some (.ref 0), some (.int x1)] [] (hpk c o) Q := by
  unfold F_G_lookAhead_18 at hF
  refine Ev_aload_n d_G_lookAhead_18 rfl ?_
  obtain ⟨r1, c1, hC, hF⟩ := x_bind_some hF
  refine k_G_221 rfl d_G_lookAhead_19 ⟨by decide, by decide⟩ (Nat.le_of_ble_eq_true rfl) ?_
  exact C_G_isGuided hC (T_G_lookAhead_22 hF hQ)
def F_G_lookAhead_8 (x1 s1 : Int32) (c : x_S) : Option (Int32 × x_S) := x_bind (F_Cur_begin s1 (c 1 1) c) (fun _ c1 => F_G_lookAhead_18 x1 c1)
theorem T_G_lookAhead_8 {E : x_E} {o : x_S} {Q : Int32 → x_H → Prop} {x1 s1 : Int32} {c : x_S} {r : Int32} {s : x_S} (hF : F_G_lookAhead_8 x1 s1 c = some (r, s)) (hQ : Q r (hpk s o)) : Ev E m_G_lookAhead 0 0 8 [some (.ref 0), some (.int x1)] [.int s1, .ref 42] (hpk c o) Q := by
  unfold F_G_lookAhead_8 at hF
  refine Ev_aload_n d_G_lookAhead_8 rfl ?_
  refine g_G_10 rfl d_G_lookAhead_9 ?_
  refine g_G_115 rfl d_G_lookAhead_12 ?_
  obtain ⟨r1, c1, hC, hF⟩ := x_bind_some hF
  refine k_G_283 rfl d_G_lookAhead_15 ⟨by decide, by decide⟩ (Nat.le_of_ble_eq_true rfl) ?_
  exact C_Cur_begin hC (T_G_lookAhead_18 hF hQ)
def F_G_lookAhead (x1 : Int32) (c : x_S) : Option (Int32 × x_S) := x_bind (F_G_ceilingNow c) (fun r1 c1 => F_G_lookAhead_8 x1 r1 c1)
theorem C_G_lookAhead {E : x_E} {o : x_S} {Q : Int32 → x_H → Prop} {x1 : Int32} {c : x_S} {r : Int32} {s : x_S} (hF : F_G_lookAhead x1 c = some (r, s)) (hQ : Q r (hpk s o)) : Call E m_G_lookAhead 0 0 [.ref 0, .int x1] (hpk c o) Q := by
  refine Call_of (L := [some (.ref 0), some (.int x1)]) (by decide) (by intro v hv; simp only [List.mem_cons, List.not_mem_nil, or_false] at hv; rcases hv with rfl | rfl <;> rfl) (Nat.le_of_ble_eq_true rfl) rfl ?_
  unfold F_G_lookAhead at hF
  refine Ev_aload_n d_G_lookAhead_0 rfl ?_
  refine g_G_67 rfl d_G_lookAhead_1 ?_
  refine Ev_aload_n d_G_lookAhead_4 rfl ?_
  obtain ⟨r1, c1, hC, hF⟩ := x_bind_some hF
  refine k_G_197 rfl d_G_lookAhead_5 ⟨by decide, by decide⟩ (Nat.le_of_ble_eq_true rfl) ?_
  exact C_G_ceilingNow hC (T_G_lookAhead_8 hF hQ)
def F_G_gradeWithEnd_28 (s0 : Int32) (c : x_S) : Option (Int32 × x_S) := some (s0, c)
theorem T_G_gradeWithEnd_28 {E : x_E} {o : x_S} {Q : Int32 → x_H → Prop} {l0 : Option Value} {l1 : Option Value} {s0 : Int32} {c : x_S} {r : Int32} {s : x_S} (hF : F_G_gradeWithEnd_28 s0 c = some (r, s)) (hQ : Q r (hpk s o)) : Ev E m_G_gradeWithEnd 0 0 28 [l0, l1] [.int s0] (hpk c o) Q := by
  unfold F_G_gradeWithEnd_28 at hF
  cases hF
  exact Ev_ireturn d_G_gradeWithEnd_28 rfl hQ
def F_G_gradeWithEnd_14 (c : x_S) : Option (Int32 × x_S) := x_bind (F_Cur_gradeOf (c 1 2) c) (fun r1 c1 => F_G_gradeWithEnd_28 r1 c1)
theorem T_G_gradeWithEnd_14 {E : x_E} {o : x_S} {Q : Int32 → x_H → Prop} {l1 : Option Value} {c : x_S} {r : Int32} {s : x_S} (hF : F_G_gradeWithEnd_14 c = some (r, s)) (hQ : Q r (hpk s o)) : Ev E m_G_gradeWithEnd 0 0 14 [some (.ref 0), l1] [] (hpk c o) Q := by
  unfold F_G_gradeWithEnd_14 at hF
  refine Ev_aload_n d_G_gradeWithEnd_14 rfl ?_
  refine g_G_67 rfl d_G_gradeWithEnd_15 ?_
  refine Ev_aload_n d_G_gradeWithEnd_18 rfl ?_
  refine g_G_10 rfl d_G_gradeWithEnd_19 ?_
  refine g_G_172 rfl d_G_gradeWithEnd_22 ?_
  obtain ⟨r1, c1, hC, hF⟩ := x_bind_some hF
  refine k_G_277 rfl d_G_gradeWithEnd_25 ⟨by decide, by decide⟩ (Nat.le_of_ble_eq_true rfl) ?_
  exact C_Cur_gradeOf hC (T_G_gradeWithEnd_28 hF hQ)
def F_G_gradeWithEnd_4 (x1 s0 : Int32) (c : x_S) : Option (Int32 × x_S) := if s0 = 0 then (x_bind (F_G_lookAhead x1 c) (fun _ c2 => F_G_gradeWithEnd_14 c2)) else (some ((4 : Int32), c))
theorem T_G_gradeWithEnd_4 {E : x_E} {o : x_S} {Q : Int32 → x_H → Prop} {x1 s0 : Int32} {c : x_S} {r : Int32} {s : x_S} (hF : F_G_gradeWithEnd_4 x1 s0 c = some (r, s)) (hQ : Q r (hpk s o)) : Ev E m_G_gradeWithEnd 0 0 4 [some (.ref 0), some (.int x1)] [.int s0] (hpk c o) Q := by
  unfold F_G_gradeWithEnd_4 at hF
  refine Ev_if_eq (tgt := 9) d_G_gradeWithEnd_4 rfl (fun h1 => ?_) (fun h1 => ?_)
  · rw [if_pos h1] at hF
    refine Ev_aload_n d_G_gradeWithEnd_9 rfl ?_
    refine Ev_iload_n d_G_gradeWithEnd_10 rfl ?_
    obtain ⟨r2, c2, hC, hF⟩ := x_bind_some hF
    refine k_G_274 rfl d_G_gradeWithEnd_11 ⟨by decide, by decide⟩ (Nat.le_of_ble_eq_true rfl) ?_
    exact C_G_lookAhead hC (T_G_gradeWithEnd_14 hF hQ)
  · rw [if_neg h1] at hF
    refine Ev_iconst (v := 4) d_G_gradeWithEnd_7 (by decide) ?_
    cases hF
    exact Ev_ireturn d_G_gradeWithEnd_8 rfl hQ
def F_G_gradeWithEnd (x1 : Int32) (c : x_S) : Option (Int32 × x_S) := x_bind (F_G_isStopped c) (fun r1 c1 => F_G_gradeWithEnd_4 x1 r1 c1)
theorem C_G_gradeWithEnd {E : x_E} {o : x_S} {Q : Int32 → x_H → Prop} {x1 : Int32} {c : x_S} {r : Int32} {s : x_S} (hF : F_G_gradeWithEnd x1 c = some (r, s)) (hQ : Q r (hpk s o)) : Call E m_G_gradeWithEnd 0 0 [.ref 0, .int x1] (hpk c o) Q := by
  refine Call_of (L := [some (.ref 0), some (.int x1)]) (by decide) (by intro v hv; simp only [List.mem_cons, List.not_mem_nil, or_false] at hv; rcases hv with rfl | rfl <;> rfl) (Nat.le_of_ble_eq_true rfl) rfl ?_
  unfold F_G_gradeWithEnd at hF
  refine Ev_aload_n d_G_gradeWithEnd_0 rfl ?_
  obtain ⟨r1, c1, hC, hF⟩ := x_bind_some hF
  refine k_G_193 rfl d_G_gradeWithEnd_1 ⟨by decide, by decide⟩ (Nat.le_of_ble_eq_true rfl) ?_
  exact C_G_isStopped hC (T_G_gradeWithEnd_4 hF hQ)
def F_G_faultOfReceived_210 (s0 : Int32) (c : x_S) : Option (Int32 × x_S) := some (s0, c)
theorem T_G_faultOfReceived_210 {E : x_E} {o : x_S} {Q : Int32 → x_H → Prop} {l0 : Option Value} {l1 : Option Value} {l2 : Option Value} {s0 : Int32} {c : x_S} {r : Int32} {s : x_S} (hF : F_G_faultOfReceived_210 s0 c = some (r, s)) (hQ : Q r (hpk s o)) : Ev E m_G_faultOfReceived 0 0 210 [l0, l1, l2] [.int s0] (hpk c o) Q := by
  unfold F_G_faultOfReceived_210 at hF
  cases hF
  exact Ev_ireturn d_G_faultOfReceived_210 rfl hQ
def F_G_faultOfReceived_199 (s0 : Int32) (c : x_S) : Option (Int32 × x_S) := if s0 = 0 then (F_G_faultOfReceived_210 (12 : Int32) c) else (F_G_faultOfReceived_210 (0 : Int32) c)
theorem T_G_faultOfReceived_199 {E : x_E} {o : x_S} {Q : Int32 → x_H → Prop} {l0 : Option Value} {l1 : Option Value} {l2 : Option Value} {s0 : Int32} {c : x_S} {r : Int32} {s : x_S} (hF : F_G_faultOfReceived_199 s0 c = some (r, s)) (hQ : Q r (hpk s o)) : Ev E m_G_faultOfReceived 0 0 199 [l0, l1, l2] [.int s0] (hpk c o) Q := by
  unfold F_G_faultOfReceived_199 at hF
  refine Ev_istore_n (L' := [l0, l1, some (.int s0)]) d_G_faultOfReceived_199 (by decide) rfl ?_
  refine Ev_iload_n d_G_faultOfReceived_200 rfl ?_
  refine Ev_if_eq (tgt := 208) d_G_faultOfReceived_201 rfl (fun h1 => ?_) (fun h1 => ?_)
  · rw [if_pos h1] at hF
    refine Ev_bipush (v := (12)) d_G_faultOfReceived_208 (by decide) ?_
    exact T_G_faultOfReceived_210 hF hQ
  · rw [if_neg h1] at hF
    refine Ev_iconst (v := 0) d_G_faultOfReceived_204 (by decide) ?_
    refine Ev_goto (tgt := 210) d_G_faultOfReceived_205 rfl ?_
    exact T_G_faultOfReceived_210 hF hQ
def F_G_faultOfReceived_194 (c : x_S) : Option (Int32 × x_S) := F_G_faultOfReceived_199 (1 : Int32) c
theorem T_G_faultOfReceived_194 {E : x_E} {o : x_S} {Q : Int32 → x_H → Prop} {l0 : Option Value} {l1 : Option Value} {l2 : Option Value} {c : x_S} {r : Int32} {s : x_S} (hF : F_G_faultOfReceived_194 c = some (r, s)) (hQ : Q r (hpk s o)) : Ev E m_G_faultOfReceived 0 0 194 [l0, l1, l2] [] (hpk c o) Q := by
  unfold F_G_faultOfReceived_194 at hF
  refine Ev_iconst (v := 1) d_G_faultOfReceived_194 (by decide) ?_
  refine Ev_goto (tgt := 199) d_G_faultOfReceived_195 rfl ?_
  exact T_G_faultOfReceived_199 hF hQ
def F_G_faultOfReceived_191 (s0 : Int32) (c : x_S) : Option (Int32 × x_S) := if s0 = 0 then (F_G_faultOfReceived_199 (0 : Int32) c) else (F_G_faultOfReceived_194 c)
theorem T_G_faultOfReceived_191 {E : x_E} {o : x_S} {Q : Int32 → x_H → Prop} {l0 : Option Value} {l1 : Option Value} {l2 : Option Value} {s0 : Int32} {c : x_S} {r : Int32} {s : x_S} (hF : F_G_faultOfReceived_191 s0 c = some (r, s)) (hQ : Q r (hpk s o)) : Ev E m_G_faultOfReceived 0 0 191 [l0, l1, l2] [.int s0] (hpk c o) Q := by
  unfold F_G_faultOfReceived_191 at hF
  refine Ev_if_eq (tgt := 198) d_G_faultOfReceived_191 rfl (fun h1 => ?_) (fun h1 => ?_)
  · rw [if_pos h1] at hF
    refine Ev_iconst (v := 0) d_G_faultOfReceived_198 (by decide) ?_
    exact T_G_faultOfReceived_199 hF hQ
  · rw [if_neg h1] at hF
    exact T_G_faultOfReceived_194 hF hQ
def F_G_faultOfReceived_188 (s1 s2 : Int32) (c : x_S) : Option (Int32 × x_S) := x_bind (F_Res_hasRoom s1 s2 c) (fun r1 c1 => F_G_faultOfReceived_191 r1 c1)
theorem T_G_faultOfReceived_188 {E : x_E} {o : x_S} {Q : Int32 → x_H → Prop} {l0 : Option Value} {l1 : Option Value} {l2 : Option Value} {s1 s2 : Int32} {c : x_S} {r : Int32} {s : x_S} (hF : F_G_faultOfReceived_188 s1 s2 c = some (r, s)) (hQ : Q r (hpk s o)) : Ev E m_G_faultOfReceived 0 0 188 [l0, l1, l2] [.int s2, .int s1, .ref 11] (hpk c o) Q := by
  unfold F_G_faultOfReceived_188 at hF
  obtain ⟨r1, c1, hC, hF⟩ := x_bind_some hF
  refine k_G_266 rfl d_G_faultOfReceived_188 ⟨by decide, by decide⟩ (Nat.le_of_ble_eq_true rfl) ?_
  exact C_Res_hasRoom hC (T_G_faultOfReceived_191 hF hQ)
def F_G_faultOfReceived_155 (c : x_S) : Option (Int32 × x_S) := x_ix (4 : Int32) 6 (fun j1 => if (c 25 j1) = 0 then (F_G_faultOfReceived_194 c) else (x_bind (F_Msg_endedNumber c) (fun r3 c3 => F_G_faultOfReceived_188 (c 24 9) r3 c3)))
theorem T_G_faultOfReceived_155 {E : x_E} {o : x_S} {Q : Int32 → x_H → Prop} {l1 : Option Value} {l2 : Option Value} {c : x_S} {r : Int32} {s : x_S} (hF : F_G_faultOfReceived_155 c = some (r, s)) (hQ : Q r (hpk s o)) : Ev E m_G_faultOfReceived 0 0 155 [some (.ref 0), l1, l2] [] (hpk c o) Q := by
  unfold F_G_faultOfReceived_155 at hF
  refine Ev_aload_n d_G_faultOfReceived_155 rfl ?_
  refine g_G_33 rfl d_G_faultOfReceived_156 ?_
  refine g_G_248 rfl d_G_faultOfReceived_159 ?_
  refine Ev_iconst (v := 4) d_G_faultOfReceived_162 (by decide) ?_
  obtain ⟨j1, hij1, hjj1, hF⟩ := x_ix_some hF
  refine Ec_zald d_G_faultOfReceived_163 (P := 25) (by decide) rfl hij1 hjj1 ?_
  refine Ev_if_eq (tgt := 194) d_G_faultOfReceived_164 rfl (fun h2 => ?_) (fun h2 => ?_)
  · rw [if_pos h2] at hF
    exact T_G_faultOfReceived_194 hF hQ
  · rw [if_neg h2] at hF
    refine Ev_aload_n d_G_faultOfReceived_167 rfl ?_
    refine g_G_19 rfl d_G_faultOfReceived_168 ?_
    refine g_G_256 rfl d_G_faultOfReceived_171 ?_
    refine Ev_aload_n d_G_faultOfReceived_174 rfl ?_
    refine g_G_33 rfl d_G_faultOfReceived_175 ?_
    refine g_G_260 rfl d_G_faultOfReceived_178 ?_
    refine Ev_aload_n d_G_faultOfReceived_181 rfl ?_
    refine g_G_33 rfl d_G_faultOfReceived_182 ?_
    obtain ⟨r3, c3, hC, hF⟩ := x_bind_some hF
    refine k_G_263 rfl d_G_faultOfReceived_185 ⟨by decide, by decide⟩ (Nat.le_of_ble_eq_true rfl) ?_
    exact C_Msg_endedNumber hC (T_G_faultOfReceived_188 hF hQ)
def F_G_faultOfReceived_152 (c : x_S) : Option (Int32 × x_S) := some ((11 : Int32), c)
theorem T_G_faultOfReceived_152 {E : x_E} {o : x_S} {Q : Int32 → x_H → Prop} {l0 : Option Value} {l1 : Option Value} {l2 : Option Value} {c : x_S} {r : Int32} {s : x_S} (hF : F_G_faultOfReceived_152 c = some (r, s)) (hQ : Q r (hpk s o)) : Ev E m_G_faultOfReceived 0 0 152 [l0, l1, l2] [] (hpk c o) Q := by
  unfold F_G_faultOfReceived_152 at hF
  refine Ev_bipush (v := (11)) d_G_faultOfReceived_152 (by decide) ?_
  cases hF
  exact Ev_ireturn d_G_faultOfReceived_154 rfl hQ
def F_G_faultOfReceived_148 (s0 : Int32) (c : x_S) : Option (Int32 × x_S) := if s0 < (3 : Int32) then (F_G_faultOfReceived_155 c) else (F_G_faultOfReceived_152 c)
theorem T_G_faultOfReceived_148 {E : x_E} {o : x_S} {Q : Int32 → x_H → Prop} {l1 : Option Value} {l2 : Option Value} {s0 : Int32} {c : x_S} {r : Int32} {s : x_S} (hF : F_G_faultOfReceived_148 s0 c = some (r, s)) (hQ : Q r (hpk s o)) : Ev E m_G_faultOfReceived 0 0 148 [some (.ref 0), l1, l2] [.int s0] (hpk c o) Q := by
  unfold F_G_faultOfReceived_148 at hF
  refine Ev_iconst (v := 3) d_G_faultOfReceived_148 (by decide) ?_
  refine Ev_icmp_lt (tgt := 155) d_G_faultOfReceived_149 rfl (fun h1 => ?_) (fun h1 => ?_)
  · rw [if_pos h1] at hF
    exact T_G_faultOfReceived_155 hF hQ
  · rw [if_neg h1] at hF
    exact T_G_faultOfReceived_152 hF hQ
def F_G_faultOfReceived_134 (s0 : Int32) (c : x_S) : Option (Int32 × x_S) := if s0 = 0 then (F_G_faultOfReceived_155 c) else (x_bind (F_G_gradeWithEnd (c 24 6) c) (fun r2 c2 => F_G_faultOfReceived_148 r2 c2))
theorem T_G_faultOfReceived_134 {E : x_E} {o : x_S} {Q : Int32 → x_H → Prop} {l1 : Option Value} {l2 : Option Value} {s0 : Int32} {c : x_S} {r : Int32} {s : x_S} (hF : F_G_faultOfReceived_134 s0 c = some (r, s)) (hQ : Q r (hpk s o)) : Ev E m_G_faultOfReceived 0 0 134 [some (.ref 0), l1, l2] [.int s0] (hpk c o) Q := by
  unfold F_G_faultOfReceived_134 at hF
  refine Ev_if_eq (tgt := 155) d_G_faultOfReceived_134 rfl (fun h1 => ?_) (fun h1 => ?_)
  · rw [if_pos h1] at hF
    exact T_G_faultOfReceived_155 hF hQ
  · rw [if_neg h1] at hF
    refine Ev_aload_n d_G_faultOfReceived_137 rfl ?_
    refine Ev_aload_n d_G_faultOfReceived_138 rfl ?_
    refine g_G_33 rfl d_G_faultOfReceived_139 ?_
    refine g_G_252 rfl d_G_faultOfReceived_142 ?_
    obtain ⟨r2, c2, hC, hF⟩ := x_bind_some hF
    refine k_G_253 rfl d_G_faultOfReceived_145 ⟨by decide, by decide⟩ (Nat.le_of_ble_eq_true rfl) ?_
    exact C_G_gradeWithEnd hC (T_G_faultOfReceived_148 hF hQ)
def F_G_faultOfReceived_101 (c : x_S) : Option (Int32 × x_S) := if (c 24 4) = (9 : Int32) then (if (c 2 5) < (c 24 6) then (F_G_faultOfReceived_152 c) else (x_bind (F_G_isGuided c) (fun r3 c3 => F_G_faultOfReceived_134 r3 c3))) else (F_G_faultOfReceived_155 c)
theorem T_G_faultOfReceived_101 {E : x_E} {o : x_S} {Q : Int32 → x_H → Prop} {l1 : Option Value} {l2 : Option Value} {c : x_S} {r : Int32} {s : x_S} (hF : F_G_faultOfReceived_101 c = some (r, s)) (hQ : Q r (hpk s o)) : Ev E m_G_faultOfReceived 0 0 101 [some (.ref 0), l1, l2] [] (hpk c o) Q := by
  unfold F_G_faultOfReceived_101 at hF
  refine Ev_aload_n d_G_faultOfReceived_101 rfl ?_
  refine g_G_33 rfl d_G_faultOfReceived_102 ?_
  refine g_G_92 rfl d_G_faultOfReceived_105 ?_
  refine Ev_bipush (v := (9)) d_G_faultOfReceived_108 (by decide) ?_
  refine Ev_icmp_ne (tgt := 155) d_G_faultOfReceived_110 rfl (fun h1 => ?_) (fun h1 => ?_)
  · rw [if_neg h1] at hF
    exact T_G_faultOfReceived_155 hF hQ
  · rw [if_pos h1] at hF
    refine Ev_aload_n d_G_faultOfReceived_113 rfl ?_
    refine g_G_33 rfl d_G_faultOfReceived_114 ?_
    refine g_G_252 rfl d_G_faultOfReceived_117 ?_
    refine Ev_aload_n d_G_faultOfReceived_120 rfl ?_
    refine g_G_19 rfl d_G_faultOfReceived_121 ?_
    refine g_G_184 rfl d_G_faultOfReceived_124 ?_
    refine Ev_icmp_gt (tgt := 152) d_G_faultOfReceived_127 rfl (fun h2 => ?_) (fun h2 => ?_)
    · rw [if_pos h2] at hF
      exact T_G_faultOfReceived_152 hF hQ
    · rw [if_neg h2] at hF
      refine Ev_aload_n d_G_faultOfReceived_130 rfl ?_
      obtain ⟨r3, c3, hC, hF⟩ := x_bind_some hF
      refine k_G_221 rfl d_G_faultOfReceived_131 ⟨by decide, by decide⟩ (Nat.le_of_ble_eq_true rfl) ?_
      exact C_G_isGuided hC (T_G_faultOfReceived_134 hF hQ)
def F_G_faultOfReceived_76 (c : x_S) : Option (Int32 × x_S) := if (c 24 4) = (9 : Int32) then (if (c 2 4) = 0 then (some ((10 : Int32), c)) else (F_G_faultOfReceived_101 c)) else (F_G_faultOfReceived_101 c)
theorem T_G_faultOfReceived_76 {E : x_E} {o : x_S} {Q : Int32 → x_H → Prop} {l1 : Option Value} {l2 : Option Value} {c : x_S} {r : Int32} {s : x_S} (hF : F_G_faultOfReceived_76 c = some (r, s)) (hQ : Q r (hpk s o)) : Ev E m_G_faultOfReceived 0 0 76 [some (.ref 0), l1, l2] [] (hpk c o) Q := by
  unfold F_G_faultOfReceived_76 at hF
  refine Ev_aload_n d_G_faultOfReceived_76 rfl ?_
  refine g_G_33 rfl d_G_faultOfReceived_77 ?_
  refine g_G_92 rfl d_G_faultOfReceived_80 ?_
  refine Ev_bipush (v := (9)) d_G_faultOfReceived_83 (by decide) ?_
  refine Ev_icmp_ne (tgt := 101) d_G_faultOfReceived_85 rfl (fun h1 => ?_) (fun h1 => ?_)
  · rw [if_neg h1] at hF
    exact T_G_faultOfReceived_101 hF hQ
  · rw [if_pos h1] at hF
    refine Ev_aload_n d_G_faultOfReceived_88 rfl ?_
    refine g_G_19 rfl d_G_faultOfReceived_89 ?_
    refine g_G_181 rfl d_G_faultOfReceived_92 ?_
    refine Ev_if_ne (tgt := 101) d_G_faultOfReceived_95 rfl (fun h2 => ?_) (fun h2 => ?_)
    · rw [if_neg h2] at hF
      exact T_G_faultOfReceived_101 hF hQ
    · rw [if_pos h2] at hF
      refine Ev_bipush (v := (10)) d_G_faultOfReceived_98 (by decide) ?_
      cases hF
      exact Ev_ireturn d_G_faultOfReceived_100 rfl hQ
def F_G_faultOfReceived_73 (c : x_S) : Option (Int32 × x_S) := some ((9 : Int32), c)
theorem T_G_faultOfReceived_73 {E : x_E} {o : x_S} {Q : Int32 → x_H → Prop} {l0 : Option Value} {l1 : Option Value} {l2 : Option Value} {c : x_S} {r : Int32} {s : x_S} (hF : F_G_faultOfReceived_73 c = some (r, s)) (hQ : Q r (hpk s o)) : Ev E m_G_faultOfReceived 0 0 73 [l0, l1, l2] [] (hpk c o) Q := by
  unfold F_G_faultOfReceived_73 at hF
  refine Ev_bipush (v := (9)) d_G_faultOfReceived_73 (by decide) ?_
  cases hF
  exact Ev_ireturn d_G_faultOfReceived_75 rfl hQ
def F_G_faultOfReceived_44 (c : x_S) : Option (Int32 × x_S) := if (c 0 8) = (6 : Int32) then (F_G_faultOfReceived_73 c) else (if (c 0 8) = (4 : Int32) then (if (c 24 4) = (16 : Int32) then (F_G_faultOfReceived_76 c) else (F_G_faultOfReceived_73 c)) else (F_G_faultOfReceived_76 c))
theorem T_G_faultOfReceived_44 {E : x_E} {o : x_S} {Q : Int32 → x_H → Prop} {l1 : Option Value} {l2 : Option Value} {c : x_S} {r : Int32} {s : x_S} (hF : F_G_faultOfReceived_44 c = some (r, s)) (hQ : Q r (hpk s o)) : Ev E m_G_faultOfReceived 0 0 44 [some (.ref 0), l1, l2] [] (hpk c o) Q := by
  unfold F_G_faultOfReceived_44 at hF
  refine Ev_aload_n d_G_faultOfReceived_44 rfl ?_
  refine g_G_51 rfl d_G_faultOfReceived_45 ?_
  refine Ev_bipush (v := (6)) d_G_faultOfReceived_48 (by decide) ?_
  refine Ev_icmp_eq (tgt := 73) d_G_faultOfReceived_50 rfl (fun h1 => ?_) (fun h1 => ?_)
  · rw [if_pos h1] at hF
    exact T_G_faultOfReceived_73 hF hQ
  · rw [if_neg h1] at hF
    refine Ev_aload_n d_G_faultOfReceived_53 rfl ?_
    refine g_G_51 rfl d_G_faultOfReceived_54 ?_
    refine Ev_iconst (v := 4) d_G_faultOfReceived_57 (by decide) ?_
    refine Ev_icmp_ne (tgt := 76) d_G_faultOfReceived_58 rfl (fun h2 => ?_) (fun h2 => ?_)
    · rw [if_neg h2] at hF
      exact T_G_faultOfReceived_76 hF hQ
    · rw [if_pos h2] at hF
      refine Ev_aload_n d_G_faultOfReceived_61 rfl ?_
      refine g_G_33 rfl d_G_faultOfReceived_62 ?_
      refine g_G_92 rfl d_G_faultOfReceived_65 ?_
      refine Ev_bipush (v := (16)) d_G_faultOfReceived_68 (by decide) ?_
      refine Ev_icmp_eq (tgt := 76) d_G_faultOfReceived_70 rfl (fun h3 => ?_) (fun h3 => ?_)
      · rw [if_pos h3] at hF
        exact T_G_faultOfReceived_76 hF hQ
      · rw [if_neg h3] at hF
        exact T_G_faultOfReceived_73 hF hQ
def F_G_faultOfReceived_41 (c : x_S) : Option (Int32 × x_S) := some ((8 : Int32), c)
theorem T_G_faultOfReceived_41 {E : x_E} {o : x_S} {Q : Int32 → x_H → Prop} {l0 : Option Value} {l1 : Option Value} {l2 : Option Value} {c : x_S} {r : Int32} {s : x_S} (hF : F_G_faultOfReceived_41 c = some (r, s)) (hQ : Q r (hpk s o)) : Ev E m_G_faultOfReceived 0 0 41 [l0, l1, l2] [] (hpk c o) Q := by
  unfold F_G_faultOfReceived_41 at hF
  refine Ev_bipush (v := (8)) d_G_faultOfReceived_41 (by decide) ?_
  cases hF
  exact Ev_ireturn d_G_faultOfReceived_43 rfl hQ
def F_G_faultOfReceived_25 (x1 : Int32) (c : x_S) : Option (Int32 × x_S) := if (c 24 4) = (24 : Int32) then (if x1 = 0 then (F_G_faultOfReceived_44 c) else (F_G_faultOfReceived_41 c)) else (F_G_faultOfReceived_44 c)
theorem T_G_faultOfReceived_25 {E : x_E} {o : x_S} {Q : Int32 → x_H → Prop} {l2 : Option Value} {x1 : Int32} {c : x_S} {r : Int32} {s : x_S} (hF : F_G_faultOfReceived_25 x1 c = some (r, s)) (hQ : Q r (hpk s o)) : Ev E m_G_faultOfReceived 0 0 25 [some (.ref 0), some (.int x1), l2] [] (hpk c o) Q := by
  unfold F_G_faultOfReceived_25 at hF
  refine Ev_aload_n d_G_faultOfReceived_25 rfl ?_
  refine g_G_33 rfl d_G_faultOfReceived_26 ?_
  refine g_G_92 rfl d_G_faultOfReceived_29 ?_
  refine Ev_bipush (v := (24)) d_G_faultOfReceived_32 (by decide) ?_
  refine Ev_icmp_ne (tgt := 44) d_G_faultOfReceived_34 rfl (fun h1 => ?_) (fun h1 => ?_)
  · rw [if_neg h1] at hF
    exact T_G_faultOfReceived_44 hF hQ
  · rw [if_pos h1] at hF
    refine Ev_iload_n d_G_faultOfReceived_37 rfl ?_
    refine Ev_if_eq (tgt := 44) d_G_faultOfReceived_38 rfl (fun h2 => ?_) (fun h2 => ?_)
    · rw [if_pos h2] at hF
      exact T_G_faultOfReceived_44 hF hQ
    · rw [if_neg h2] at hF
      exact T_G_faultOfReceived_41 hF hQ
def F_G_faultOfReceived (c : x_S) : Option (Int32 × x_S) := x_ix (1 : Int32) 6 (fun j1 => if (c 24 4) = (3 : Int32) then (if (c 25 j1) = 0 then (F_G_faultOfReceived_41 c) else (F_G_faultOfReceived_25 (c 25 j1) c)) else (F_G_faultOfReceived_25 (c 25 j1) c))
theorem C_G_faultOfReceived {E : x_E} {o : x_S} {Q : Int32 → x_H → Prop} {c : x_S} {r : Int32} {s : x_S} (hF : F_G_faultOfReceived c = some (r, s)) (hQ : Q r (hpk s o)) : Call E m_G_faultOfReceived 0 0 [.ref 0] (hpk c o) Q := by
  refine Call_of (L := [some (.ref 0), none, none]) (by decide) (by intro v hv; simp only [List.mem_cons, List.not_mem_nil, or_false] at hv; rw [hv]; rfl) (Nat.le_of_ble_eq_true rfl) rfl ?_
  unfold F_G_faultOfReceived at hF
  refine Ev_aload_n d_G_faultOfReceived_0 rfl ?_
  refine g_G_33 rfl d_G_faultOfReceived_1 ?_
  refine g_G_248 rfl d_G_faultOfReceived_4 ?_
  refine Ev_iconst (v := 1) d_G_faultOfReceived_7 (by decide) ?_
  obtain ⟨j1, hij1, hjj1, hF⟩ := x_ix_some hF
  refine Ec_zald d_G_faultOfReceived_8 (P := 25) (by decide) rfl hij1 hjj1 ?_
  refine Ev_istore_n (L' := [some (.ref 0), some (.int (c 25 j1)), none]) d_G_faultOfReceived_9 (by decide) rfl ?_
  refine Ev_aload_n d_G_faultOfReceived_10 rfl ?_
  refine g_G_33 rfl d_G_faultOfReceived_11 ?_
  refine g_G_92 rfl d_G_faultOfReceived_14 ?_
  refine Ev_iconst (v := 3) d_G_faultOfReceived_17 (by decide) ?_
  refine Ev_icmp_ne (tgt := 25) d_G_faultOfReceived_18 rfl (fun h2 => ?_) (fun h2 => ?_)
  · rw [if_neg h2] at hF
    exact T_G_faultOfReceived_25 hF hQ
  · rw [if_pos h2] at hF
    refine Ev_iload_n d_G_faultOfReceived_21 rfl ?_
    refine Ev_if_eq (tgt := 41) d_G_faultOfReceived_22 rfl (fun h3 => ?_) (fun h3 => ?_)
    · rw [if_pos h3] at hF
      exact T_G_faultOfReceived_41 hF hQ
    · rw [if_neg h3] at hF
      exact T_G_faultOfReceived_25 hF hQ
def F_G_write_22 (c : x_S) : Option (Int32 × x_S) := some (0, c)
theorem T_G_write_22 {E : x_E} {o : x_S} {Q : Int32 → x_H → Prop} {l0 : Option Value} {l1 : Option Value} {l2 : Option Value} {c : x_S} {r : Int32} {s : x_S} (hF : F_G_write_22 c = some (r, s)) (hQ : Q r (hpk s o)) : Ev E m_G_write 0 0 22 [l0, l1, l2] [] (hpk c o) Q := by
  unfold F_G_write_22 at hF
  cases hF
  exact Ev_return d_G_write_22 rfl hQ
def F_G_write (x1 x2 : Int32) (c : x_S) : Option (Int32 × x_S) := x_bind (F_Not_add ((((10000 : Int32) * (c 0 10)) + ((100 : Int32) * x1)) + x2) c) (fun _ c1 => F_G_write_22 c1)
theorem C_G_write {E : x_E} {o : x_S} {Q : Int32 → x_H → Prop} {x1 x2 : Int32} {c : x_S} {r : Int32} {s : x_S} (hF : F_G_write x1 x2 c = some (r, s)) (hQ : Q r (hpk s o)) : Call E m_G_write 0 0 [.ref 0, .int x1, .int x2] (hpk c o) Q := by
  refine Call_of (L := [some (.ref 0), some (.int x1), some (.int x2)]) (by decide) (by intro v hv; simp only [List.mem_cons, List.not_mem_nil, or_false] at hv; rcases hv with rfl | rfl | rfl <;> rfl) (Nat.le_of_ble_eq_true rfl) rfl ?_
  unfold F_G_write at hF
  refine Ev_aload_n d_G_write_0 rfl ?_
  refine g_G_47 rfl d_G_write_1 ?_
  refine Ev_sipush (v := (10000)) d_G_write_4 (by decide) ?_
  refine Ev_aload_n d_G_write_7 rfl ?_
  refine g_G_137 rfl d_G_write_8 ?_
  refine Ev_imul d_G_write_11 ?_
  refine Ev_bipush (v := (100)) d_G_write_12 (by decide) ?_
  refine Ev_iload_n d_G_write_14 rfl ?_
  refine Ev_imul d_G_write_15 ?_
  refine Ev_iadd d_G_write_16 ?_
  refine Ev_iload_n d_G_write_17 rfl ?_
  refine Ev_iadd d_G_write_18 ?_
  obtain ⟨r1, c1, hC, hF⟩ := x_bind_some hF
  refine k_G_215 rfl d_G_write_19 ⟨by decide, by decide⟩ (Nat.le_of_ble_eq_true rfl) ?_
  exact C_Not_add hC (T_G_write_22 hF hQ)
def F_G_become_19 (c : x_S) : Option (Int32 × x_S) := some (0, c)
theorem T_G_become_19 {E : x_E} {o : x_S} {Q : Int32 → x_H → Prop} {l0 : Option Value} {l1 : Option Value} {c : x_S} {r : Int32} {s : x_S} (hF : F_G_become_19 c = some (r, s)) (hQ : Q r (hpk s o)) : Ev E m_G_become 0 0 19 [l0, l1] [] (hpk c o) Q := by
  unfold F_G_become_19 at hF
  cases hF
  exact Ev_return d_G_become_19 rfl hQ
def F_G_become_13 (x1 : Int32) (c : x_S) : Option (Int32 × x_S) := x_bind (F_G_write (1 : Int32) x1 c) (fun _ c1 => F_G_become_19 c1)
theorem T_G_become_13 {E : x_E} {o : x_S} {Q : Int32 → x_H → Prop} {x1 : Int32} {c : x_S} {r : Int32} {s : x_S} (hF : F_G_become_13 x1 c = some (r, s)) (hQ : Q r (hpk s o)) : Ev E m_G_become 0 0 13 [some (.ref 0), some (.int x1)] [] (hpk c o) Q := by
  unfold F_G_become_13 at hF
  refine Ev_aload_n d_G_become_13 rfl ?_
  refine Ev_iconst (v := 1) d_G_become_14 (by decide) ?_
  refine Ev_iload_n d_G_become_15 rfl ?_
  obtain ⟨r1, c1, hC, hF⟩ := x_bind_some hF
  refine k_G_89 rfl d_G_become_16 ⟨by decide, by decide⟩ (Nat.le_of_ble_eq_true rfl) ?_
  exact C_G_write hC (T_G_become_19 hF hQ)
def F_G_become (x1 : Int32) (c : x_S) : Option (Int32 × x_S) := if (c 0 8) = x1 then (F_G_become_19 c) else (F_G_become_13 x1 (x_up c 0 8 x1))
theorem C_G_become {E : x_E} {o : x_S} {Q : Int32 → x_H → Prop} {x1 : Int32} {c : x_S} {r : Int32} {s : x_S} (hF : F_G_become x1 c = some (r, s)) (hQ : Q r (hpk s o)) : Call E m_G_become 0 0 [.ref 0, .int x1] (hpk c o) Q := by
  refine Call_of (L := [some (.ref 0), some (.int x1)]) (by decide) (by intro v hv; simp only [List.mem_cons, List.not_mem_nil, or_false] at hv; rcases hv with rfl | rfl <;> rfl) (Nat.le_of_ble_eq_true rfl) rfl ?_
  unfold F_G_become at hF
  refine Ev_aload_n d_G_become_0 rfl ?_
  refine g_G_51 rfl d_G_become_1 ?_
  refine Ev_iload_n d_G_become_4 rfl ?_
  refine Ev_icmp_eq (tgt := 19) d_G_become_5 rfl (fun h1 => ?_) (fun h1 => ?_)
  · rw [if_pos h1] at hF
    exact T_G_become_19 hF hQ
  · rw [if_neg h1] at hF
    refine Ev_aload_n d_G_become_8 rfl ?_
    refine Ev_iload_n d_G_become_9 rfl ?_
    refine q_G_51 rfl d_G_become_10 ?_
    exact T_G_become_13 hF hQ
def F_G_trip_17 (c : x_S) : Option (Int32 × x_S) := some (0, c)
theorem T_G_trip_17 {E : x_E} {o : x_S} {Q : Int32 → x_H → Prop} {l0 : Option Value} {c : x_S} {r : Int32} {s : x_S} (hF : F_G_trip_17 c = some (r, s)) (hQ : Q r (hpk s o)) : Ev E m_G_trip 0 0 17 [l0] [] (hpk c o) Q := by
  unfold F_G_trip_17 at hF
  cases hF
  exact Ev_return d_G_trip_17 rfl hQ
def F_G_trip_12 (c : x_S) : Option (Int32 × x_S) := F_G_trip_17 (x_up c 0 12 (0 : Int32))
theorem T_G_trip_12 {E : x_E} {o : x_S} {Q : Int32 → x_H → Prop} {c : x_S} {r : Int32} {s : x_S} (hF : F_G_trip_12 c = some (r, s)) (hQ : Q r (hpk s o)) : Ev E m_G_trip 0 0 12 [some (.ref 0)] [] (hpk c o) Q := by
  unfold F_G_trip_12 at hF
  refine Ev_aload_n d_G_trip_12 rfl ?_
  refine Ev_iconst (v := 0) d_G_trip_13 (by decide) ?_
  refine q_G_149 rfl d_G_trip_14 (Or.inl rfl) ?_
  exact T_G_trip_17 hF hQ
def F_G_trip_5 (c : x_S) : Option (Int32 × x_S) := x_bind (F_Trk_forget c) (fun _ c1 => F_G_trip_12 c1)
theorem T_G_trip_5 {E : x_E} {o : x_S} {Q : Int32 → x_H → Prop} {c : x_S} {r : Int32} {s : x_S} (hF : F_G_trip_5 c = some (r, s)) (hQ : Q r (hpk s o)) : Ev E m_G_trip 0 0 5 [some (.ref 0)] [] (hpk c o) Q := by
  unfold F_G_trip_5 at hF
  refine Ev_aload_n d_G_trip_5 rfl ?_
  refine g_G_19 rfl d_G_trip_6 ?_
  obtain ⟨r1, c1, hC, hF⟩ := x_bind_some hF
  refine k_G_218 rfl d_G_trip_9 ⟨by decide, by decide⟩ (Nat.le_of_ble_eq_true rfl) ?_
  exact C_Trk_forget hC (T_G_trip_12 hF hQ)
def F_G_trip (c : x_S) : Option (Int32 × x_S) := x_bind (F_G_become (4 : Int32) c) (fun _ c1 => F_G_trip_5 c1)
theorem C_G_trip {E : x_E} {o : x_S} {Q : Int32 → x_H → Prop} {c : x_S} {r : Int32} {s : x_S} (hF : F_G_trip c = some (r, s)) (hQ : Q r (hpk s o)) : Call E m_G_trip 0 0 [.ref 0] (hpk c o) Q := by
  refine Call_of (L := [some (.ref 0)]) (by decide) (by intro v hv; simp only [List.mem_cons, List.not_mem_nil, or_false] at hv; rw [hv]; rfl) (Nat.le_of_ble_eq_true rfl) rfl ?_
  unfold F_G_trip at hF
  refine Ev_aload_n d_G_trip_0 rfl ?_
  refine Ev_iconst (v := 4) d_G_trip_1 (by decide) ?_
  obtain ⟨r1, c1, hC, hF⟩ := x_bind_some hF
  refine k_G_140 rfl d_G_trip_2 ⟨by decide, by decide⟩ (Nat.le_of_ble_eq_true rfl) ?_
  exact C_G_become hC (T_G_trip_5 hF hQ)
def F_G_enterModeOfAuthority_64 (c : x_S) : Option (Int32 × x_S) := some (0, c)
theorem T_G_enterModeOfAuthority_64 {E : x_E} {o : x_S} {Q : Int32 → x_H → Prop} {l0 : Option Value} {l1 : Option Value} {c : x_S} {r : Int32} {s : x_S} (hF : F_G_enterModeOfAuthority_64 c = some (r, s)) (hQ : Q r (hpk s o)) : Ev E m_G_enterModeOfAuthority 0 0 64 [l0, l1] [] (hpk c o) Q := by
  unfold F_G_enterModeOfAuthority_64 at hF
  cases hF
  exact Ev_return d_G_enterModeOfAuthority_64 rfl hQ
def F_G_enterModeOfAuthority_59 (c : x_S) : Option (Int32 × x_S) := F_G_enterModeOfAuthority_64 (x_up c 0 13 (0 : Int32))
theorem T_G_enterModeOfAuthority_59 {E : x_E} {o : x_S} {Q : Int32 → x_H → Prop} {l1 : Option Value} {c : x_S} {r : Int32} {s : x_S} (hF : F_G_enterModeOfAuthority_59 c = some (r, s)) (hQ : Q r (hpk s o)) : Ev E m_G_enterModeOfAuthority 0 0 59 [some (.ref 0), l1] [] (hpk c o) Q := by
  unfold F_G_enterModeOfAuthority_59 at hF
  refine Ev_aload_n d_G_enterModeOfAuthority_59 rfl ?_
  refine Ev_iconst (v := 0) d_G_enterModeOfAuthority_60 (by decide) ?_
  refine q_G_153 rfl d_G_enterModeOfAuthority_61 ?_
  exact T_G_enterModeOfAuthority_64 hF hQ
def F_G_enterModeOfAuthority_47 (c : x_S) : Option (Int32 × x_S) := F_G_enterModeOfAuthority_64 c
theorem T_G_enterModeOfAuthority_47 {E : x_E} {o : x_S} {Q : Int32 → x_H → Prop} {l0 : Option Value} {l1 : Option Value} {c : x_S} {r : Int32} {s : x_S} (hF : F_G_enterModeOfAuthority_47 c = some (r, s)) (hQ : Q r (hpk s o)) : Ev E m_G_enterModeOfAuthority 0 0 47 [l0, l1] [] (hpk c o) Q := by
  unfold F_G_enterModeOfAuthority_47 at hF
  refine Ev_goto (tgt := 64) d_G_enterModeOfAuthority_47 rfl ?_
  exact T_G_enterModeOfAuthority_64 hF hQ
def F_G_enterModeOfAuthority_31 (x1 : Int32) (c : x_S) : Option (Int32 × x_S) := if (c 2 7) = (2 : Int32) then (F_G_enterModeOfAuthority_47 (x_up c 0 12 (0 : Int32))) else (if x1 = 0 then (F_G_enterModeOfAuthority_64 c) else (F_G_enterModeOfAuthority_59 (x_up c 0 12 (1 : Int32))))
theorem T_G_enterModeOfAuthority_31 {E : x_E} {o : x_S} {Q : Int32 → x_H → Prop} {x1 : Int32} {c : x_S} {r : Int32} {s : x_S} (hF : F_G_enterModeOfAuthority_31 x1 c = some (r, s)) (hQ : Q r (hpk s o)) : Ev E m_G_enterModeOfAuthority 0 0 31 [some (.ref 0), some (.int x1)] [] (hpk c o) Q := by
  unfold F_G_enterModeOfAuthority_31 at hF
  refine Ev_aload_n d_G_enterModeOfAuthority_31 rfl ?_
  refine g_G_19 rfl d_G_enterModeOfAuthority_32 ?_
  refine g_G_233 rfl d_G_enterModeOfAuthority_35 ?_
  refine Ev_iconst (v := 2) d_G_enterModeOfAuthority_38 (by decide) ?_
  refine Ev_icmp_ne (tgt := 50) d_G_enterModeOfAuthority_39 rfl (fun h1 => ?_) (fun h1 => ?_)
  · rw [if_neg h1] at hF
    refine Ev_iload_n d_G_enterModeOfAuthority_50 rfl ?_
    refine Ev_if_eq (tgt := 64) d_G_enterModeOfAuthority_51 rfl (fun h2 => ?_) (fun h2 => ?_)
    · rw [if_pos h2] at hF
      exact T_G_enterModeOfAuthority_64 hF hQ
    · rw [if_neg h2] at hF
      refine Ev_aload_n d_G_enterModeOfAuthority_54 rfl ?_
      refine Ev_iconst (v := 1) d_G_enterModeOfAuthority_55 (by decide) ?_
      refine q_G_149 rfl d_G_enterModeOfAuthority_56 (Or.inr rfl) ?_
      exact T_G_enterModeOfAuthority_59 hF hQ
  · rw [if_pos h1] at hF
    refine Ev_aload_n d_G_enterModeOfAuthority_42 rfl ?_
    refine Ev_iconst (v := 0) d_G_enterModeOfAuthority_43 (by decide) ?_
    refine q_G_149 rfl d_G_enterModeOfAuthority_44 (Or.inl rfl) ?_
    exact T_G_enterModeOfAuthority_47 hF hQ
def F_G_enterModeOfAuthority_19 (s0 : Int32) (c : x_S) : Option (Int32 × x_S) := x_bind (F_G_become (c 2 7) c) (fun _ c1 => F_G_enterModeOfAuthority_31 s0 c1)
theorem T_G_enterModeOfAuthority_19 {E : x_E} {o : x_S} {Q : Int32 → x_H → Prop} {l1 : Option Value} {s0 : Int32} {c : x_S} {r : Int32} {s : x_S} (hF : F_G_enterModeOfAuthority_19 s0 c = some (r, s)) (hQ : Q r (hpk s o)) : Ev E m_G_enterModeOfAuthority 0 0 19 [some (.ref 0), l1] [.int s0] (hpk c o) Q := by
  unfold F_G_enterModeOfAuthority_19 at hF
  refine Ev_istore_n (L' := [some (.ref 0), some (.int s0)]) d_G_enterModeOfAuthority_19 (by decide) rfl ?_
  refine Ev_aload_n d_G_enterModeOfAuthority_20 rfl ?_
  refine Ev_aload_n d_G_enterModeOfAuthority_21 rfl ?_
  refine g_G_19 rfl d_G_enterModeOfAuthority_22 ?_
  refine g_G_233 rfl d_G_enterModeOfAuthority_25 ?_
  obtain ⟨r1, c1, hC, hF⟩ := x_bind_some hF
  refine k_G_140 rfl d_G_enterModeOfAuthority_28 ⟨by decide, by decide⟩ (Nat.le_of_ble_eq_true rfl) ?_
  exact C_G_become hC (T_G_enterModeOfAuthority_31 hF hQ)
def F_G_enterModeOfAuthority (c : x_S) : Option (Int32 × x_S) := if (c 0 8) = (c 2 7) then (F_G_enterModeOfAuthority_19 (0 : Int32) c) else (F_G_enterModeOfAuthority_19 (1 : Int32) c)
theorem C_G_enterModeOfAuthority {E : x_E} {o : x_S} {Q : Int32 → x_H → Prop} {c : x_S} {r : Int32} {s : x_S} (hF : F_G_enterModeOfAuthority c = some (r, s)) (hQ : Q r (hpk s o)) : Call E m_G_enterModeOfAuthority 0 0 [.ref 0] (hpk c o) Q := by
  refine Call_of (L := [some (.ref 0), none]) (by decide) (by intro v hv; simp only [List.mem_cons, List.not_mem_nil, or_false] at hv; rw [hv]; rfl) (Nat.le_of_ble_eq_true rfl) rfl ?_
  unfold F_G_enterModeOfAuthority at hF
  refine Ev_aload_n d_G_enterModeOfAuthority_0 rfl ?_
  refine g_G_51 rfl d_G_enterModeOfAuthority_1 ?_
  refine Ev_aload_n d_G_enterModeOfAuthority_4 rfl ?_
  refine g_G_19 rfl d_G_enterModeOfAuthority_5 ?_
  refine g_G_233 rfl d_G_enterModeOfAuthority_8 ?_
  refine Ev_icmp_eq (tgt := 18) d_G_enterModeOfAuthority_11 rfl (fun h1 => ?_) (fun h1 => ?_)
  · rw [if_pos h1] at hF
    refine Ev_iconst (v := 0) d_G_enterModeOfAuthority_18 (by decide) ?_
    exact T_G_enterModeOfAuthority_19 hF hQ
  · rw [if_neg h1] at hF
    refine Ev_iconst (v := 1) d_G_enterModeOfAuthority_14 (by decide) ?_
    refine Ev_goto (tgt := 19) d_G_enterModeOfAuthority_15 rfl ?_
    exact T_G_enterModeOfAuthority_19 hF hQ
def F_G_obeyReceived_119 (c : x_S) : Option (Int32 × x_S) := some (0, c)
theorem T_G_obeyReceived_119 {E : x_E} {o : x_S} {Q : Int32 → x_H → Prop} {l0 : Option Value} {l1 : Option Value} {c : x_S} {r : Int32} {s : x_S} (hF : F_G_obeyReceived_119 c = some (r, s)) (hQ : Q r (hpk s o)) : Ev E m_G_obeyReceived 0 0 119 [l0, l1] [] (hpk c o) Q := by
  unfold F_G_obeyReceived_119 at hF
  cases hF
  exact Ev_return d_G_obeyReceived_119 rfl hQ
def F_G_obeyReceived_112 (s0 : Int32) (c : x_S) : Option (Int32 × x_S) := if s0 = 0 then (x_bind (F_G_enterModeOfAuthority c) (fun _ c2 => F_G_obeyReceived_119 c2)) else (F_G_obeyReceived_119 c)
theorem T_G_obeyReceived_112 {E : x_E} {o : x_S} {Q : Int32 → x_H → Prop} {l1 : Option Value} {s0 : Int32} {c : x_S} {r : Int32} {s : x_S} (hF : F_G_obeyReceived_112 s0 c = some (r, s)) (hQ : Q r (hpk s o)) : Ev E m_G_obeyReceived 0 0 112 [some (.ref 0), l1] [.int s0] (hpk c o) Q := by
  unfold F_G_obeyReceived_112 at hF
  refine Ev_if_ne (tgt := 119) d_G_obeyReceived_112 rfl (fun h1 => ?_) (fun h1 => ?_)
  · rw [if_neg h1] at hF
    exact T_G_obeyReceived_119 hF hQ
  · rw [if_pos h1] at hF
    refine Ev_aload_n d_G_obeyReceived_115 rfl ?_
    obtain ⟨r2, c2, hC, hF⟩ := x_bind_some hF
    refine k_G_245 rfl d_G_obeyReceived_116 ⟨by decide, by decide⟩ (Nat.le_of_ble_eq_true rfl) ?_
    exact C_G_enterModeOfAuthority hC (T_G_obeyReceived_119 hF hQ)
def F_G_obeyReceived_86 (s0 : Int32) (c : x_S) : Option (Int32 × x_S) := if (c 24 4) = (3 : Int32) then (if s0 = 0 then (F_G_obeyReceived_119 c) else (x_bind (F_Spn_isEmpty 3 c) (fun r3 c3 => F_G_obeyReceived_112 r3 c3))) else (F_G_obeyReceived_119 c)
theorem T_G_obeyReceived_86 {E : x_E} {o : x_S} {Q : Int32 → x_H → Prop} {l1 : Option Value} {s0 : Int32} {c : x_S} {r : Int32} {s : x_S} (hF : F_G_obeyReceived_86 s0 c = some (r, s)) (hQ : Q r (hpk s o)) : Ev E m_G_obeyReceived 0 0 86 [some (.ref 0), l1] [.int s0] (hpk c o) Q := by
  unfold F_G_obeyReceived_86 at hF
  refine Ev_istore_n (L' := [some (.ref 0), some (.int s0)]) d_G_obeyReceived_86 (by decide) rfl ?_
  refine Ev_aload_n d_G_obeyReceived_87 rfl ?_
  refine g_G_33 rfl d_G_obeyReceived_88 ?_
  refine g_G_92 rfl d_G_obeyReceived_91 ?_
  refine Ev_iconst (v := 3) d_G_obeyReceived_94 (by decide) ?_
  refine Ev_icmp_ne (tgt := 119) d_G_obeyReceived_95 rfl (fun h1 => ?_) (fun h1 => ?_)
  · rw [if_neg h1] at hF
    exact T_G_obeyReceived_119 hF hQ
  · rw [if_pos h1] at hF
    refine Ev_iload_n d_G_obeyReceived_98 rfl ?_
    refine Ev_if_eq (tgt := 119) d_G_obeyReceived_99 rfl (fun h2 => ?_) (fun h2 => ?_)
    · rw [if_pos h2] at hF
      exact T_G_obeyReceived_119 hF hQ
    · rw [if_neg h2] at hF
      refine Ev_aload_n d_G_obeyReceived_102 rfl ?_
      refine g_G_19 rfl d_G_obeyReceived_103 ?_
      refine g_G_236 rfl d_G_obeyReceived_106 ?_
      obtain ⟨r3, c3, hC, hF⟩ := x_bind_some hF
      refine k_G_240 (by simp [x_span]) rfl d_G_obeyReceived_109 ⟨by decide, by decide⟩ (Nat.le_of_ble_eq_true rfl) ?_
      exact C_Spn_isEmpty (by simp [x_span]) hC (T_G_obeyReceived_112 hF hQ)
def F_G_obeyReceived_81 (c : x_S) : Option (Int32 × x_S) := F_G_obeyReceived_86 (1 : Int32) c
theorem T_G_obeyReceived_81 {E : x_E} {o : x_S} {Q : Int32 → x_H → Prop} {l1 : Option Value} {c : x_S} {r : Int32} {s : x_S} (hF : F_G_obeyReceived_81 c = some (r, s)) (hQ : Q r (hpk s o)) : Ev E m_G_obeyReceived 0 0 81 [some (.ref 0), l1] [] (hpk c o) Q := by
  unfold F_G_obeyReceived_81 at hF
  refine Ev_iconst (v := 1) d_G_obeyReceived_81 (by decide) ?_
  refine Ev_goto (tgt := 86) d_G_obeyReceived_82 rfl ?_
  exact T_G_obeyReceived_86 hF hQ
def F_G_obeyReceived_78 (s0 : Int32) (c : x_S) : Option (Int32 × x_S) := if s0 = 0 then (F_G_obeyReceived_86 (0 : Int32) c) else (F_G_obeyReceived_81 c)
theorem T_G_obeyReceived_78 {E : x_E} {o : x_S} {Q : Int32 → x_H → Prop} {l1 : Option Value} {s0 : Int32} {c : x_S} {r : Int32} {s : x_S} (hF : F_G_obeyReceived_78 s0 c = some (r, s)) (hQ : Q r (hpk s o)) : Ev E m_G_obeyReceived 0 0 78 [some (.ref 0), l1] [.int s0] (hpk c o) Q := by
  unfold F_G_obeyReceived_78 at hF
  refine Ev_if_eq (tgt := 85) d_G_obeyReceived_78 rfl (fun h1 => ?_) (fun h1 => ?_)
  · rw [if_pos h1] at hF
    refine Ev_iconst (v := 0) d_G_obeyReceived_85 (by decide) ?_
    exact T_G_obeyReceived_86 hF hQ
  · rw [if_neg h1] at hF
    exact T_G_obeyReceived_81 hF hQ
def F_G_obeyReceived_66 (c : x_S) : Option (Int32 × x_S) := if (c 0 8) = (1 : Int32) then (F_G_obeyReceived_81 c) else (x_bind (F_G_isGuided c) (fun r2 c2 => F_G_obeyReceived_78 r2 c2))
theorem T_G_obeyReceived_66 {E : x_E} {o : x_S} {Q : Int32 → x_H → Prop} {l1 : Option Value} {c : x_S} {r : Int32} {s : x_S} (hF : F_G_obeyReceived_66 c = some (r, s)) (hQ : Q r (hpk s o)) : Ev E m_G_obeyReceived 0 0 66 [some (.ref 0), l1] [] (hpk c o) Q := by
  unfold F_G_obeyReceived_66 at hF
  refine Ev_aload_n d_G_obeyReceived_66 rfl ?_
  refine g_G_51 rfl d_G_obeyReceived_67 ?_
  refine Ev_iconst (v := 1) d_G_obeyReceived_70 (by decide) ?_
  refine Ev_icmp_eq (tgt := 81) d_G_obeyReceived_71 rfl (fun h1 => ?_) (fun h1 => ?_)
  · rw [if_pos h1] at hF
    exact T_G_obeyReceived_81 hF hQ
  · rw [if_neg h1] at hF
    refine Ev_aload_n d_G_obeyReceived_74 rfl ?_
    obtain ⟨r2, c2, hC, hF⟩ := x_bind_some hF
    refine k_G_221 rfl d_G_obeyReceived_75 ⟨by decide, by decide⟩ (Nat.le_of_ble_eq_true rfl) ?_
    exact C_G_isGuided hC (T_G_obeyReceived_78 hF hQ)
def F_G_obeyReceived_45 (c : x_S) : Option (Int32 × x_S) := F_G_obeyReceived_119 c
theorem T_G_obeyReceived_45 {E : x_E} {o : x_S} {Q : Int32 → x_H → Prop} {l0 : Option Value} {l1 : Option Value} {c : x_S} {r : Int32} {s : x_S} (hF : F_G_obeyReceived_45 c = some (r, s)) (hQ : Q r (hpk s o)) : Ev E m_G_obeyReceived 0 0 45 [l0, l1] [] (hpk c o) Q := by
  unfold F_G_obeyReceived_45 at hF
  refine Ev_goto (tgt := 119) d_G_obeyReceived_45 rfl ?_
  exact T_G_obeyReceived_119 hF hQ
def F_G_obeyReceived_16 (c : x_S) : Option (Int32 × x_S) := F_G_obeyReceived_119 c
theorem T_G_obeyReceived_16 {E : x_E} {o : x_S} {Q : Int32 → x_H → Prop} {l0 : Option Value} {l1 : Option Value} {c : x_S} {r : Int32} {s : x_S} (hF : F_G_obeyReceived_16 c = some (r, s)) (hQ : Q r (hpk s o)) : Ev E m_G_obeyReceived 0 0 16 [l0, l1] [] (hpk c o) Q := by
  unfold F_G_obeyReceived_16 at hF
  refine Ev_goto (tgt := 119) d_G_obeyReceived_16 rfl ?_
  exact T_G_obeyReceived_119 hF hQ
def F_G_obeyReceived (c : x_S) : Option (Int32 × x_S) := if (c 24 4) = (16 : Int32) then (x_bind (F_G_trip c) (fun _ c4 => F_G_obeyReceived_16 c4)) else (if (c 24 4) = (9 : Int32) then (F_G_obeyReceived_45 (x_up c 2 5 (c 24 6))) else (x_bind (F_Trk_put (c 1 0) c) (fun _ c3 => F_G_obeyReceived_66 c3)))
theorem C_G_obeyReceived {E : x_E} {o : x_S} {Q : Int32 → x_H → Prop} {c : x_S} {r : Int32} {s : x_S} (hF : F_G_obeyReceived c = some (r, s)) (hQ : Q r (hpk s o)) : Call E m_G_obeyReceived 0 0 [.ref 0] (hpk c o) Q := by
  refine Call_of (L := [some (.ref 0), none]) (by decide) (by intro v hv; simp only [List.mem_cons, List.not_mem_nil, or_false] at hv; rw [hv]; rfl) (Nat.le_of_ble_eq_true rfl) rfl ?_
  unfold F_G_obeyReceived at hF
  refine Ev_aload_n d_G_obeyReceived_0 rfl ?_
  refine g_G_33 rfl d_G_obeyReceived_1 ?_
  refine g_G_92 rfl d_G_obeyReceived_4 ?_
  refine Ev_bipush (v := (16)) d_G_obeyReceived_7 (by decide) ?_
  refine Ev_icmp_ne (tgt := 19) d_G_obeyReceived_9 rfl (fun h1 => ?_) (fun h1 => ?_)
  · rw [if_neg h1] at hF
    refine Ev_aload_n d_G_obeyReceived_19 rfl ?_
    refine g_G_33 rfl d_G_obeyReceived_20 ?_
    refine g_G_92 rfl d_G_obeyReceived_23 ?_
    refine Ev_bipush (v := (9)) d_G_obeyReceived_26 (by decide) ?_
    refine Ev_icmp_ne (tgt := 48) d_G_obeyReceived_28 rfl (fun h2 => ?_) (fun h2 => ?_)
    · rw [if_neg h2] at hF
      refine Ev_aload_n d_G_obeyReceived_48 rfl ?_
      refine g_G_19 rfl d_G_obeyReceived_49 ?_
      refine Ev_aload_n d_G_obeyReceived_52 rfl ?_
      refine g_G_33 rfl d_G_obeyReceived_53 ?_
      refine Ev_aload_n d_G_obeyReceived_56 rfl ?_
      refine g_G_10 rfl d_G_obeyReceived_57 ?_
      refine g_G_121 rfl d_G_obeyReceived_60 ?_
      obtain ⟨r3, c3, hC, hF⟩ := x_bind_some hF
      refine k_G_271 rfl d_G_obeyReceived_63 ⟨by decide, by decide⟩ (Nat.le_of_ble_eq_true rfl) ?_
      exact C_Trk_put hC (T_G_obeyReceived_66 hF hQ)
    · rw [if_pos h2] at hF
      refine Ev_aload_n d_G_obeyReceived_31 rfl ?_
      refine g_G_19 rfl d_G_obeyReceived_32 ?_
      refine Ev_aload_n d_G_obeyReceived_35 rfl ?_
      refine g_G_33 rfl d_G_obeyReceived_36 ?_
      refine g_G_252 rfl d_G_obeyReceived_39 ?_
      refine q_G_184 rfl d_G_obeyReceived_42 ?_
      exact T_G_obeyReceived_45 hF hQ
  · rw [if_pos h1] at hF
    refine Ev_aload_n d_G_obeyReceived_12 rfl ?_
    obtain ⟨r4, c4, hC, hF⟩ := x_bind_some hF
    refine k_G_224 rfl d_G_obeyReceived_13 ⟨by decide, by decide⟩ (Nat.le_of_ble_eq_true rfl) ?_
    exact C_G_trip hC (T_G_obeyReceived_16 hF hQ)
