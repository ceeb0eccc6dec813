/-! printed by wip/gen/gen4.py: TrainGuard$Message -/
def F_Msg_endedNumber_17 (s0 : Int32) (c : x_S) : Option (Int32 × x_S) := some (s0, c)
theorem T_Msg_endedNumber_17 {E : x_E} {o : x_S} {Q : Int32 → x_H → Prop} {l0 : Option Value} {s0 : Int32} {c : x_S} {r : Int32} {s : x_S} (hF : F_Msg_endedNumber_17 s0 c = some (r, s)) (hQ : Q r (hpk s o)) : Ev E m_Msg_endedNumber 0 0 17 [l0] [.int s0] (hpk c o) Q := by
  unfold F_Msg_endedNumber_17 at hF
  cases hF
  exact Ev_ireturn d_Msg_endedNumber_17 rfl hQ
def F_Msg_endedNumber (c : x_S) : Option (Int32 × x_S) := x_ix (5 : Int32) 6 (fun j1 => if (c 25 j1) = 0 then (F_Msg_endedNumber_17 (-1 : Int32) c) else (F_Msg_endedNumber_17 (c 24 13) c))
theorem C_Msg_endedNumber {E : x_E} {o : x_S} {Q : Int32 → x_H → Prop} {c : x_S} {r : Int32} {s : x_S} (hF : F_Msg_endedNumber c = some (r, s)) (hQ : Q r (hpk s o)) : Call E m_Msg_endedNumber 0 0 [.ref 24] (hpk c o) Q := by
  refine Call_of (L := [some (.ref 24)]) (by decide) (by intro v hv; simp only [List.mem_cons, List.not_mem_nil, or_false] at hv; rw [hv]; rfl) (Nat.le_of_ble_eq_true rfl) rfl ?_
  unfold F_Msg_endedNumber at hF
  refine Ev_aload_n d_Msg_endedNumber_0 rfl ?_
  refine g_Msg_15 rfl d_Msg_endedNumber_1 ?_
  refine Ev_iconst (v := 5) d_Msg_endedNumber_4 (by decide) ?_
  obtain ⟨j1, hij1, hjj1, hF⟩ := x_ix_some hF
  refine Ec_zald d_Msg_endedNumber_5 (P := 25) (by decide) rfl hij1 hjj1 ?_
  refine Ev_if_eq (tgt := 16) d_Msg_endedNumber_6 rfl (fun h2 => ?_) (fun h2 => ?_)
  · rw [if_pos h2] at hF
    refine Ev_iconst (v := (-1)) d_Msg_endedNumber_16 (by decide) ?_
    exact T_Msg_endedNumber_17 hF hQ
  · rw [if_neg h2] at hF
    refine Ev_aload_n d_Msg_endedNumber_9 rfl ?_
    refine g_Msg_36 rfl d_Msg_endedNumber_10 ?_
    refine Ev_goto (tgt := 17) d_Msg_endedNumber_13 rfl ?_
    exact T_Msg_endedNumber_17 hF hQ
def F_Msg_takePlace_8 (s0 s1 : Int32) (c : x_S) : Option (Int32 × x_S) := some ((s0 * s1), c)
theorem T_Msg_takePlace_8 {E : x_E} {o : x_S} {Q : Int32 → x_H → Prop} {l0 : Option Value} {s0 s1 : Int32} {c : x_S} {r : Int32} {s : x_S} (hF : F_Msg_takePlace_8 s0 s1 c = some (r, s)) (hQ : Q r (hpk s o)) : Ev E m_Msg_takePlace 0 0 8 [l0] [.int s1, .int s0] (hpk c o) Q := by
  unfold F_Msg_takePlace_8 at hF
  refine Ev_imul d_Msg_takePlace_8 ?_
  cases hF
  exact Ev_ireturn d_Msg_takePlace_9 rfl hQ
def F_Msg_takePlace (c : x_S) : Option (Int32 × x_S) := x_bind (F_Bit_take (15 : Int32) c) (fun r1 c1 => F_Msg_takePlace_8 (10 : Int32) r1 c1)
theorem C_Msg_takePlace {E : x_E} {o : x_S} {Q : Int32 → x_H → Prop} {c : x_S} {r : Int32} {s : x_S} (hF : F_Msg_takePlace c = some (r, s)) (hQ : Q r (hpk s o)) : Call E m_Msg_takePlace 0 0 [.ref 22] (hpk c o) Q := by
  refine Call_of (L := [some (.ref 22)]) (by decide) (by intro v hv; simp only [List.mem_cons, List.not_mem_nil, or_false] at hv; rw [hv]; rfl) (Nat.le_of_ble_eq_true rfl) rfl ?_
  unfold F_Msg_takePlace at hF
  refine Ev_bipush (v := (10)) d_Msg_takePlace_0 (by decide) ?_
  refine Ev_aload_n d_Msg_takePlace_2 rfl ?_
  refine Ev_bipush (v := (15)) d_Msg_takePlace_3 (by decide) ?_
  obtain ⟨r1, c1, hC, hF⟩ := x_bind_some hF
  refine k_Msg_45 rfl d_Msg_takePlace_5 ⟨by decide, by decide⟩ (Nat.le_of_ble_eq_true rfl) ?_
  exact C_Bit_take hC (T_Msg_takePlace_8 hF hQ)
def F_Msg_slotOf_2 : Nat → Int32 → Int32 → x_S → Option (Int32 × x_S)
  | 0, _, _, _ => none
  | n + 1, x0, x1, c => if (6 : Int32) ≤ x1 then (some ((-1 : Int32), c)) else (x_ix x1 6 (fun j2 => if (x_ids j2) = x0 then (some (x1, c)) else (F_Msg_slotOf_2 n x0 (x1 + (1 : Int32)) c)))
theorem T_Msg_slotOf_2 {E : x_E} {o : x_S} {Q : Int32 → x_H → Prop} : ∀ (n : Nat) {x0 x1 : Int32} {c : x_S} {r : Int32} {s : x_S}, F_Msg_slotOf_2 n x0 x1 c = some (r, s) → Q r (hpk s o) → Ev E m_Msg_slotOf 0 0 2 [some (.int x0), some (.int x1)] [] (hpk c o) Q := by
  intro n
  induction n with
  | zero => intro x0 x1 c r s hF; rw [F_Msg_slotOf_2] at hF; cases hF
  | succ n ih =>
    intro x0 x1 c r s hF hQ
    rw [F_Msg_slotOf_2] at hF
    refine Ev_iload_n d_Msg_slotOf_2 rfl ?_
    refine Ev_ids xw_fMsg_9 d_Msg_slotOf_3 ?_
    refine Ev_idslen d_Msg_slotOf_6 ?_
    refine Ev_icmp_ge (tgt := 27) d_Msg_slotOf_7 rfl (fun h1 => ?_) (fun h1 => ?_)
    · rw [if_pos h1] at hF
      refine Ev_iconst (v := (-1)) d_Msg_slotOf_27 (by decide) ?_
      cases hF
      exact Ev_ireturn d_Msg_slotOf_28 rfl hQ
    · rw [if_neg h1] at hF
      refine Ev_ids xw_fMsg_9 d_Msg_slotOf_10 ?_
      refine Ev_iload_n d_Msg_slotOf_13 rfl ?_
      obtain ⟨j2, hij2, hjj2, hF⟩ := x_ix_some hF
      refine x_idsld d_Msg_slotOf_14 hij2 hjj2 ?_
      refine Ev_iload_n d_Msg_slotOf_15 rfl ?_
      refine Ev_icmp_ne (tgt := 21) d_Msg_slotOf_16 rfl (fun h3 => ?_) (fun h3 => ?_)
      · rw [if_neg h3] at hF
        refine Ev_iinc (v := (x1 + (1 : Int32))) (L' := [some (.int x0), some (.int (x1 + (1 : Int32)))]) d_Msg_slotOf_21 rfl rfl (by decide) rfl ?_
        refine Ev_goto (tgt := 2) d_Msg_slotOf_24 rfl ?_
        exact ih hF hQ
      · rw [if_pos h3] at hF
        refine Ev_iload_n d_Msg_slotOf_19 rfl ?_
        cases hF
        exact Ev_ireturn d_Msg_slotOf_20 rfl hQ
def F_Msg_slotOf (x0 : Int32) (c : x_S) : Option (Int32 × x_S) := F_Msg_slotOf_2 x_fuel x0 (0 : Int32) c
theorem C_Msg_slotOf {E : x_E} {o : x_S} {Q : Int32 → x_H → Prop} {x0 : Int32} {c : x_S} {r : Int32} {s : x_S} (hF : F_Msg_slotOf x0 c = some (r, s)) (hQ : Q r (hpk s o)) : Call E m_Msg_slotOf 0 0 [.int x0] (hpk c o) Q := by
  refine Call_of (L := [some (.int x0), none]) (by decide) (by intro v hv; simp only [List.mem_cons, List.not_mem_nil, or_false] at hv; rw [hv]; rfl) (Nat.le_of_ble_eq_true rfl) rfl ?_
  unfold F_Msg_slotOf at hF
  refine Ev_iconst (v := 0) d_Msg_slotOf_0 (by decide) ?_
  refine Ev_istore_n (L' := [some (.int x0), some (.int (0 : Int32))]) d_Msg_slotOf_1 (by decide) rfl ?_
  exact T_Msg_slotOf_2 x_fuel hF hQ
def F_Msg_takePlaceBehind_26 (x2 : Int32) (c : x_S) : Option (Int32 × x_S) := some (x2, c)
theorem T_Msg_takePlaceBehind_26 {E : x_E} {o : x_S} {Q : Int32 → x_H → Prop} {l0 : Option Value} {l1 : Option Value} {x2 : Int32} {c : x_S} {r : Int32} {s : x_S} (hF : F_Msg_takePlaceBehind_26 x2 c = some (r, s)) (hQ : Q r (hpk s o)) : Ev E m_Msg_takePlaceBehind 0 0 26 [l0, l1, some (.int x2)] [] (hpk c o) Q := by
  unfold F_Msg_takePlaceBehind_26 at hF
  refine Ev_iload_n d_Msg_takePlaceBehind_26 rfl ?_
  cases hF
  exact Ev_ireturn d_Msg_takePlaceBehind_27 rfl hQ
def F_Msg_takePlaceBehind_21 (x2 s1 : Int32) (c : x_S) : Option (Int32 × x_S) := x_bind (F_Bit_need s1 (6 : Int32) c) (fun _ c1 => F_Msg_takePlaceBehind_26 x2 c1)
theorem T_Msg_takePlaceBehind_21 {E : x_E} {o : x_S} {Q : Int32 → x_H → Prop} {l0 : Option Value} {l1 : Option Value} {x2 s1 : Int32} {c : x_S} {r : Int32} {s : x_S} (hF : F_Msg_takePlaceBehind_21 x2 s1 c = some (r, s)) (hQ : Q r (hpk s o)) : Ev E m_Msg_takePlaceBehind 0 0 21 [l0, l1, some (.int x2)] [.int s1, .ref 22] (hpk c o) Q := by
  unfold F_Msg_takePlaceBehind_21 at hF
  refine Ev_bipush (v := (6)) d_Msg_takePlaceBehind_21 (by decide) ?_
  obtain ⟨r1, c1, hC, hF⟩ := x_bind_some hF
  refine k_Msg_52 rfl d_Msg_takePlaceBehind_23 ⟨by decide, by decide⟩ (Nat.le_of_ble_eq_true rfl) ?_
  exact C_Bit_need hC (T_Msg_takePlaceBehind_26 hF hQ)
def F_Msg_takePlaceBehind_8 (x1 s0 s1 : Int32) (c : x_S) : Option (Int32 × x_S) := if (s0 * s1) ≤ x1 then (F_Msg_takePlaceBehind_21 (s0 * s1) (0 : Int32) c) else (F_Msg_takePlaceBehind_21 (s0 * s1) (1 : Int32) c)
theorem T_Msg_takePlaceBehind_8 {E : x_E} {o : x_S} {Q : Int32 → x_H → Prop} {l2 : Option Value} {x1 s0 s1 : Int32} {c : x_S} {r : Int32} {s : x_S} (hF : F_Msg_takePlaceBehind_8 x1 s0 s1 c = some (r, s)) (hQ : Q r (hpk s o)) : Ev E m_Msg_takePlaceBehind 0 0 8 [some (.ref 22), some (.int x1), l2] [.int s1, .int s0] (hpk c o) Q := by
  unfold F_Msg_takePlaceBehind_8 at hF
  refine Ev_imul d_Msg_takePlaceBehind_8 ?_
  refine Ev_istore_n (L' := [some (.ref 22), some (.int x1), some (.int (s0 * s1))]) d_Msg_takePlaceBehind_9 (by decide) rfl ?_
  refine Ev_aload_n d_Msg_takePlaceBehind_10 rfl ?_
  refine Ev_iload_n d_Msg_takePlaceBehind_11 rfl ?_
  refine Ev_iload_n d_Msg_takePlaceBehind_12 rfl ?_
  refine Ev_icmp_le (tgt := 20) d_Msg_takePlaceBehind_13 rfl (fun h1 => ?_) (fun h1 => ?_)
  · rw [if_pos h1] at hF
    refine Ev_iconst (v := 0) d_Msg_takePlaceBehind_20 (by decide) ?_
    exact T_Msg_takePlaceBehind_21 hF hQ
  · rw [if_neg h1] at hF
    refine Ev_iconst (v := 1) d_Msg_takePlaceBehind_16 (by decide) ?_
    refine Ev_goto (tgt := 21) d_Msg_takePlaceBehind_17 rfl ?_
    exact T_Msg_takePlaceBehind_21 hF hQ
def F_Msg_takePlaceBehind (x1 : Int32) (c : x_S) : Option (Int32 × x_S) := x_bind (F_Bit_take (15 : Int32) c) (fun r1 c1 => F_Msg_takePlaceBehind_8 x1 (10 : Int32) r1 c1)
theorem C_Msg_takePlaceBehind {E : x_E} {o : x_S} {Q : Int32 → x_H → Prop} {x1 : Int32} {c : x_S} {r : Int32} {s : x_S} (hF : F_Msg_takePlaceBehind x1 c = some (r, s)) (hQ : Q r (hpk s o)) : Call E m_Msg_takePlaceBehind 0 0 [.ref 22, .int x1] (hpk c o) Q := by
  refine Call_of (L := [some (.ref 22), some (.int x1), none]) (by decide) (by intro v hv; simp only [List.mem_cons, List.not_mem_nil, or_false] at hv; rcases hv with rfl | rfl <;> rfl) (Nat.le_of_ble_eq_true rfl) rfl ?_
  unfold F_Msg_takePlaceBehind at hF
  refine Ev_bipush (v := (10)) d_Msg_takePlaceBehind_0 (by decide) ?_
  refine Ev_aload_n d_Msg_takePlaceBehind_2 rfl ?_
  refine Ev_bipush (v := (15)) d_Msg_takePlaceBehind_3 (by decide) ?_
  obtain ⟨r1, c1, hC, hF⟩ := x_bind_some hF
  refine k_Msg_45 rfl d_Msg_takePlaceBehind_5 ⟨by decide, by decide⟩ (Nat.le_of_ble_eq_true rfl) ?_
  exact C_Bit_take hC (T_Msg_takePlaceBehind_8 hF hQ)
def F_Msg_readMarks_67 (c : x_S) : Option (Int32 × x_S) := some (0, c)
theorem T_Msg_readMarks_67 {E : x_E} {o : x_S} {Q : Int32 → x_H → Prop} {l0 : Option Value} {l1 : Option Value} {l2 : Option Value} {l3 : Option Value} {l4 : Option Value} {l5 : Option Value} {c : x_S} {r : Int32} {s : x_S} (hF : F_Msg_readMarks_67 c = some (r, s)) (hQ : Q r (hpk s o)) : Ev E m_Msg_readMarks 0 0 67 [l0, l1, l2, l3, l4, l5] [] (hpk c o) Q := by
  unfold F_Msg_readMarks_67 at hF
  cases hF
  exact Ev_return d_Msg_readMarks_67 rfl hQ
def F_Msg_readMarks_61 (K : Int32 → Int32 → Int32 → x_S → Option (Int32 × x_S)) (x2 x3 x4 : Int32) (c : x_S) : Option (Int32 × x_S) := K x2 x3 (x4 + (1 : Int32)) c
theorem T_Msg_readMarks_61 {E : x_E} {o : x_S} {Q : Int32 → x_H → Prop} {K : Int32 → Int32 → Int32 → x_S → Option (Int32 × x_S)} (hK : ∀ {l5 : Option Value} {x2 x3 x4 : Int32} {c : x_S} {r : Int32} {s : x_S}, K x2 x3 x4 c = some (r, s) → Q r (hpk s o) → Ev E m_Msg_readMarks 0 0 18 [some (.ref 24), some (.ref 22), some (.int x2), some (.int x3), some (.int x4), l5] [] (hpk c o) Q) {l5 : Option Value} {x2 x3 x4 : Int32} {c : x_S} {r : Int32} {s : x_S} (hF : F_Msg_readMarks_61 K x2 x3 x4 c = some (r, s)) (hQ : Q r (hpk s o)) : Ev E m_Msg_readMarks 0 0 61 [some (.ref 24), some (.ref 22), some (.int x2), some (.int x3), some (.int x4), l5] [] (hpk c o) Q := by
  unfold F_Msg_readMarks_61 at hF
  refine Ev_iinc (v := (x4 + (1 : Int32))) (L' := [some (.ref 24), some (.ref 22), some (.int x2), some (.int x3), some (.int (x4 + (1 : Int32))), l5]) d_Msg_readMarks_61 rfl rfl (by decide) rfl ?_
  refine Ev_goto (tgt := 18) d_Msg_readMarks_64 rfl ?_
  exact hK hF hQ
def F_Msg_readMarks_58 (K : Int32 → Int32 → Int32 → x_S → Option (Int32 × x_S)) (x2 x3 x4 s1 s2 s3 : Int32) (c : x_S) : Option (Int32 × x_S) := x_bind (F_Mrk_add 26 s1 s2 s3 c) (fun _ c1 => F_Msg_readMarks_61 K x2 x3 x4 c1)
theorem T_Msg_readMarks_58 {E : x_E} {o : x_S} {Q : Int32 → x_H → Prop} {K : Int32 → Int32 → Int32 → x_S → Option (Int32 × x_S)} (hK : ∀ {l5 : Option Value} {x2 x3 x4 : Int32} {c : x_S} {r : Int32} {s : x_S}, K x2 x3 x4 c = some (r, s) → Q r (hpk s o) → Ev E m_Msg_readMarks 0 0 18 [some (.ref 24), some (.ref 22), some (.int x2), some (.int x3), some (.int x4), l5] [] (hpk c o) Q) {l5 : Option Value} {x2 x3 x4 s1 s2 s3 : Int32} {c : x_S} {r : Int32} {s : x_S} (hF : F_Msg_readMarks_58 K x2 x3 x4 s1 s2 s3 c = some (r, s)) (hQ : Q r (hpk s o)) : Ev E m_Msg_readMarks 0 0 58 [some (.ref 24), some (.ref 22), some (.int x2), some (.int x3), some (.int x4), l5] [.int s3, .int s2, .int s1, .ref 26] (hpk c o) Q := by
  unfold F_Msg_readMarks_58 at hF
  obtain ⟨r1, c1, hC, hF⟩ := x_bind_some hF
  refine k_Msg_111 (by simp [x_mark]) rfl d_Msg_readMarks_58 ⟨by decide, by decide⟩ (Nat.le_of_ble_eq_true rfl) ?_
  exact C_Mrk_add (by simp [x_mark]) hC (T_Msg_readMarks_61 (fun h1 h2 => hK h1 h2) hF hQ)
def F_Msg_readMarks_43 (K : Int32 → Int32 → Int32 → x_S → Option (Int32 × x_S)) (x2 x3 x4 s0 : Int32) (c : x_S) : Option (Int32 × x_S) := x_bind (F_Bit_take (6 : Int32) c) (fun r1 c1 => F_Msg_readMarks_58 K x2 x3 x4 x3 s0 r1 c1)
theorem T_Msg_readMarks_43 {E : x_E} {o : x_S} {Q : Int32 → x_H → Prop} {K : Int32 → Int32 → Int32 → x_S → Option (Int32 × x_S)} (hK : ∀ {l5 : Option Value} {x2 x3 x4 : Int32} {c : x_S} {r : Int32} {s : x_S}, K x2 x3 x4 c = some (r, s) → Q r (hpk s o) → Ev E m_Msg_readMarks 0 0 18 [some (.ref 24), some (.ref 22), some (.int x2), some (.int x3), some (.int x4), l5] [] (hpk c o) Q) {l5 : Option Value} {x2 x3 x4 s0 : Int32} {c : x_S} {r : Int32} {s : x_S} (hF : F_Msg_readMarks_43 K x2 x3 x4 s0 c = some (r, s)) (hQ : Q r (hpk s o)) : Ev E m_Msg_readMarks 0 0 43 [some (.ref 24), some (.ref 22), some (.int x2), some (.int x3), some (.int x4), l5] [.int s0] (hpk c o) Q := by
  unfold F_Msg_readMarks_43 at hF
  refine Ev_istore (L' := [some (.ref 24), some (.ref 22), some (.int x2), some (.int x3), some (.int x4), some (.int s0)]) d_Msg_readMarks_43 (by decide) rfl ?_
  refine Ev_aload_n d_Msg_readMarks_45 rfl ?_
  refine g_Msg_22 rfl d_Msg_readMarks_46 ?_
  refine Ev_iload_n d_Msg_readMarks_49 rfl ?_
  refine Ev_iload d_Msg_readMarks_50 rfl ?_
  refine Ev_aload_n d_Msg_readMarks_52 rfl ?_
  refine Ev_bipush (v := (6)) d_Msg_readMarks_53 (by decide) ?_
  obtain ⟨r1, c1, hC, hF⟩ := x_bind_some hF
  refine k_Msg_45 rfl d_Msg_readMarks_55 ⟨by decide, by decide⟩ (Nat.le_of_ble_eq_true rfl) ?_
  exact C_Bit_take hC (T_Msg_readMarks_58 (fun h1 h2 => hK h1 h2) hF hQ)
def F_Msg_readMarks_36 (K : Int32 → Int32 → Int32 → x_S → Option (Int32 × x_S)) (x2 x4 s0 : Int32) (c : x_S) : Option (Int32 × x_S) := x_bind (F_Bit_take (8 : Int32) c) (fun r1 c1 => F_Msg_readMarks_43 K x2 s0 x4 r1 c1)
theorem T_Msg_readMarks_36 {E : x_E} {o : x_S} {Q : Int32 → x_H → Prop} {K : Int32 → Int32 → Int32 → x_S → Option (Int32 × x_S)} (hK : ∀ {l5 : Option Value} {x2 x3 x4 : Int32} {c : x_S} {r : Int32} {s : x_S}, K x2 x3 x4 c = some (r, s) → Q r (hpk s o) → Ev E m_Msg_readMarks 0 0 18 [some (.ref 24), some (.ref 22), some (.int x2), some (.int x3), some (.int x4), l5] [] (hpk c o) Q) {l3 : Option Value} {l5 : Option Value} {x2 x4 s0 : Int32} {c : x_S} {r : Int32} {s : x_S} (hF : F_Msg_readMarks_36 K x2 x4 s0 c = some (r, s)) (hQ : Q r (hpk s o)) : Ev E m_Msg_readMarks 0 0 36 [some (.ref 24), some (.ref 22), some (.int x2), l3, some (.int x4), l5] [.int s0] (hpk c o) Q := by
  unfold F_Msg_readMarks_36 at hF
  refine Ev_istore_n (L' := [some (.ref 24), some (.ref 22), some (.int x2), some (.int s0), some (.int x4), l5]) d_Msg_readMarks_36 (by decide) rfl ?_
  refine Ev_aload_n d_Msg_readMarks_37 rfl ?_
  refine Ev_bipush (v := (8)) d_Msg_readMarks_38 (by decide) ?_
  obtain ⟨r1, c1, hC, hF⟩ := x_bind_some hF
  refine k_Msg_45 rfl d_Msg_readMarks_40 ⟨by decide, by decide⟩ (Nat.le_of_ble_eq_true rfl) ?_
  exact C_Bit_take hC (T_Msg_readMarks_43 (fun h1 h2 => hK h1 h2) hF hQ)
def F_Msg_readMarks_28 (K : Int32 → Int32 → Int32 → x_S → Option (Int32 × x_S)) (x2 x3 x4 s0 : Int32) (c : x_S) : Option (Int32 × x_S) := if s0 = 0 then (F_Msg_readMarks_67 c) else (x_bind (F_Msg_takePlaceBehind x3 c) (fun r2 c2 => F_Msg_readMarks_36 K x2 x4 r2 c2))
theorem T_Msg_readMarks_28 {E : x_E} {o : x_S} {Q : Int32 → x_H → Prop} {K : Int32 → Int32 → Int32 → x_S → Option (Int32 × x_S)} (hK : ∀ {l5 : Option Value} {x2 x3 x4 : Int32} {c : x_S} {r : Int32} {s : x_S}, K x2 x3 x4 c = some (r, s) → Q r (hpk s o) → Ev E m_Msg_readMarks 0 0 18 [some (.ref 24), some (.ref 22), some (.int x2), some (.int x3), some (.int x4), l5] [] (hpk c o) Q) {l5 : Option Value} {x2 x3 x4 s0 : Int32} {c : x_S} {r : Int32} {s : x_S} (hF : F_Msg_readMarks_28 K x2 x3 x4 s0 c = some (r, s)) (hQ : Q r (hpk s o)) : Ev E m_Msg_readMarks 0 0 28 [some (.ref 24), some (.ref 22), some (.int x2), some (.int x3), some (.int x4), l5] [.int s0] (hpk c o) Q := by
  unfold F_Msg_readMarks_28 at hF
  refine Ev_if_eq (tgt := 67) d_Msg_readMarks_28 rfl (fun h1 => ?_) (fun h1 => ?_)
  · rw [if_pos h1] at hF
    exact T_Msg_readMarks_67 hF hQ
  · rw [if_neg h1] at hF
    refine Ev_aload_n d_Msg_readMarks_31 rfl ?_
    refine Ev_iload_n d_Msg_readMarks_32 rfl ?_
    obtain ⟨r2, c2, hC, hF⟩ := x_bind_some hF
    refine k_Msg_107 rfl d_Msg_readMarks_33 ⟨by decide, by decide⟩ (Nat.le_of_ble_eq_true rfl) ?_
    exact C_Msg_takePlaceBehind hC (T_Msg_readMarks_36 (fun h1 h2 => hK h1 h2) hF hQ)
def F_Msg_readMarks_18 : Nat → Int32 → Int32 → Int32 → x_S → Option (Int32 × x_S)
  | 0, _, _, _, _ => none
  | n + 1, x2, x3, x4, c => if x2 ≤ x4 then (F_Msg_readMarks_67 c) else (x_bind (F_Bit_isSound c) (fun r2 c2 => F_Msg_readMarks_28 (F_Msg_readMarks_18 n) x2 x3 x4 r2 c2))
theorem T_Msg_readMarks_18 {E : x_E} {o : x_S} {Q : Int32 → x_H → Prop} : ∀ (n : Nat) {l5 : Option Value} {x2 x3 x4 : Int32} {c : x_S} {r : Int32} {s : x_S}, F_Msg_readMarks_18 n x2 x3 x4 c = some (r, s) → Q r (hpk s o) → Ev E m_Msg_readMarks 0 0 18 [some (.ref 24), some (.ref 22), some (.int x2), some (.int x3), some (.int x4), l5] [] (hpk c o) Q := by
  intro n
  induction n with
  | zero => intro l5 x2 x3 x4 c r s hF; rw [F_Msg_readMarks_18] at hF; cases hF
  | succ n ih =>
    intro l5 x2 x3 x4 c r s hF hQ
    rw [F_Msg_readMarks_18] at hF
    refine Ev_iload d_Msg_readMarks_18 rfl ?_
    refine Ev_iload_n d_Msg_readMarks_20 rfl ?_
    refine Ev_icmp_ge (tgt := 67) d_Msg_readMarks_21 rfl (fun h1 => ?_) (fun h1 => ?_)
    · rw [if_pos h1] at hF
      exact T_Msg_readMarks_67 hF hQ
    · rw [if_neg h1] at hF
      refine Ev_aload_n d_Msg_readMarks_24 rfl ?_
      obtain ⟨r2, c2, hC, hF⟩ := x_bind_some hF
      refine k_Msg_69 rfl d_Msg_readMarks_25 ⟨by decide, by decide⟩ (Nat.le_of_ble_eq_true rfl) ?_
      exact C_Bit_isSound hC (T_Msg_readMarks_28 (fun h1 h2 => ih h1 h2) hF hQ)
def F_Msg_readMarks_12 (s0 : Int32) (c : x_S) : Option (Int32 × x_S) := F_Msg_readMarks_18 x_fuel s0 (-1 : Int32) (0 : Int32) c
theorem T_Msg_readMarks_12 {E : x_E} {o : x_S} {Q : Int32 → x_H → Prop} {l2 : Option Value} {l3 : Option Value} {l4 : Option Value} {l5 : Option Value} {s0 : Int32} {c : x_S} {r : Int32} {s : x_S} (hF : F_Msg_readMarks_12 s0 c = some (r, s)) (hQ : Q r (hpk s o)) : Ev E m_Msg_readMarks 0 0 12 [some (.ref 24), some (.ref 22), l2, l3, l4, l5] [.int s0] (hpk c o) Q := by
  unfold F_Msg_readMarks_12 at hF
  refine Ev_istore_n (L' := [some (.ref 24), some (.ref 22), some (.int s0), l3, l4, l5]) d_Msg_readMarks_12 (by decide) rfl ?_
  refine Ev_iconst (v := (-1)) d_Msg_readMarks_13 (by decide) ?_
  refine Ev_istore_n (L' := [some (.ref 24), some (.ref 22), some (.int s0), some (.int (-1 : Int32)), l4, l5]) d_Msg_readMarks_14 (by decide) rfl ?_
  refine Ev_iconst (v := 0) d_Msg_readMarks_15 (by decide) ?_
  refine Ev_istore (L' := [some (.ref 24), some (.ref 22), some (.int s0), some (.int (-1 : Int32)), some (.int (0 : Int32)), l5]) d_Msg_readMarks_16 (by decide) rfl ?_
  exact T_Msg_readMarks_18 x_fuel hF hQ
def F_Msg_readMarks_7 (c : x_S) : Option (Int32 × x_S) := x_bind (F_Bit_take (3 : Int32) c) (fun r1 c1 => F_Msg_readMarks_12 r1 c1)
theorem T_Msg_readMarks_7 {E : x_E} {o : x_S} {Q : Int32 → x_H → Prop} {l2 : Option Value} {l3 : Option Value} {l4 : Option Value} {l5 : Option Value} {c : x_S} {r : Int32} {s : x_S} (hF : F_Msg_readMarks_7 c = some (r, s)) (hQ : Q r (hpk s o)) : Ev E m_Msg_readMarks 0 0 7 [some (.ref 24), some (.ref 22), l2, l3, l4, l5] [] (hpk c o) Q := by
  unfold F_Msg_readMarks_7 at hF
  refine Ev_aload_n d_Msg_readMarks_7 rfl ?_
  refine Ev_iconst (v := 3) d_Msg_readMarks_8 (by decide) ?_
  obtain ⟨r1, c1, hC, hF⟩ := x_bind_some hF
  refine k_Msg_45 rfl d_Msg_readMarks_9 ⟨by decide, by decide⟩ (Nat.le_of_ble_eq_true rfl) ?_
  exact C_Bit_take hC (T_Msg_readMarks_12 hF hQ)
def F_Msg_readMarks (c : x_S) : Option (Int32 × x_S) := x_bind (F_Mrk_clear 26 c) (fun _ c1 => F_Msg_readMarks_7 c1)
theorem C_Msg_readMarks {E : x_E} {o : x_S} {Q : Int32 → x_H → Prop} {c : x_S} {r : Int32} {s : x_S} (hF : F_Msg_readMarks c = some (r, s)) (hQ : Q r (hpk s o)) : Call E m_Msg_readMarks 0 0 [.ref 24, .ref 22] (hpk c o) Q := by
  refine Call_of (L := [some (.ref 24), some (.ref 22), none, none, none, none]) (by decide) (by intro v hv; simp only [List.mem_cons, List.not_mem_nil, or_false] at hv; rcases hv with rfl | rfl <;> rfl) (Nat.le_of_ble_eq_true rfl) rfl ?_
  unfold F_Msg_readMarks at hF
  refine Ev_aload_n d_Msg_readMarks_0 rfl ?_
  refine g_Msg_22 rfl d_Msg_readMarks_1 ?_
  obtain ⟨r1, c1, hC, hF⟩ := x_bind_some hF
  refine k_Msg_104 (by simp [x_mark]) rfl d_Msg_readMarks_4 ⟨by decide, by decide⟩ (Nat.le_of_ble_eq_true rfl) ?_
  exact C_Mrk_clear (by simp [x_mark]) hC (T_Msg_readMarks_7 hF hQ)
def F_Msg_readAuthority_53 (c : x_S) : Option (Int32 × x_S) := some (0, c)
theorem T_Msg_readAuthority_53 {E : x_E} {o : x_S} {Q : Int32 → x_H → Prop} {l0 : Option Value} {l1 : Option Value} {l2 : Option Value} {c : x_S} {r : Int32} {s : x_S} (hF : F_Msg_readAuthority_53 c = some (r, s)) (hQ : Q r (hpk s o)) : Ev E m_Msg_readAuthority 0 0 53 [l0, l1, l2] [] (hpk c o) Q := by
  unfold F_Msg_readAuthority_53 at hF
  cases hF
  exact Ev_return d_Msg_readAuthority_53 rfl hQ
def F_Msg_readAuthority_50 (s1 : Int32) (c : x_S) : Option (Int32 × x_S) := F_Msg_readAuthority_53 (x_up c 24 8 s1)
theorem T_Msg_readAuthority_50 {E : x_E} {o : x_S} {Q : Int32 → x_H → Prop} {l0 : Option Value} {l1 : Option Value} {l2 : Option Value} {s1 : Int32} {c : x_S} {r : Int32} {s : x_S} (hF : F_Msg_readAuthority_50 s1 c = some (r, s)) (hQ : Q r (hpk s o)) : Ev E m_Msg_readAuthority 0 0 50 [l0, l1, l2] [.int s1, .ref 24] (hpk c o) Q := by
  unfold F_Msg_readAuthority_50 at hF
  refine q_Msg_118 rfl d_Msg_readAuthority_50 ?_
  exact T_Msg_readAuthority_53 hF hQ
def F_Msg_readAuthority_40 (x2 : Int32) (c : x_S) : Option (Int32 × x_S) := if x2 = 0 then (F_Msg_readAuthority_50 (2 : Int32) c) else (F_Msg_readAuthority_50 (3 : Int32) c)
theorem T_Msg_readAuthority_40 {E : x_E} {o : x_S} {Q : Int32 → x_H → Prop} {l1 : Option Value} {x2 : Int32} {c : x_S} {r : Int32} {s : x_S} (hF : F_Msg_readAuthority_40 x2 c = some (r, s)) (hQ : Q r (hpk s o)) : Ev E m_Msg_readAuthority 0 0 40 [some (.ref 24), l1, some (.int x2)] [] (hpk c o) Q := by
  unfold F_Msg_readAuthority_40 at hF
  refine Ev_aload_n d_Msg_readAuthority_40 rfl ?_
  refine Ev_iload_n d_Msg_readAuthority_41 rfl ?_
  refine Ev_if_ne (tgt := 49) d_Msg_readAuthority_42 rfl (fun h1 => ?_) (fun h1 => ?_)
  · rw [if_neg h1] at hF
    refine Ev_iconst (v := 3) d_Msg_readAuthority_49 (by decide) ?_
    exact T_Msg_readAuthority_50 hF hQ
  · rw [if_pos h1] at hF
    refine Ev_iconst (v := 2) d_Msg_readAuthority_45 (by decide) ?_
    refine Ev_goto (tgt := 50) d_Msg_readAuthority_46 rfl ?_
    exact T_Msg_readAuthority_50 hF hQ
def F_Msg_readAuthority_35 (x2 s1 : Int32) (c : x_S) : Option (Int32 × x_S) := x_bind (F_Bit_need s1 (6 : Int32) c) (fun _ c1 => F_Msg_readAuthority_40 x2 c1)
theorem T_Msg_readAuthority_35 {E : x_E} {o : x_S} {Q : Int32 → x_H → Prop} {l1 : Option Value} {x2 s1 : Int32} {c : x_S} {r : Int32} {s : x_S} (hF : F_Msg_readAuthority_35 x2 s1 c = some (r, s)) (hQ : Q r (hpk s o)) : Ev E m_Msg_readAuthority 0 0 35 [some (.ref 24), l1, some (.int x2)] [.int s1, .ref 22] (hpk c o) Q := by
  unfold F_Msg_readAuthority_35 at hF
  refine Ev_bipush (v := (6)) d_Msg_readAuthority_35 (by decide) ?_
  obtain ⟨r1, c1, hC, hF⟩ := x_bind_some hF
  refine k_Msg_52 rfl d_Msg_readAuthority_37 ⟨by decide, by decide⟩ (Nat.le_of_ble_eq_true rfl) ?_
  exact C_Bit_need hC (T_Msg_readAuthority_40 hF hQ)
def F_Msg_readAuthority_23 (s0 : Int32) (c : x_S) : Option (Int32 × x_S) := if (1 : Int32) < s0 then (F_Msg_readAuthority_35 s0 (0 : Int32) c) else (F_Msg_readAuthority_35 s0 (1 : Int32) c)
theorem T_Msg_readAuthority_23 {E : x_E} {o : x_S} {Q : Int32 → x_H → Prop} {l2 : Option Value} {s0 : Int32} {c : x_S} {r : Int32} {s : x_S} (hF : F_Msg_readAuthority_23 s0 c = some (r, s)) (hQ : Q r (hpk s o)) : Ev E m_Msg_readAuthority 0 0 23 [some (.ref 24), some (.ref 22), l2] [.int s0] (hpk c o) Q := by
  unfold F_Msg_readAuthority_23 at hF
  refine Ev_istore_n (L' := [some (.ref 24), some (.ref 22), some (.int s0)]) d_Msg_readAuthority_23 (by decide) rfl ?_
  refine Ev_aload_n d_Msg_readAuthority_24 rfl ?_
  refine Ev_iload_n d_Msg_readAuthority_25 rfl ?_
  refine Ev_iconst (v := 1) d_Msg_readAuthority_26 (by decide) ?_
  refine Ev_icmp_gt (tgt := 34) d_Msg_readAuthority_27 rfl (fun h1 => ?_) (fun h1 => ?_)
  · rw [if_pos h1] at hF
    refine Ev_iconst (v := 0) d_Msg_readAuthority_34 (by decide) ?_
    exact T_Msg_readAuthority_35 hF hQ
  · rw [if_neg h1] at hF
    refine Ev_iconst (v := 1) d_Msg_readAuthority_30 (by decide) ?_
    refine Ev_goto (tgt := 35) d_Msg_readAuthority_31 rfl ?_
    exact T_Msg_readAuthority_35 hF hQ
def F_Msg_readAuthority_18 (c : x_S) : Option (Int32 × x_S) := x_bind (F_Bit_take (2 : Int32) c) (fun r1 c1 => F_Msg_readAuthority_23 r1 c1)
theorem T_Msg_readAuthority_18 {E : x_E} {o : x_S} {Q : Int32 → x_H → Prop} {l2 : Option Value} {c : x_S} {r : Int32} {s : x_S} (hF : F_Msg_readAuthority_18 c = some (r, s)) (hQ : Q r (hpk s o)) : Ev E m_Msg_readAuthority 0 0 18 [some (.ref 24), some (.ref 22), l2] [] (hpk c o) Q := by
  unfold F_Msg_readAuthority_18 at hF
  refine Ev_aload_n d_Msg_readAuthority_18 rfl ?_
  refine Ev_iconst (v := 2) d_Msg_readAuthority_19 (by decide) ?_
  obtain ⟨r1, c1, hC, hF⟩ := x_bind_some hF
  refine k_Msg_45 rfl d_Msg_readAuthority_20 ⟨by decide, by decide⟩ (Nat.le_of_ble_eq_true rfl) ?_
  exact C_Bit_take hC (T_Msg_readAuthority_23 hF hQ)
def F_Msg_readAuthority_15 (s1 : Int32) (c : x_S) : Option (Int32 × x_S) := F_Msg_readAuthority_18 (x_up c 24 7 s1)
theorem T_Msg_readAuthority_15 {E : x_E} {o : x_S} {Q : Int32 → x_H → Prop} {l2 : Option Value} {s1 : Int32} {c : x_S} {r : Int32} {s : x_S} (hF : F_Msg_readAuthority_15 s1 c = some (r, s)) (hQ : Q r (hpk s o)) : Ev E m_Msg_readAuthority 0 0 15 [some (.ref 24), some (.ref 22), l2] [.int s1, .ref 24] (hpk c o) Q := by
  unfold F_Msg_readAuthority_15 at hF
  refine q_Msg_115 rfl d_Msg_readAuthority_15 ?_
  exact T_Msg_readAuthority_18 hF hQ
def F_Msg_readAuthority_8 (c : x_S) : Option (Int32 × x_S) := x_bind (F_Bit_take (10 : Int32) c) (fun r1 c1 => F_Msg_readAuthority_15 r1 c1)
theorem T_Msg_readAuthority_8 {E : x_E} {o : x_S} {Q : Int32 → x_H → Prop} {l2 : Option Value} {c : x_S} {r : Int32} {s : x_S} (hF : F_Msg_readAuthority_8 c = some (r, s)) (hQ : Q r (hpk s o)) : Ev E m_Msg_readAuthority 0 0 8 [some (.ref 24), some (.ref 22), l2] [] (hpk c o) Q := by
  unfold F_Msg_readAuthority_8 at hF
  refine Ev_aload_n d_Msg_readAuthority_8 rfl ?_
  refine Ev_aload_n d_Msg_readAuthority_9 rfl ?_
  refine Ev_bipush (v := (10)) d_Msg_readAuthority_10 (by decide) ?_
  obtain ⟨r1, c1, hC, hF⟩ := x_bind_some hF
  refine k_Msg_45 rfl d_Msg_readAuthority_12 ⟨by decide, by decide⟩ (Nat.le_of_ble_eq_true rfl) ?_
  exact C_Bit_take hC (T_Msg_readAuthority_15 hF hQ)
def F_Msg_readAuthority_5 (s1 : Int32) (c : x_S) : Option (Int32 × x_S) := F_Msg_readAuthority_8 (x_up c 24 6 s1)
theorem T_Msg_readAuthority_5 {E : x_E} {o : x_S} {Q : Int32 → x_H → Prop} {l2 : Option Value} {s1 : Int32} {c : x_S} {r : Int32} {s : x_S} (hF : F_Msg_readAuthority_5 s1 c = some (r, s)) (hQ : Q r (hpk s o)) : Ev E m_Msg_readAuthority 0 0 5 [some (.ref 24), some (.ref 22), l2] [.int s1, .ref 24] (hpk c o) Q := by
  unfold F_Msg_readAuthority_5 at hF
  refine q_Msg_66 rfl d_Msg_readAuthority_5 ?_
  exact T_Msg_readAuthority_8 hF hQ
def F_Msg_readAuthority (c : x_S) : Option (Int32 × x_S) := x_bind (F_Msg_takePlace c) (fun r1 c1 => F_Msg_readAuthority_5 r1 c1)
theorem C_Msg_readAuthority {E : x_E} {o : x_S} {Q : Int32 → x_H → Prop} {c : x_S} {r : Int32} {s : x_S} (hF : F_Msg_readAuthority c = some (r, s)) (hQ : Q r (hpk s o)) : Call E m_Msg_readAuthority 0 0 [.ref 24, .ref 22] (hpk c o) Q := by
  refine Call_of (L := [some (.ref 24), some (.ref 22), none]) (by decide) (by intro v hv; simp only [List.mem_cons, List.not_mem_nil, or_false] at hv; rcases hv with rfl | rfl <;> rfl) (Nat.le_of_ble_eq_true rfl) rfl ?_
  unfold F_Msg_readAuthority at hF
  refine Ev_aload_n d_Msg_readAuthority_0 rfl ?_
  refine Ev_aload_n d_Msg_readAuthority_1 rfl ?_
  obtain ⟨r1, c1, hC, hF⟩ := x_bind_some hF
  refine k_Msg_62 rfl d_Msg_readAuthority_2 ⟨by decide, by decide⟩ (Nat.le_of_ble_eq_true rfl) ?_
  exact C_Msg_takePlace hC (T_Msg_readAuthority_5 hF hQ)
def F_Msg_takeLimit_7 (s0 s1 : Int32) (c : x_S) : Option (Int32 × x_S) := some ((if (600 : Int32) < (s0 * s1) then (600 : Int32) else (s0 * s1)), c)
theorem T_Msg_takeLimit_7 {E : x_E} {o : x_S} {Q : Int32 → x_H → Prop} {l0 : Option Value} {s0 s1 : Int32} {c : x_S} {r : Int32} {s : x_S} (hF : F_Msg_takeLimit_7 s0 s1 c = some (r, s)) (hQ : Q r (hpk s o)) : Ev E m_Msg_takeLimit 0 0 7 [l0] [.int s1, .int s0] (hpk c o) Q := by
  unfold F_Msg_takeLimit_7 at hF
  refine Ev_imul d_Msg_takeLimit_7 ?_
  refine Ev_sipush (v := (600)) d_Msg_takeLimit_8 (by decide) ?_
  refine Ev_mmin xw_mMsg_141 d_Msg_takeLimit_11 (by decide) (by decide) (Nat.le_of_ble_eq_true rfl) ?_
  cases hF
  exact Ev_ireturn d_Msg_takeLimit_14 rfl hQ
def F_Msg_takeLimit (c : x_S) : Option (Int32 × x_S) := x_bind (F_Bit_take (7 : Int32) c) (fun r1 c1 => F_Msg_takeLimit_7 (5 : Int32) r1 c1)
theorem C_Msg_takeLimit {E : x_E} {o : x_S} {Q : Int32 → x_H → Prop} {c : x_S} {r : Int32} {s : x_S} (hF : F_Msg_takeLimit c = some (r, s)) (hQ : Q r (hpk s o)) : Call E m_Msg_takeLimit 0 0 [.ref 22] (hpk c o) Q := by
  refine Call_of (L := [some (.ref 22)]) (by decide) (by intro v hv; simp only [List.mem_cons, List.not_mem_nil, or_false] at hv; rw [hv]; rfl) (Nat.le_of_ble_eq_true rfl) rfl ?_
  unfold F_Msg_takeLimit at hF
  refine Ev_iconst (v := 5) d_Msg_takeLimit_0 (by decide) ?_
  refine Ev_aload_n d_Msg_takeLimit_1 rfl ?_
  refine Ev_bipush (v := (7)) d_Msg_takeLimit_2 (by decide) ?_
  obtain ⟨r1, c1, hC, hF⟩ := x_bind_some hF
  refine k_Msg_45 rfl d_Msg_takeLimit_4 ⟨by decide, by decide⟩ (Nat.le_of_ble_eq_true rfl) ?_
  exact C_Bit_take hC (T_Msg_takeLimit_7 hF hQ)
def F_Msg_readSteps_88 (p2 : Nat) (c : x_S) : Option (Int32 × x_S) := some (0, c)
theorem T_Msg_readSteps_88 {E : x_E} {o : x_S} {Q : Int32 → x_H → Prop} {p2 : Nat} (hp2 : x_span p2) {l0 : Option Value} {l1 : Option Value} {l2 : Option Value} {l3 : Option Value} {l4 : Option Value} {l5 : Option Value} {l6 : Option Value} {c : x_S} {r : Int32} {s : x_S} (hF : F_Msg_readSteps_88 p2 c = some (r, s)) (hQ : Q r (hpk s o)) : Ev E m_Msg_readSteps 0 0 88 [l0, l1, l2, l3, l4, l5, l6] [] (hpk c o) Q := by
  unfold F_Msg_readSteps_88 at hF
  cases hF
  exact Ev_return d_Msg_readSteps_88 rfl hQ
def F_Msg_readSteps_82 (p2 : Nat) (K : Int32 → Int32 → Int32 → Int32 → x_S → Option (Int32 × x_S)) (x3 x4 x5 x6 : Int32) (c : x_S) : Option (Int32 × x_S) := K x3 x4 x5 (x6 + (1 : Int32)) c
theorem T_Msg_readSteps_82 {E : x_E} {o : x_S} {Q : Int32 → x_H → Prop} {p2 : Nat} (hp2 : x_span p2) {K : Int32 → Int32 → Int32 → Int32 → x_S → Option (Int32 × x_S)} (hK : ∀ {l0 : Option Value} {x3 x4 x5 x6 : Int32} {c : x_S} {r : Int32} {s : x_S}, K x3 x4 x5 x6 c = some (r, s) → Q r (hpk s o) → Ev E m_Msg_readSteps 0 0 37 [l0, some (.ref 22), some (.ref p2), some (.int x3), some (.int x4), some (.int x5), some (.int x6)] [] (hpk c o) Q) {l0 : Option Value} {x3 x4 x5 x6 : Int32} {c : x_S} {r : Int32} {s : x_S} (hF : F_Msg_readSteps_82 p2 K x3 x4 x5 x6 c = some (r, s)) (hQ : Q r (hpk s o)) : Ev E m_Msg_readSteps 0 0 82 [l0, some (.ref 22), some (.ref p2), some (.int x3), some (.int x4), some (.int x5), some (.int x6)] [] (hpk c o) Q := by
  unfold F_Msg_readSteps_82 at hF
  refine Ev_iinc (v := (x6 + (1 : Int32))) (L' := [l0, some (.ref 22), some (.ref p2), some (.int x3), some (.int x4), some (.int x5), some (.int (x6 + (1 : Int32)))]) d_Msg_readSteps_82 rfl rfl (by decide) rfl ?_
  refine Ev_goto (tgt := 37) d_Msg_readSteps_85 rfl ?_
  exact hK hF hQ
def F_Msg_readSteps_79 (p2 : Nat) (K : Int32 → Int32 → Int32 → Int32 → x_S → Option (Int32 × x_S)) (x3 x4 x5 x6 s1 s2 : Int32) (c : x_S) : Option (Int32 × x_S) := x_bind (F_Spn_addStep p2 s1 s2 c) (fun _ c1 => F_Msg_readSteps_82 p2 K x3 x4 x5 x6 c1)
theorem T_Msg_readSteps_79 {E : x_E} {o : x_S} {Q : Int32 → x_H → Prop} {p2 : Nat} (hp2 : x_span p2) {K : Int32 → Int32 → Int32 → Int32 → x_S → Option (Int32 × x_S)} (hK : ∀ {l0 : Option Value} {x3 x4 x5 x6 : Int32} {c : x_S} {r : Int32} {s : x_S}, K x3 x4 x5 x6 c = some (r, s) → Q r (hpk s o) → Ev E m_Msg_readSteps 0 0 37 [l0, some (.ref 22), some (.ref p2), some (.int x3), some (.int x4), some (.int x5), some (.int x6)] [] (hpk c o) Q) {l0 : Option Value} {x3 x4 x5 x6 s1 s2 : Int32} {c : x_S} {r : Int32} {s : x_S} (hF : F_Msg_readSteps_79 p2 K x3 x4 x5 x6 s1 s2 c = some (r, s)) (hQ : Q r (hpk s o)) : Ev E m_Msg_readSteps 0 0 79 [l0, some (.ref 22), some (.ref p2), some (.int x3), some (.int x4), some (.int x5), some (.int x6)] [.int s2, .int s1, .ref p2] (hpk c o) Q := by
  unfold F_Msg_readSteps_79 at hF
  obtain ⟨r1, c1, hC, hF⟩ := x_bind_some hF
  refine k_Msg_125 hp2 rfl d_Msg_readSteps_79 ⟨by decide, by decide⟩ (Nat.le_of_ble_eq_true rfl) ?_
  exact C_Spn_addStep hp2 hC (T_Msg_readSteps_82 hp2 (fun h1 h2 => hK h1 h2) hF hQ)
def F_Msg_readSteps_70 (p2 : Nat) (K : Int32 → Int32 → Int32 → Int32 → x_S → Option (Int32 × x_S)) (x3 x4 x5 x6 s1 s2 : Int32) (c : x_S) : Option (Int32 × x_S) := F_Msg_readSteps_79 p2 K x3 x4 x5 x6 s1 s2 c
theorem T_Msg_readSteps_70 {E : x_E} {o : x_S} {Q : Int32 → x_H → Prop} {p2 : Nat} (hp2 : x_span p2) {K : Int32 → Int32 → Int32 → Int32 → x_S → Option (Int32 × x_S)} (hK : ∀ {l0 : Option Value} {x3 x4 x5 x6 : Int32} {c : x_S} {r : Int32} {s : x_S}, K x3 x4 x5 x6 c = some (r, s) → Q r (hpk s o) → Ev E m_Msg_readSteps 0 0 37 [l0, some (.ref 22), some (.ref p2), some (.int x3), some (.int x4), some (.int x5), some (.int x6)] [] (hpk c o) Q) {l0 : Option Value} {x3 x4 x5 x6 s1 s2 : Int32} {c : x_S} {r : Int32} {s : x_S} (hF : F_Msg_readSteps_70 p2 K x3 x4 x5 x6 s1 s2 c = some (r, s)) (hQ : Q r (hpk s o)) : Ev E m_Msg_readSteps 0 0 70 [l0, some (.ref 22), some (.ref p2), some (.int x3), some (.int x4), some (.int x5), some (.int x6)] [.int s2, .int s1, .ref p2] (hpk c o) Q := by
  unfold F_Msg_readSteps_70 at hF
  refine Ev_goto (tgt := 79) d_Msg_readSteps_70 rfl ?_
  exact T_Msg_readSteps_79 hp2 (fun h1 h2 => hK h1 h2) hF hQ
def F_Msg_readSteps_57 (p2 : Nat) (K : Int32 → Int32 → Int32 → Int32 → x_S → Option (Int32 × x_S)) (x3 x4 x6 s0 : Int32) (c : x_S) : Option (Int32 × x_S) := if x3 = 0 then (x_bind (F_Bit_take (6 : Int32) c) (fun r2 c2 => F_Msg_readSteps_79 p2 K x3 x4 s0 x6 s0 r2 c2)) else (x_bind (F_Msg_takeLimit c) (fun r3 c3 => F_Msg_readSteps_70 p2 K x3 x4 s0 x6 s0 r3 c3))
theorem T_Msg_readSteps_57 {E : x_E} {o : x_S} {Q : Int32 → x_H → Prop} {p2 : Nat} (hp2 : x_span p2) {K : Int32 → Int32 → Int32 → Int32 → x_S → Option (Int32 × x_S)} (hK : ∀ {l0 : Option Value} {x3 x4 x5 x6 : Int32} {c : x_S} {r : Int32} {s : x_S}, K x3 x4 x5 x6 c = some (r, s) → Q r (hpk s o) → Ev E m_Msg_readSteps 0 0 37 [l0, some (.ref 22), some (.ref p2), some (.int x3), some (.int x4), some (.int x5), some (.int x6)] [] (hpk c o) Q) {l0 : Option Value} {l5 : Option Value} {x3 x4 x6 s0 : Int32} {c : x_S} {r : Int32} {s : x_S} (hF : F_Msg_readSteps_57 p2 K x3 x4 x6 s0 c = some (r, s)) (hQ : Q r (hpk s o)) : Ev E m_Msg_readSteps 0 0 57 [l0, some (.ref 22), some (.ref p2), some (.int x3), some (.int x4), l5, some (.int x6)] [.int s0] (hpk c o) Q := by
  unfold F_Msg_readSteps_57 at hF
  refine Ev_istore (L' := [l0, some (.ref 22), some (.ref p2), some (.int x3), some (.int x4), some (.int s0), some (.int x6)]) d_Msg_readSteps_57 (by decide) rfl ?_
  refine Ev_aload_n d_Msg_readSteps_59 rfl ?_
  refine Ev_iload d_Msg_readSteps_60 rfl ?_
  refine Ev_iload_n d_Msg_readSteps_62 rfl ?_
  refine Ev_if_eq (tgt := 73) d_Msg_readSteps_63 rfl (fun h1 => ?_) (fun h1 => ?_)
  · rw [if_pos h1] at hF
    refine Ev_aload_n d_Msg_readSteps_73 rfl ?_
    refine Ev_bipush (v := (6)) d_Msg_readSteps_74 (by decide) ?_
    obtain ⟨r2, c2, hC, hF⟩ := x_bind_some hF
    refine k_Msg_45 rfl d_Msg_readSteps_76 ⟨by decide, by decide⟩ (Nat.le_of_ble_eq_true rfl) ?_
    exact C_Bit_take hC (T_Msg_readSteps_79 hp2 (fun h1 h2 => hK h1 h2) hF hQ)
  · rw [if_neg h1] at hF
    refine Ev_aload_n d_Msg_readSteps_66 rfl ?_
    obtain ⟨r3, c3, hC, hF⟩ := x_bind_some hF
    refine k_Msg_122 rfl d_Msg_readSteps_67 ⟨by decide, by decide⟩ (Nat.le_of_ble_eq_true rfl) ?_
    exact C_Msg_takeLimit hC (T_Msg_readSteps_70 hp2 (fun h1 h2 => hK h1 h2) hF hQ)
def F_Msg_readSteps_48 (p2 : Nat) (K : Int32 → Int32 → Int32 → Int32 → x_S → Option (Int32 × x_S)) (x3 x4 x5 x6 s0 : Int32) (c : x_S) : Option (Int32 × x_S) := if s0 = 0 then (F_Msg_readSteps_88 p2 c) else (x_bind (F_Msg_takePlaceBehind x5 c) (fun r2 c2 => F_Msg_readSteps_57 p2 K x3 x4 x6 r2 c2))
theorem T_Msg_readSteps_48 {E : x_E} {o : x_S} {Q : Int32 → x_H → Prop} {p2 : Nat} (hp2 : x_span p2) {K : Int32 → Int32 → Int32 → Int32 → x_S → Option (Int32 × x_S)} (hK : ∀ {l0 : Option Value} {x3 x4 x5 x6 : Int32} {c : x_S} {r : Int32} {s : x_S}, K x3 x4 x5 x6 c = some (r, s) → Q r (hpk s o) → Ev E m_Msg_readSteps 0 0 37 [l0, some (.ref 22), some (.ref p2), some (.int x3), some (.int x4), some (.int x5), some (.int x6)] [] (hpk c o) Q) {l0 : Option Value} {x3 x4 x5 x6 s0 : Int32} {c : x_S} {r : Int32} {s : x_S} (hF : F_Msg_readSteps_48 p2 K x3 x4 x5 x6 s0 c = some (r, s)) (hQ : Q r (hpk s o)) : Ev E m_Msg_readSteps 0 0 48 [l0, some (.ref 22), some (.ref p2), some (.int x3), some (.int x4), some (.int x5), some (.int x6)] [.int s0] (hpk c o) Q := by
  unfold F_Msg_readSteps_48 at hF
  refine Ev_if_eq (tgt := 88) d_Msg_readSteps_48 rfl (fun h1 => ?_) (fun h1 => ?_)
  · rw [if_pos h1] at hF
    exact T_Msg_readSteps_88 hp2 hF hQ
  · rw [if_neg h1] at hF
    refine Ev_aload_n d_Msg_readSteps_51 rfl ?_
    refine Ev_iload d_Msg_readSteps_52 rfl ?_
    obtain ⟨r2, c2, hC, hF⟩ := x_bind_some hF
    refine k_Msg_107 rfl d_Msg_readSteps_54 ⟨by decide, by decide⟩ (Nat.le_of_ble_eq_true rfl) ?_
    exact C_Msg_takePlaceBehind hC (T_Msg_readSteps_57 hp2 (fun h1 h2 => hK h1 h2) hF hQ)
def F_Msg_readSteps_37 (p2 : Nat) : Nat → Int32 → Int32 → Int32 → Int32 → x_S → Option (Int32 × x_S)
  | 0, _, _, _, _, _ => none
  | n + 1, x3, x4, x5, x6, c => if x4 ≤ x6 then (F_Msg_readSteps_88 p2 c) else (x_bind (F_Bit_isSound c) (fun r2 c2 => F_Msg_readSteps_48 p2 (F_Msg_readSteps_37 p2 n) x3 x4 x5 x6 r2 c2))
theorem T_Msg_readSteps_37 {E : x_E} {o : x_S} {Q : Int32 → x_H → Prop} {p2 : Nat} (hp2 : x_span p2) : ∀ (n : Nat) {l0 : Option Value} {x3 x4 x5 x6 : Int32} {c : x_S} {r : Int32} {s : x_S}, F_Msg_readSteps_37 p2 n x3 x4 x5 x6 c = some (r, s) → Q r (hpk s o) → Ev E m_Msg_readSteps 0 0 37 [l0, some (.ref 22), some (.ref p2), some (.int x3), some (.int x4), some (.int x5), some (.int x6)] [] (hpk c o) Q := by
  intro n
  induction n with
  | zero => intro l0 x3 x4 x5 x6 c r s hF; rw [F_Msg_readSteps_37] at hF; cases hF
  | succ n ih =>
    intro l0 x3 x4 x5 x6 c r s hF hQ
    rw [F_Msg_readSteps_37] at hF
    refine Ev_iload d_Msg_readSteps_37 rfl ?_
    refine Ev_iload d_Msg_readSteps_39 rfl ?_
    refine Ev_icmp_ge (tgt := 88) d_Msg_readSteps_41 rfl (fun h1 => ?_) (fun h1 => ?_)
    · rw [if_pos h1] at hF
      exact T_Msg_readSteps_88 hp2 hF hQ
    · rw [if_neg h1] at hF
      refine Ev_aload_n d_Msg_readSteps_44 rfl ?_
      obtain ⟨r2, c2, hC, hF⟩ := x_bind_some hF
      refine k_Msg_69 rfl d_Msg_readSteps_45 ⟨by decide, by decide⟩ (Nat.le_of_ble_eq_true rfl) ?_
      exact C_Bit_isSound hC (T_Msg_readSteps_48 hp2 (fun h1 h2 => ih h1 h2) hF hQ)
def F_Msg_readSteps_31 (p2 : Nat) (x3 x4 : Int32) (c : x_S) : Option (Int32 × x_S) := F_Msg_readSteps_37 p2 x_fuel x3 x4 (-1 : Int32) (0 : Int32) c
theorem T_Msg_readSteps_31 {E : x_E} {o : x_S} {Q : Int32 → x_H → Prop} {p2 : Nat} (hp2 : x_span p2) {l0 : Option Value} {l5 : Option Value} {l6 : Option Value} {x3 x4 : Int32} {c : x_S} {r : Int32} {s : x_S} (hF : F_Msg_readSteps_31 p2 x3 x4 c = some (r, s)) (hQ : Q r (hpk s o)) : Ev E m_Msg_readSteps 0 0 31 [l0, some (.ref 22), some (.ref p2), some (.int x3), some (.int x4), l5, l6] [] (hpk c o) Q := by
  unfold F_Msg_readSteps_31 at hF
  refine Ev_iconst (v := (-1)) d_Msg_readSteps_31 (by decide) ?_
  refine Ev_istore (L' := [l0, some (.ref 22), some (.ref p2), some (.int x3), some (.int x4), some (.int (-1 : Int32)), l6]) d_Msg_readSteps_32 (by decide) rfl ?_
  refine Ev_iconst (v := 0) d_Msg_readSteps_34 (by decide) ?_
  refine Ev_istore (L' := [l0, some (.ref 22), some (.ref p2), some (.int x3), some (.int x4), some (.int (-1 : Int32)), some (.int (0 : Int32))]) d_Msg_readSteps_35 (by decide) rfl ?_
  exact T_Msg_readSteps_37 hp2 x_fuel hF hQ
def F_Msg_readSteps_26 (p2 : Nat) (x3 x4 s1 : Int32) (c : x_S) : Option (Int32 × x_S) := x_bind (F_Bit_need s1 (6 : Int32) c) (fun _ c1 => F_Msg_readSteps_31 p2 x3 x4 c1)
theorem T_Msg_readSteps_26 {E : x_E} {o : x_S} {Q : Int32 → x_H → Prop} {p2 : Nat} (hp2 : x_span p2) {l0 : Option Value} {l5 : Option Value} {l6 : Option Value} {x3 x4 s1 : Int32} {c : x_S} {r : Int32} {s : x_S} (hF : F_Msg_readSteps_26 p2 x3 x4 s1 c = some (r, s)) (hQ : Q r (hpk s o)) : Ev E m_Msg_readSteps 0 0 26 [l0, some (.ref 22), some (.ref p2), some (.int x3), some (.int x4), l5, l6] [.int s1, .ref 22] (hpk c o) Q := by
  unfold F_Msg_readSteps_26 at hF
  refine Ev_bipush (v := (6)) d_Msg_readSteps_26 (by decide) ?_
  obtain ⟨r1, c1, hC, hF⟩ := x_bind_some hF
  refine k_Msg_52 rfl d_Msg_readSteps_28 ⟨by decide, by decide⟩ (Nat.le_of_ble_eq_true rfl) ?_
  exact C_Bit_need hC (T_Msg_readSteps_31 hp2 hF hQ)
def F_Msg_readSteps_21 (p2 : Nat) (x3 x4 : Int32) (c : x_S) : Option (Int32 × x_S) := F_Msg_readSteps_26 p2 x3 x4 (1 : Int32) c
theorem T_Msg_readSteps_21 {E : x_E} {o : x_S} {Q : Int32 → x_H → Prop} {p2 : Nat} (hp2 : x_span p2) {l0 : Option Value} {l5 : Option Value} {l6 : Option Value} {x3 x4 : Int32} {c : x_S} {r : Int32} {s : x_S} (hF : F_Msg_readSteps_21 p2 x3 x4 c = some (r, s)) (hQ : Q r (hpk s o)) : Ev E m_Msg_readSteps 0 0 21 [l0, some (.ref 22), some (.ref p2), some (.int x3), some (.int x4), l5, l6] [.ref 22] (hpk c o) Q := by
  unfold F_Msg_readSteps_21 at hF
  refine Ev_iconst (v := 1) d_Msg_readSteps_21 (by decide) ?_
  refine Ev_goto (tgt := 26) d_Msg_readSteps_22 rfl ?_
  exact T_Msg_readSteps_26 hp2 hF hQ
def F_Msg_readSteps_9 (p2 : Nat) (x3 s0 : Int32) (c : x_S) : Option (Int32 × x_S) := if s0 = 0 then (if x3 = 0 then (F_Msg_readSteps_21 p2 x3 s0 c) else (F_Msg_readSteps_26 p2 x3 s0 (0 : Int32) c)) else (F_Msg_readSteps_21 p2 x3 s0 c)
theorem T_Msg_readSteps_9 {E : x_E} {o : x_S} {Q : Int32 → x_H → Prop} {p2 : Nat} (hp2 : x_span p2) {l0 : Option Value} {l4 : Option Value} {l5 : Option Value} {l6 : Option Value} {x3 s0 : Int32} {c : x_S} {r : Int32} {s : x_S} (hF : F_Msg_readSteps_9 p2 x3 s0 c = some (r, s)) (hQ : Q r (hpk s o)) : Ev E m_Msg_readSteps 0 0 9 [l0, some (.ref 22), some (.ref p2), some (.int x3), l4, l5, l6] [.int s0] (hpk c o) Q := by
  unfold F_Msg_readSteps_9 at hF
  refine Ev_istore (L' := [l0, some (.ref 22), some (.ref p2), some (.int x3), some (.int s0), l5, l6]) d_Msg_readSteps_9 (by decide) rfl ?_
  refine Ev_aload_n d_Msg_readSteps_11 rfl ?_
  refine Ev_iload d_Msg_readSteps_12 rfl ?_
  refine Ev_if_ne (tgt := 21) d_Msg_readSteps_14 rfl (fun h1 => ?_) (fun h1 => ?_)
  · rw [if_neg h1] at hF
    exact T_Msg_readSteps_21 hp2 hF hQ
  · rw [if_pos h1] at hF
    refine Ev_iload_n d_Msg_readSteps_17 rfl ?_
    refine Ev_if_ne (tgt := 25) d_Msg_readSteps_18 rfl (fun h2 => ?_) (fun h2 => ?_)
    · rw [if_neg h2] at hF
      refine Ev_iconst (v := 0) d_Msg_readSteps_25 (by decide) ?_
      exact T_Msg_readSteps_26 hp2 hF hQ
    · rw [if_pos h2] at hF
      exact T_Msg_readSteps_21 hp2 hF hQ
def F_Msg_readSteps_4 (p2 : Nat) (x3 : Int32) (c : x_S) : Option (Int32 × x_S) := x_bind (F_Bit_take (3 : Int32) c) (fun r1 c1 => F_Msg_readSteps_9 p2 x3 r1 c1)
theorem T_Msg_readSteps_4 {E : x_E} {o : x_S} {Q : Int32 → x_H → Prop} {p2 : Nat} (hp2 : x_span p2) {l0 : Option Value} {l4 : Option Value} {l5 : Option Value} {l6 : Option Value} {x3 : Int32} {c : x_S} {r : Int32} {s : x_S} (hF : F_Msg_readSteps_4 p2 x3 c = some (r, s)) (hQ : Q r (hpk s o)) : Ev E m_Msg_readSteps 0 0 4 [l0, some (.ref 22), some (.ref p2), some (.int x3), l4, l5, l6] [] (hpk c o) Q := by
  unfold F_Msg_readSteps_4 at hF
  refine Ev_aload_n d_Msg_readSteps_4 rfl ?_
  refine Ev_iconst (v := 3) d_Msg_readSteps_5 (by decide) ?_
  obtain ⟨r1, c1, hC, hF⟩ := x_bind_some hF
  refine k_Msg_45 rfl d_Msg_readSteps_6 ⟨by decide, by decide⟩ (Nat.le_of_ble_eq_true rfl) ?_
  exact C_Bit_take hC (T_Msg_readSteps_9 hp2 hF hQ)
def F_Msg_readSteps (p2 : Nat) (x3 : Int32) (c : x_S) : Option (Int32 × x_S) := x_bind (F_Spn_clear p2 c) (fun _ c1 => F_Msg_readSteps_4 p2 x3 c1)
theorem C_Msg_readSteps {E : x_E} {o : x_S} {Q : Int32 → x_H → Prop} {p2 : Nat} (hp2 : x_span p2) {x3 : Int32} {c : x_S} {r : Int32} {s : x_S} (hF : F_Msg_readSteps p2 x3 c = some (r, s)) (hQ : Q r (hpk s o)) : Call E m_Msg_readSteps 0 0 [.ref 24, .ref 22, .ref p2, .int x3] (hpk c o) Q := by
  refine Call_of (L := [some (.ref 24), some (.ref 22), some (.ref p2), some (.int x3), none, none, none]) (by decide) (by intro v hv; simp only [List.mem_cons, List.not_mem_nil, or_false] at hv; rcases hv with rfl | rfl | rfl | rfl <;> rfl) (Nat.le_of_ble_eq_true rfl) rfl ?_
  unfold F_Msg_readSteps at hF
  refine Ev_aload_n d_Msg_readSteps_0 rfl ?_
  obtain ⟨r1, c1, hC, hF⟩ := x_bind_some hF
  refine k_Msg_121 hp2 rfl d_Msg_readSteps_1 ⟨by decide, by decide⟩ (Nat.le_of_ble_eq_true rfl) ?_
  exact C_Spn_clear hp2 hC (T_Msg_readSteps_4 hp2 hF hQ)
def F_Msg_readRestriction_52 (c : x_S) : Option (Int32 × x_S) := some (0, c)
theorem T_Msg_readRestriction_52 {E : x_E} {o : x_S} {Q : Int32 → x_H → Prop} {l0 : Option Value} {l1 : Option Value} {c : x_S} {r : Int32} {s : x_S} (hF : F_Msg_readRestriction_52 c = some (r, s)) (hQ : Q r (hpk s o)) : Ev E m_Msg_readRestriction 0 0 52 [l0, l1] [] (hpk c o) Q := by
  unfold F_Msg_readRestriction_52 at hF
  cases hF
  exact Ev_return d_Msg_readRestriction_52 rfl hQ
def F_Msg_readRestriction_49 (s1 : Int32) (c : x_S) : Option (Int32 × x_S) := F_Msg_readRestriction_52 (x_up c 24 12 s1)
theorem T_Msg_readRestriction_49 {E : x_E} {o : x_S} {Q : Int32 → x_H → Prop} {l0 : Option Value} {l1 : Option Value} {s1 : Int32} {c : x_S} {r : Int32} {s : x_S} (hF : F_Msg_readRestriction_49 s1 c = some (r, s)) (hQ : Q r (hpk s o)) : Ev E m_Msg_readRestriction 0 0 49 [l0, l1] [.int s1, .ref 24] (hpk c o) Q := by
  unfold F_Msg_readRestriction_49 at hF
  refine q_Msg_138 rfl d_Msg_readRestriction_49 ?_
  exact T_Msg_readRestriction_52 hF hQ
def F_Msg_readRestriction_44 (c : x_S) : Option (Int32 × x_S) := x_bind (F_Msg_takeLimit c) (fun r1 c1 => F_Msg_readRestriction_49 r1 c1)
theorem T_Msg_readRestriction_44 {E : x_E} {o : x_S} {Q : Int32 → x_H → Prop} {c : x_S} {r : Int32} {s : x_S} (hF : F_Msg_readRestriction_44 c = some (r, s)) (hQ : Q r (hpk s o)) : Ev E m_Msg_readRestriction 0 0 44 [some (.ref 24), some (.ref 22)] [] (hpk c o) Q := by
  unfold F_Msg_readRestriction_44 at hF
  refine Ev_aload_n d_Msg_readRestriction_44 rfl ?_
  refine Ev_aload_n d_Msg_readRestriction_45 rfl ?_
  obtain ⟨r1, c1, hC, hF⟩ := x_bind_some hF
  refine k_Msg_122 rfl d_Msg_readRestriction_46 ⟨by decide, by decide⟩ (Nat.le_of_ble_eq_true rfl) ?_
  exact C_Msg_takeLimit hC (T_Msg_readRestriction_49 hF hQ)
def F_Msg_readRestriction_39 (s1 : Int32) (c : x_S) : Option (Int32 × x_S) := x_bind (F_Bit_need s1 (6 : Int32) c) (fun _ c1 => F_Msg_readRestriction_44 c1)
theorem T_Msg_readRestriction_39 {E : x_E} {o : x_S} {Q : Int32 → x_H → Prop} {s1 : Int32} {c : x_S} {r : Int32} {s : x_S} (hF : F_Msg_readRestriction_39 s1 c = some (r, s)) (hQ : Q r (hpk s o)) : Ev E m_Msg_readRestriction 0 0 39 [some (.ref 24), some (.ref 22)] [.int s1, .ref 22] (hpk c o) Q := by
  unfold F_Msg_readRestriction_39 at hF
  refine Ev_bipush (v := (6)) d_Msg_readRestriction_39 (by decide) ?_
  obtain ⟨r1, c1, hC, hF⟩ := x_bind_some hF
  refine k_Msg_52 rfl d_Msg_readRestriction_41 ⟨by decide, by decide⟩ (Nat.le_of_ble_eq_true rfl) ?_
  exact C_Bit_need hC (T_Msg_readRestriction_44 hF hQ)
def F_Msg_readRestriction_26 (c : x_S) : Option (Int32 × x_S) := if (c 24 11) = 0 then (F_Msg_readRestriction_39 (0 : Int32) c) else (F_Msg_readRestriction_39 (1 : Int32) c)
theorem T_Msg_readRestriction_26 {E : x_E} {o : x_S} {Q : Int32 → x_H → Prop} {c : x_S} {r : Int32} {s : x_S} (hF : F_Msg_readRestriction_26 c = some (r, s)) (hQ : Q r (hpk s o)) : Ev E m_Msg_readRestriction 0 0 26 [some (.ref 24), some (.ref 22)] [] (hpk c o) Q := by
  unfold F_Msg_readRestriction_26 at hF
  refine Ev_aload_n d_Msg_readRestriction_26 rfl ?_
  refine Ev_aload_n d_Msg_readRestriction_27 rfl ?_
  refine g_Msg_135 rfl d_Msg_readRestriction_28 ?_
  refine Ev_if_eq (tgt := 38) d_Msg_readRestriction_31 rfl (fun h1 => ?_) (fun h1 => ?_)
  · rw [if_pos h1] at hF
    refine Ev_iconst (v := 0) d_Msg_readRestriction_38 (by decide) ?_
    exact T_Msg_readRestriction_39 hF hQ
  · rw [if_neg h1] at hF
    refine Ev_iconst (v := 1) d_Msg_readRestriction_34 (by decide) ?_
    refine Ev_goto (tgt := 39) d_Msg_readRestriction_35 rfl ?_
    exact T_Msg_readRestriction_39 hF hQ
def F_Msg_readRestriction_23 (s1 : Int32) (c : x_S) : Option (Int32 × x_S) := F_Msg_readRestriction_26 (x_up c 24 11 s1)
theorem T_Msg_readRestriction_23 {E : x_E} {o : x_S} {Q : Int32 → x_H → Prop} {s1 : Int32} {c : x_S} {r : Int32} {s : x_S} (hF : F_Msg_readRestriction_23 s1 c = some (r, s)) (hQ : Q r (hpk s o)) : Ev E m_Msg_readRestriction 0 0 23 [some (.ref 24), some (.ref 22)] [.int s1, .ref 24] (hpk c o) Q := by
  unfold F_Msg_readRestriction_23 at hF
  refine q_Msg_135 rfl d_Msg_readRestriction_23 ?_
  exact T_Msg_readRestriction_26 hF hQ
def F_Msg_readRestriction_18 (c : x_S) : Option (Int32 × x_S) := x_bind (F_Msg_takePlace c) (fun r1 c1 => F_Msg_readRestriction_23 r1 c1)
theorem T_Msg_readRestriction_18 {E : x_E} {o : x_S} {Q : Int32 → x_H → Prop} {c : x_S} {r : Int32} {s : x_S} (hF : F_Msg_readRestriction_18 c = some (r, s)) (hQ : Q r (hpk s o)) : Ev E m_Msg_readRestriction 0 0 18 [some (.ref 24), some (.ref 22)] [] (hpk c o) Q := by
  unfold F_Msg_readRestriction_18 at hF
  refine Ev_aload_n d_Msg_readRestriction_18 rfl ?_
  refine Ev_aload_n d_Msg_readRestriction_19 rfl ?_
  obtain ⟨r1, c1, hC, hF⟩ := x_bind_some hF
  refine k_Msg_62 rfl d_Msg_readRestriction_20 ⟨by decide, by decide⟩ (Nat.le_of_ble_eq_true rfl) ?_
  exact C_Msg_takePlace hC (T_Msg_readRestriction_23 hF hQ)
def F_Msg_readRestriction_15 (s1 : Int32) (c : x_S) : Option (Int32 × x_S) := F_Msg_readRestriction_18 (x_up c 24 10 s1)
theorem T_Msg_readRestriction_15 {E : x_E} {o : x_S} {Q : Int32 → x_H → Prop} {s1 : Int32} {c : x_S} {r : Int32} {s : x_S} (hF : F_Msg_readRestriction_15 s1 c = some (r, s)) (hQ : Q r (hpk s o)) : Ev E m_Msg_readRestriction 0 0 15 [some (.ref 24), some (.ref 22)] [.int s1, .ref 24] (hpk c o) Q := by
  unfold F_Msg_readRestriction_15 at hF
  refine q_Msg_132 rfl d_Msg_readRestriction_15 ?_
  exact T_Msg_readRestriction_18 hF hQ
def F_Msg_readRestriction_10 (c : x_S) : Option (Int32 × x_S) := x_bind (F_Msg_takePlace c) (fun r1 c1 => F_Msg_readRestriction_15 r1 c1)
theorem T_Msg_readRestriction_10 {E : x_E} {o : x_S} {Q : Int32 → x_H → Prop} {c : x_S} {r : Int32} {s : x_S} (hF : F_Msg_readRestriction_10 c = some (r, s)) (hQ : Q r (hpk s o)) : Ev E m_Msg_readRestriction 0 0 10 [some (.ref 24), some (.ref 22)] [] (hpk c o) Q := by
  unfold F_Msg_readRestriction_10 at hF
  refine Ev_aload_n d_Msg_readRestriction_10 rfl ?_
  refine Ev_aload_n d_Msg_readRestriction_11 rfl ?_
  obtain ⟨r1, c1, hC, hF⟩ := x_bind_some hF
  refine k_Msg_62 rfl d_Msg_readRestriction_12 ⟨by decide, by decide⟩ (Nat.le_of_ble_eq_true rfl) ?_
  exact C_Msg_takePlace hC (T_Msg_readRestriction_15 hF hQ)
def F_Msg_readRestriction_7 (s1 : Int32) (c : x_S) : Option (Int32 × x_S) := F_Msg_readRestriction_10 (x_up c 24 9 s1)
theorem T_Msg_readRestriction_7 {E : x_E} {o : x_S} {Q : Int32 → x_H → Prop} {s1 : Int32} {c : x_S} {r : Int32} {s : x_S} (hF : F_Msg_readRestriction_7 s1 c = some (r, s)) (hQ : Q r (hpk s o)) : Ev E m_Msg_readRestriction 0 0 7 [some (.ref 24), some (.ref 22)] [.int s1, .ref 24] (hpk c o) Q := by
  unfold F_Msg_readRestriction_7 at hF
  refine q_Msg_129 rfl d_Msg_readRestriction_7 ?_
  exact T_Msg_readRestriction_10 hF hQ
def F_Msg_readRestriction (c : x_S) : Option (Int32 × x_S) := x_bind (F_Bit_take (8 : Int32) c) (fun r1 c1 => F_Msg_readRestriction_7 r1 c1)
theorem C_Msg_readRestriction {E : x_E} {o : x_S} {Q : Int32 → x_H → Prop} {c : x_S} {r : Int32} {s : x_S} (hF : F_Msg_readRestriction c = some (r, s)) (hQ : Q r (hpk s o)) : Call E m_Msg_readRestriction 0 0 [.ref 24, .ref 22] (hpk c o) Q := by
  refine Call_of (L := [some (.ref 24), some (.ref 22)]) (by decide) (by intro v hv; simp only [List.mem_cons, List.not_mem_nil, or_false] at hv; rcases hv with rfl | rfl <;> rfl) (Nat.le_of_ble_eq_true rfl) rfl ?_
  unfold F_Msg_readRestriction at hF
  refine Ev_aload_n d_Msg_readRestriction_0 rfl ?_
  refine Ev_aload_n d_Msg_readRestriction_1 rfl ?_
  refine Ev_bipush (v := (8)) d_Msg_readRestriction_2 (by decide) ?_
  obtain ⟨r1, c1, hC, hF⟩ := x_bind_some hF
  refine k_Msg_45 rfl d_Msg_readRestriction_4 ⟨by decide, by decide⟩ (Nat.le_of_ble_eq_true rfl) ?_
  exact C_Bit_take hC (T_Msg_readRestriction_7 hF hQ)
def F_Msg_readNumbers_96 (c : x_S) : Option (Int32 × x_S) := some (0, c)
theorem T_Msg_readNumbers_96 {E : x_E} {o : x_S} {Q : Int32 → x_H → Prop} {l0 : Option Value} {l1 : Option Value} {l2 : Option Value} {c : x_S} {r : Int32} {s : x_S} (hF : F_Msg_readNumbers_96 c = some (r, s)) (hQ : Q r (hpk s o)) : Ev E m_Msg_readNumbers 0 0 96 [l0, l1, l2] [] (hpk c o) Q := by
  unfold F_Msg_readNumbers_96 at hF
  cases hF
  exact Ev_return d_Msg_readNumbers_96 rfl hQ
def F_Msg_readNumbers_93 (s1 : Int32) (c : x_S) : Option (Int32 × x_S) := F_Msg_readNumbers_96 (x_up c 24 13 s1)
theorem T_Msg_readNumbers_93 {E : x_E} {o : x_S} {Q : Int32 → x_H → Prop} {l0 : Option Value} {l1 : Option Value} {l2 : Option Value} {s1 : Int32} {c : x_S} {r : Int32} {s : x_S} (hF : F_Msg_readNumbers_93 s1 c = some (r, s)) (hQ : Q r (hpk s o)) : Ev E m_Msg_readNumbers 0 0 93 [l0, l1, l2] [.int s1, .ref 24] (hpk c o) Q := by
  unfold F_Msg_readNumbers_93 at hF
  refine q_Msg_36 rfl d_Msg_readNumbers_93 ?_
  exact T_Msg_readNumbers_96 hF hQ
def F_Msg_readNumbers_83 (c : x_S) : Option (Int32 × x_S) := F_Msg_readNumbers_96 c
theorem T_Msg_readNumbers_83 {E : x_E} {o : x_S} {Q : Int32 → x_H → Prop} {l0 : Option Value} {l1 : Option Value} {l2 : Option Value} {c : x_S} {r : Int32} {s : x_S} (hF : F_Msg_readNumbers_83 c = some (r, s)) (hQ : Q r (hpk s o)) : Ev E m_Msg_readNumbers 0 0 83 [l0, l1, l2] [] (hpk c o) Q := by
  unfold F_Msg_readNumbers_83 at hF
  refine Ev_goto (tgt := 96) d_Msg_readNumbers_83 rfl ?_
  exact T_Msg_readNumbers_96 hF hQ
def F_Msg_readNumbers_75 (c : x_S) : Option (Int32 × x_S) := F_Msg_readNumbers_96 c
theorem T_Msg_readNumbers_75 {E : x_E} {o : x_S} {Q : Int32 → x_H → Prop} {l0 : Option Value} {l1 : Option Value} {l2 : Option Value} {c : x_S} {r : Int32} {s : x_S} (hF : F_Msg_readNumbers_75 c = some (r, s)) (hQ : Q r (hpk s o)) : Ev E m_Msg_readNumbers 0 0 75 [l0, l1, l2] [] (hpk c o) Q := by
  unfold F_Msg_readNumbers_75 at hF
  refine Ev_goto (tgt := 96) d_Msg_readNumbers_75 rfl ?_
  exact T_Msg_readNumbers_96 hF hQ
def F_Msg_readNumbers_62 (c : x_S) : Option (Int32 × x_S) := F_Msg_readNumbers_96 c
theorem T_Msg_readNumbers_62 {E : x_E} {o : x_S} {Q : Int32 → x_H → Prop} {l0 : Option Value} {l1 : Option Value} {l2 : Option Value} {c : x_S} {r : Int32} {s : x_S} (hF : F_Msg_readNumbers_62 c = some (r, s)) (hQ : Q r (hpk s o)) : Ev E m_Msg_readNumbers 0 0 62 [l0, l1, l2] [] (hpk c o) Q := by
  unfold F_Msg_readNumbers_62 at hF
  refine Ev_goto (tgt := 96) d_Msg_readNumbers_62 rfl ?_
  exact T_Msg_readNumbers_96 hF hQ
def F_Msg_readNumbers_49 (c : x_S) : Option (Int32 × x_S) := F_Msg_readNumbers_96 c
theorem T_Msg_readNumbers_49 {E : x_E} {o : x_S} {Q : Int32 → x_H → Prop} {l0 : Option Value} {l1 : Option Value} {l2 : Option Value} {c : x_S} {r : Int32} {s : x_S} (hF : F_Msg_readNumbers_49 c = some (r, s)) (hQ : Q r (hpk s o)) : Ev E m_Msg_readNumbers 0 0 49 [l0, l1, l2] [] (hpk c o) Q := by
  unfold F_Msg_readNumbers_49 at hF
  refine Ev_goto (tgt := 96) d_Msg_readNumbers_49 rfl ?_
  exact T_Msg_readNumbers_96 hF hQ
def F_Msg_readNumbers_41 (c : x_S) : Option (Int32 × x_S) := F_Msg_readNumbers_96 c
theorem T_Msg_readNumbers_41 {E : x_E} {o : x_S} {Q : Int32 → x_H → Prop} {l0 : Option Value} {l1 : Option Value} {l2 : Option Value} {c : x_S} {r : Int32} {s : x_S} (hF : F_Msg_readNumbers_41 c = some (r, s)) (hQ : Q r (hpk s o)) : Ev E m_Msg_readNumbers 0 0 41 [l0, l1, l2] [] (hpk c o) Q := by
  unfold F_Msg_readNumbers_41 at hF
  refine Ev_goto (tgt := 96) d_Msg_readNumbers_41 rfl ?_
  exact T_Msg_readNumbers_96 hF hQ
def F_Msg_readNumbers (x2 : Int32) (c : x_S) : Option (Int32 × x_S) := if x2 = 0 then (x_bind (F_Msg_readMarks c) (fun _ c2 => F_Msg_readNumbers_41 c2)) else (if x2 = 1 then (x_bind (F_Msg_readAuthority c) (fun _ c4 => F_Msg_readNumbers_49 c4)) else (if x2 = 2 then (x_bind (F_Msg_readSteps 31 (0 : Int32) c) (fun _ c6 => F_Msg_readNumbers_62 c6)) else (if x2 = 3 then (x_bind (F_Msg_readSteps 35 (1 : Int32) c) (fun _ c8 => F_Msg_readNumbers_75 c8)) else (if x2 = 4 then (x_bind (F_Msg_readRestriction c) (fun _ c10 => F_Msg_readNumbers_83 c10)) else (x_bind (F_Bit_take (8 : Int32) c) (fun r11 c11 => F_Msg_readNumbers_93 r11 c11))))))
theorem C_Msg_readNumbers {E : x_E} {o : x_S} {Q : Int32 → x_H → Prop} {x2 : Int32} {c : x_S} {r : Int32} {s : x_S} (hF : F_Msg_readNumbers x2 c = some (r, s)) (hQ : Q r (hpk s o)) : Call E m_Msg_readNumbers 0 0 [.ref 24, .ref 22, .int x2] (hpk c o) Q := by
  refine Call_of (L := [some (.ref 24), some (.ref 22), some (.int x2)]) (by decide) (by intro v hv; simp only [List.mem_cons, List.not_mem_nil, or_false] at hv; rcases hv with rfl | rfl | rfl <;> rfl) (Nat.le_of_ble_eq_true rfl) rfl ?_
  unfold F_Msg_readNumbers at hF
  refine Ev_iload_n d_Msg_readNumbers_0 rfl ?_
  by_cases h1 : x2 = 0
  · rw [if_pos h1] at hF
    refine Ev_tableIn (off := 35) (tgt := 36) d_Msg_readNumbers_1 (by rw [h1]; decide) (by rw [h1]; decide) (by rw [h1]; decide) rfl ?_
    refine Ev_aload_n d_Msg_readNumbers_36 rfl ?_
    refine Ev_aload_n d_Msg_readNumbers_37 rfl ?_
    obtain ⟨r2, c2, hC, hF⟩ := x_bind_some hF
    refine k_Msg_91 rfl d_Msg_readNumbers_38 ⟨by decide, by decide⟩ (Nat.le_of_ble_eq_true rfl) ?_
    exact C_Msg_readMarks hC (T_Msg_readNumbers_41 hF hQ)
  · rw [if_neg h1] at hF
    by_cases h3 : x2 = 1
    · rw [if_pos h3] at hF
      refine Ev_tableIn (off := 43) (tgt := 44) d_Msg_readNumbers_1 (by rw [h3]; decide) (by rw [h3]; decide) (by rw [h3]; decide) rfl ?_
      refine Ev_aload_n d_Msg_readNumbers_44 rfl ?_
      refine Ev_aload_n d_Msg_readNumbers_45 rfl ?_
      obtain ⟨r4, c4, hC, hF⟩ := x_bind_some hF
      refine k_Msg_94 rfl d_Msg_readNumbers_46 ⟨by decide, by decide⟩ (Nat.le_of_ble_eq_true rfl) ?_
      exact C_Msg_readAuthority hC (T_Msg_readNumbers_49 hF hQ)
    · rw [if_neg h3] at hF
      by_cases h5 : x2 = 2
      · rw [if_pos h5] at hF
        refine Ev_tableIn (off := 51) (tgt := 52) d_Msg_readNumbers_1 (by rw [h5]; decide) (by rw [h5]; decide) (by rw [h5]; decide) rfl ?_
        refine Ev_aload_n d_Msg_readNumbers_52 rfl ?_
        refine Ev_aload_n d_Msg_readNumbers_53 rfl ?_
        refine Ev_aload_n d_Msg_readNumbers_54 rfl ?_
        refine g_Msg_29 rfl d_Msg_readNumbers_55 ?_
        refine Ev_iconst (v := 0) d_Msg_readNumbers_58 (by decide) ?_
        obtain ⟨r6, c6, hC, hF⟩ := x_bind_some hF
        refine k_Msg_97 rfl d_Msg_readNumbers_59 ⟨by decide, by decide⟩ (Nat.le_of_ble_eq_true rfl) ?_
        exact C_Msg_readSteps (by simp [x_span]) hC (T_Msg_readNumbers_62 hF hQ)
      · rw [if_neg h5] at hF
        by_cases h7 : x2 = 3
        · rw [if_pos h7] at hF
          refine Ev_tableIn (off := 64) (tgt := 65) d_Msg_readNumbers_1 (by rw [h7]; decide) (by rw [h7]; decide) (by rw [h7]; decide) rfl ?_
          refine Ev_aload_n d_Msg_readNumbers_65 rfl ?_
          refine Ev_aload_n d_Msg_readNumbers_66 rfl ?_
          refine Ev_aload_n d_Msg_readNumbers_67 rfl ?_
          refine g_Msg_33 rfl d_Msg_readNumbers_68 ?_
          refine Ev_iconst (v := 1) d_Msg_readNumbers_71 (by decide) ?_
          obtain ⟨r8, c8, hC, hF⟩ := x_bind_some hF
          refine k_Msg_97 rfl d_Msg_readNumbers_72 ⟨by decide, by decide⟩ (Nat.le_of_ble_eq_true rfl) ?_
          exact C_Msg_readSteps (by simp [x_span]) hC (T_Msg_readNumbers_75 hF hQ)
        · rw [if_neg h7] at hF
          by_cases h9 : x2 = 4
          · rw [if_pos h9] at hF
            refine Ev_tableIn (off := 77) (tgt := 78) d_Msg_readNumbers_1 (by rw [h9]; decide) (by rw [h9]; decide) (by rw [h9]; decide) rfl ?_
            refine Ev_aload_n d_Msg_readNumbers_78 rfl ?_
            refine Ev_aload_n d_Msg_readNumbers_79 rfl ?_
            obtain ⟨r10, c10, hC, hF⟩ := x_bind_some hF
            refine k_Msg_101 rfl d_Msg_readNumbers_80 ⟨by decide, by decide⟩ (Nat.le_of_ble_eq_true rfl) ?_
            exact C_Msg_readRestriction hC (T_Msg_readNumbers_83 hF hQ)
          · rw [if_neg h9] at hF
            have eh1 := lv_neT h1 (show (0 : Int32).toInt = 0 by decide)
            have eh3 := lv_neT h3 (show (1 : Int32).toInt = 1 by decide)
            have eh5 := lv_neT h5 (show (2 : Int32).toInt = 2 by decide)
            have eh7 := lv_neT h7 (show (3 : Int32).toInt = 3 by decide)
            have eh9 := lv_neT h9 (show (4 : Int32).toInt = 4 by decide)
            refine Ev_tableOut (tgt := 86) d_Msg_readNumbers_1 (by omega) rfl ?_
            refine Ev_aload_n d_Msg_readNumbers_86 rfl ?_
            refine Ev_aload_n d_Msg_readNumbers_87 rfl ?_
            refine Ev_bipush (v := (8)) d_Msg_readNumbers_88 (by decide) ?_
            obtain ⟨r11, c11, hC, hF⟩ := x_bind_some hF
            refine k_Msg_45 rfl d_Msg_readNumbers_90 ⟨by decide, by decide⟩ (Nat.le_of_ble_eq_true rfl) ?_
            exact C_Bit_take hC (T_Msg_readNumbers_93 hF hQ)
