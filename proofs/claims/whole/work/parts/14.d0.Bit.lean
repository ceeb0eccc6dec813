/-! printed by wip/gen/gen4.py: TrainGuard$BitRow -/
def F_Bit_put_58 (K : Int32 → Int32 → x_S → Option (Int32 × x_S)) (x1 x3 : Int32) (c : x_S) : Option (Int32 × x_S) := K x1 (x3 + (-1 : Int32)) c
theorem T_Bit_put_58 {E : x_E} {o : x_S} {Q : Int32 → x_H → Prop} {K : Int32 → Int32 → x_S → Option (Int32 × x_S)} (hK : ∀ {l2 : Option Value} {x1 x3 : Int32} {c : x_S} {r : Int32} {s : x_S}, K x1 x3 c = some (r, s) → Q r (hpk s o) → Ev E m_Bit_put 0 0 29 [some (.ref 22), some (.int x1), l2, some (.int x3)] [] (hpk c o) Q) {l2 : Option Value} {x1 x3 : Int32} {c : x_S} {r : Int32} {s : x_S} (hF : F_Bit_put_58 K x1 x3 c = some (r, s)) (hQ : Q r (hpk s o)) : Ev E m_Bit_put 0 0 58 [some (.ref 22), some (.int x1), l2, some (.int x3)] [] (hpk c o) Q := by
  unfold F_Bit_put_58 at hF
  refine Ev_iinc (v := (x3 + (-1 : Int32))) (L' := [some (.ref 22), some (.int x1), l2, some (.int (x3 + (-1 : Int32)))]) d_Bit_put_58 rfl rfl (by decide) rfl ?_
  refine Ev_goto (tgt := 29) d_Bit_put_61 rfl ?_
  exact hK hF hQ
def F_Bit_put_48 (K : Int32 → Int32 → x_S → Option (Int32 × x_S)) (x1 x3 : Int32) (c : x_S) : Option (Int32 × x_S) := F_Bit_put_58 K x1 x3 (x_up c 22 1 ((c 22 1) + (1 : Int32)))
theorem T_Bit_put_48 {E : x_E} {o : x_S} {Q : Int32 → x_H → Prop} {K : Int32 → Int32 → x_S → Option (Int32 × x_S)} (hK : ∀ {l2 : Option Value} {x1 x3 : Int32} {c : x_S} {r : Int32} {s : x_S}, K x1 x3 c = some (r, s) → Q r (hpk s o) → Ev E m_Bit_put 0 0 29 [some (.ref 22), some (.int x1), l2, some (.int x3)] [] (hpk c o) Q) {l2 : Option Value} {x1 x3 : Int32} {c : x_S} {r : Int32} {s : x_S} (hF : F_Bit_put_48 K x1 x3 c = some (r, s)) (hQ : Q r (hpk s o)) : Ev E m_Bit_put 0 0 48 [some (.ref 22), some (.int x1), l2, some (.int x3)] [] (hpk c o) Q := by
  unfold F_Bit_put_48 at hF
  refine Ev_aload_n d_Bit_put_48 rfl ?_
  refine Ev_dup d_Bit_put_49 rfl ?_
  refine g_Bit_15 rfl d_Bit_put_50 ?_
  refine Ev_iconst (v := 1) d_Bit_put_53 (by decide) ?_
  refine Ev_iadd d_Bit_put_54 ?_
  refine q_Bit_15 rfl d_Bit_put_55 ?_
  exact T_Bit_put_58 (fun h1 h2 => hK h1 h2) hF hQ
def F_Bit_put_29 : Nat → Int32 → Int32 → x_S → Option (Int32 × x_S)
  | 0, _, _, _ => none
  | n + 1, x1, x3, c => if x3 < 0 then (some ((1 : Int32), c)) else (x_ix (c 22 1) 600 (fun j2 => F_Bit_put_48 (F_Bit_put_29 n) x1 x3 (x_up c 23 j2 ((((x1 >>> (x3 &&& 31)) &&& (1 : Int32))).toInt8.toInt32).toInt8.toInt32)))
theorem T_Bit_put_29 {E : x_E} {o : x_S} {Q : Int32 → x_H → Prop} : ∀ (n : Nat) {l2 : Option Value} {x1 x3 : Int32} {c : x_S} {r : Int32} {s : x_S}, F_Bit_put_29 n x1 x3 c = some (r, s) → Q r (hpk s o) → Ev E m_Bit_put 0 0 29 [some (.ref 22), some (.int x1), l2, some (.int x3)] [] (hpk c o) Q := by
  intro n
  induction n with
  | zero => intro l2 x1 x3 c r s hF; rw [F_Bit_put_29] at hF; cases hF
  | succ n ih =>
    intro l2 x1 x3 c r s hF hQ
    rw [F_Bit_put_29] at hF
    refine Ev_iload_n d_Bit_put_29 rfl ?_
    refine Ev_if_lt (tgt := 64) d_Bit_put_30 rfl (fun h1 => ?_) (fun h1 => ?_)
    · rw [if_pos h1] at hF
      refine Ev_iconst (v := 1) d_Bit_put_64 (by decide) ?_
      cases hF
      exact Ev_zreturn d_Bit_put_65 rfl (Or.inr rfl) hQ
    · rw [if_neg h1] at hF
      refine Ev_aload_n d_Bit_put_33 rfl ?_
      refine g_Bit_9 rfl d_Bit_put_34 ?_
      refine Ev_aload_n d_Bit_put_37 rfl ?_
      refine g_Bit_15 rfl d_Bit_put_38 ?_
      refine Ev_iload_n d_Bit_put_41 rfl ?_
      refine Ev_iload_n d_Bit_put_42 rfl ?_
      refine Ev_ishr d_Bit_put_43 ?_
      refine Ev_iconst (v := 1) d_Bit_put_44 (by decide) ?_
      refine Ev_iand d_Bit_put_45 ?_
      refine Ev_i2b d_Bit_put_46 ?_
      obtain ⟨j2, hij2, hjj2, hF⟩ := x_ix_some hF
      refine Ec_bast d_Bit_put_47 (P := 23) (by decide) rfl hij2 hjj2 ?_
      exact T_Bit_put_48 (fun h1 h2 => ih h1 h2) hF hQ
def F_Bit_put_23 (c : x_S) : Option (Int32 × x_S) := some ((0 : Int32), c)
theorem T_Bit_put_23 {E : x_E} {o : x_S} {Q : Int32 → x_H → Prop} {l0 : Option Value} {l1 : Option Value} {l2 : Option Value} {l3 : Option Value} {c : x_S} {r : Int32} {s : x_S} (hF : F_Bit_put_23 c = some (r, s)) (hQ : Q r (hpk s o)) : Ev E m_Bit_put 0 0 23 [l0, l1, l2, l3] [] (hpk c o) Q := by
  unfold F_Bit_put_23 at hF
  refine Ev_iconst (v := 0) d_Bit_put_23 (by decide) ?_
  cases hF
  exact Ev_zreturn d_Bit_put_24 rfl (Or.inl rfl) hQ
def F_Bit_put (x1 x2 : Int32) (c : x_S) : Option (Int32 × x_S) := if x2 < (1 : Int32) then (F_Bit_put_23 c) else (if (30 : Int32) < x2 then (F_Bit_put_23 c) else (if ((c 22 1) + x2) ≤ (600 : Int32) then (F_Bit_put_29 x_fuel x1 (x2 - (1 : Int32)) c) else (F_Bit_put_23 c)))
theorem C_Bit_put {E : x_E} {o : x_S} {Q : Int32 → x_H → Prop} {x1 x2 : Int32} {c : x_S} {r : Int32} {s : x_S} (hF : F_Bit_put x1 x2 c = some (r, s)) (hQ : Q r (hpk s o)) : Call E m_Bit_put 0 0 [.ref 22, .int x1, .int x2] (hpk c o) Q := by
  refine Call_of (L := [some (.ref 22), some (.int x1), some (.int x2), none]) (by decide) (by intro v hv; simp only [List.mem_cons, List.not_mem_nil, or_false] at hv; rcases hv with rfl | rfl | rfl <;> rfl) (Nat.le_of_ble_eq_true rfl) rfl ?_
  unfold F_Bit_put at hF
  refine Ev_iload_n d_Bit_put_0 rfl ?_
  refine Ev_iconst (v := 1) d_Bit_put_1 (by decide) ?_
  refine Ev_icmp_lt (tgt := 23) d_Bit_put_2 rfl (fun h1 => ?_) (fun h1 => ?_)
  · rw [if_pos h1] at hF
    exact T_Bit_put_23 hF hQ
  · rw [if_neg h1] at hF
    refine Ev_iload_n d_Bit_put_5 rfl ?_
    refine Ev_bipush (v := (30)) d_Bit_put_6 (by decide) ?_
    refine Ev_icmp_gt (tgt := 23) d_Bit_put_8 rfl (fun h2 => ?_) (fun h2 => ?_)
    · rw [if_pos h2] at hF
      exact T_Bit_put_23 hF hQ
    · rw [if_neg h2] at hF
      refine Ev_aload_n d_Bit_put_11 rfl ?_
      refine g_Bit_15 rfl d_Bit_put_12 ?_
      refine Ev_iload_n d_Bit_put_15 rfl ?_
      refine Ev_iadd d_Bit_put_16 ?_
      refine Ev_sipush (v := (600)) d_Bit_put_17 (by decide) ?_
      refine Ev_icmp_le (tgt := 25) d_Bit_put_20 rfl (fun h3 => ?_) (fun h3 => ?_)
      · rw [if_pos h3] at hF
        refine Ev_iload_n d_Bit_put_25 rfl ?_
        refine Ev_iconst (v := 1) d_Bit_put_26 (by decide) ?_
        refine Ev_isub d_Bit_put_27 ?_
        refine Ev_istore_n (L' := [some (.ref 22), some (.int x1), some (.int x2), some (.int (x2 - (1 : Int32)))]) d_Bit_put_28 (by decide) rfl ?_
        exact T_Bit_put_29 x_fuel hF hQ
      · rw [if_neg h3] at hF
        exact T_Bit_put_23 hF hQ
def F_Bit_clear_5 (c : x_S) : Option (Int32 × x_S) := some (0, c)
theorem T_Bit_clear_5 {E : x_E} {o : x_S} {Q : Int32 → x_H → Prop} {l0 : Option Value} {c : x_S} {r : Int32} {s : x_S} (hF : F_Bit_clear_5 c = some (r, s)) (hQ : Q r (hpk s o)) : Ev E m_Bit_clear 0 0 5 [l0] [] (hpk c o) Q := by
  unfold F_Bit_clear_5 at hF
  cases hF
  exact Ev_return d_Bit_clear_5 rfl hQ
def F_Bit_clear (c : x_S) : Option (Int32 × x_S) := F_Bit_clear_5 (x_up c 22 1 (0 : Int32))
theorem C_Bit_clear {E : x_E} {o : x_S} {Q : Int32 → x_H → Prop} {c : x_S} {r : Int32} {s : x_S} (hF : F_Bit_clear c = some (r, s)) (hQ : Q r (hpk s o)) : Call E m_Bit_clear 0 0 [.ref 22] (hpk c o) Q := by
  refine Call_of (L := [some (.ref 22)]) (by decide) (by intro v hv; simp only [List.mem_cons, List.not_mem_nil, or_false] at hv; rw [hv]; rfl) (Nat.le_of_ble_eq_true rfl) rfl ?_
  unfold F_Bit_clear at hF
  refine Ev_aload_n d_Bit_clear_0 rfl ?_
  refine Ev_iconst (v := 0) d_Bit_clear_1 (by decide) ?_
  refine q_Bit_15 rfl d_Bit_clear_2 ?_
  exact T_Bit_clear_5 hF hQ
def F_Bit_begin_10 (c : x_S) : Option (Int32 × x_S) := some (0, c)
theorem T_Bit_begin_10 {E : x_E} {o : x_S} {Q : Int32 → x_H → Prop} {l0 : Option Value} {c : x_S} {r : Int32} {s : x_S} (hF : F_Bit_begin_10 c = some (r, s)) (hQ : Q r (hpk s o)) : Ev E m_Bit_begin 0 0 10 [l0] [] (hpk c o) Q := by
  unfold F_Bit_begin_10 at hF
  cases hF
  exact Ev_return d_Bit_begin_10 rfl hQ
def F_Bit_begin_5 (c : x_S) : Option (Int32 × x_S) := F_Bit_begin_10 (x_up c 22 3 (0 : Int32))
theorem T_Bit_begin_5 {E : x_E} {o : x_S} {Q : Int32 → x_H → Prop} {c : x_S} {r : Int32} {s : x_S} (hF : F_Bit_begin_5 c = some (r, s)) (hQ : Q r (hpk s o)) : Ev E m_Bit_begin 0 0 5 [some (.ref 22)] [] (hpk c o) Q := by
  unfold F_Bit_begin_5 at hF
  refine Ev_aload_n d_Bit_begin_5 rfl ?_
  refine Ev_iconst (v := 0) d_Bit_begin_6 (by decide) ?_
  refine q_Bit_22 rfl d_Bit_begin_7 ?_
  exact T_Bit_begin_10 hF hQ
def F_Bit_begin (c : x_S) : Option (Int32 × x_S) := F_Bit_begin_5 (x_up c 22 2 (0 : Int32))
theorem C_Bit_begin {E : x_E} {o : x_S} {Q : Int32 → x_H → Prop} {c : x_S} {r : Int32} {s : x_S} (hF : F_Bit_begin c = some (r, s)) (hQ : Q r (hpk s o)) : Call E m_Bit_begin 0 0 [.ref 22] (hpk c o) Q := by
  refine Call_of (L := [some (.ref 22)]) (by decide) (by intro v hv; simp only [List.mem_cons, List.not_mem_nil, or_false] at hv; rw [hv]; rfl) (Nat.le_of_ble_eq_true rfl) rfl ?_
  unfold F_Bit_begin at hF
  refine Ev_aload_n d_Bit_begin_0 rfl ?_
  refine Ev_iconst (v := 0) d_Bit_begin_1 (by decide) ?_
  refine q_Bit_19 rfl d_Bit_begin_2 ?_
  exact T_Bit_begin_5 hF hQ
def F_Bit_left (c : x_S) : Option (Int32 × x_S) := some (((c 22 1) - (c 22 2)), c)
theorem C_Bit_left {E : x_E} {o : x_S} {Q : Int32 → x_H → Prop} {c : x_S} {r : Int32} {s : x_S} (hF : F_Bit_left c = some (r, s)) (hQ : Q r (hpk s o)) : Call E m_Bit_left 0 0 [.ref 22] (hpk c o) Q := by
  refine Call_of (L := [some (.ref 22)]) (by decide) (by intro v hv; simp only [List.mem_cons, List.not_mem_nil, or_false] at hv; rw [hv]; rfl) (Nat.le_of_ble_eq_true rfl) rfl ?_
  unfold F_Bit_left at hF
  refine Ev_aload_n d_Bit_left_0 rfl ?_
  refine g_Bit_15 rfl d_Bit_left_1 ?_
  refine Ev_aload_n d_Bit_left_4 rfl ?_
  refine g_Bit_19 rfl d_Bit_left_5 ?_
  refine Ev_isub d_Bit_left_8 ?_
  cases hF
  exact Ev_ireturn d_Bit_left_9 rfl hQ
def F_Bit_isSound_12 (s0 : Int32) (c : x_S) : Option (Int32 × x_S) := x_b01 s0 (some (s0, c))
theorem T_Bit_isSound_12 {E : x_E} {o : x_S} {Q : Int32 → x_H → Prop} {l0 : Option Value} {s0 : Int32} {c : x_S} {r : Int32} {s : x_S} (hF : F_Bit_isSound_12 s0 c = some (r, s)) (hQ : Q r (hpk s o)) : Ev E m_Bit_isSound 0 0 12 [l0] [.int s0] (hpk c o) Q := by
  unfold F_Bit_isSound_12 at hF
  obtain ⟨hb1, hF⟩ := x_b01_some hF
  cases hF
  exact Ev_zreturn d_Bit_isSound_12 rfl hb1 hQ
def F_Bit_isSound (c : x_S) : Option (Int32 × x_S) := if (c 22 3) = 0 then (F_Bit_isSound_12 (1 : Int32) c) else (F_Bit_isSound_12 (0 : Int32) c)
theorem C_Bit_isSound {E : x_E} {o : x_S} {Q : Int32 → x_H → Prop} {c : x_S} {r : Int32} {s : x_S} (hF : F_Bit_isSound c = some (r, s)) (hQ : Q r (hpk s o)) : Call E m_Bit_isSound 0 0 [.ref 22] (hpk c o) Q := by
  refine Call_of (L := [some (.ref 22)]) (by decide) (by intro v hv; simp only [List.mem_cons, List.not_mem_nil, or_false] at hv; rw [hv]; rfl) (Nat.le_of_ble_eq_true rfl) rfl ?_
  unfold F_Bit_isSound at hF
  refine Ev_aload_n d_Bit_isSound_0 rfl ?_
  refine g_Bit_22 rfl d_Bit_isSound_1 ?_
  refine Ev_if_ne (tgt := 11) d_Bit_isSound_4 rfl (fun h1 => ?_) (fun h1 => ?_)
  · rw [if_neg h1] at hF
    refine Ev_iconst (v := 0) d_Bit_isSound_11 (by decide) ?_
    exact T_Bit_isSound_12 hF hQ
  · rw [if_pos h1] at hF
    refine Ev_iconst (v := 1) d_Bit_isSound_7 (by decide) ?_
    refine Ev_goto (tgt := 12) d_Bit_isSound_8 rfl ?_
    exact T_Bit_isSound_12 hF hQ
def F_Bit_need_16 (c : x_S) : Option (Int32 × x_S) := some (0, c)
theorem T_Bit_need_16 {E : x_E} {o : x_S} {Q : Int32 → x_H → Prop} {l0 : Option Value} {l1 : Option Value} {l2 : Option Value} {c : x_S} {r : Int32} {s : x_S} (hF : F_Bit_need_16 c = some (r, s)) (hQ : Q r (hpk s o)) : Ev E m_Bit_need 0 0 16 [l0, l1, l2] [] (hpk c o) Q := by
  unfold F_Bit_need_16 at hF
  cases hF
  exact Ev_return d_Bit_need_16 rfl hQ
def F_Bit_need (x1 x2 : Int32) (c : x_S) : Option (Int32 × x_S) := if (c 22 3) = 0 then (if x1 = 0 then (F_Bit_need_16 (x_up c 22 3 x2)) else (F_Bit_need_16 c)) else (F_Bit_need_16 c)
theorem C_Bit_need {E : x_E} {o : x_S} {Q : Int32 → x_H → Prop} {x1 x2 : Int32} {c : x_S} {r : Int32} {s : x_S} (hF : F_Bit_need x1 x2 c = some (r, s)) (hQ : Q r (hpk s o)) : Call E m_Bit_need 0 0 [.ref 22, .int x1, .int x2] (hpk c o) Q := by
  refine Call_of (L := [some (.ref 22), some (.int x1), some (.int x2)]) (by decide) (by intro v hv; simp only [List.mem_cons, List.not_mem_nil, or_false] at hv; rcases hv with rfl | rfl | rfl <;> rfl) (Nat.le_of_ble_eq_true rfl) rfl ?_
  unfold F_Bit_need at hF
  refine Ev_aload_n d_Bit_need_0 rfl ?_
  refine g_Bit_22 rfl d_Bit_need_1 ?_
  refine Ev_if_ne (tgt := 16) d_Bit_need_4 rfl (fun h1 => ?_) (fun h1 => ?_)
  · rw [if_neg h1] at hF
    exact T_Bit_need_16 hF hQ
  · rw [if_pos h1] at hF
    refine Ev_iload_n d_Bit_need_7 rfl ?_
    refine Ev_if_ne (tgt := 16) d_Bit_need_8 rfl (fun h2 => ?_) (fun h2 => ?_)
    · rw [if_neg h2] at hF
      exact T_Bit_need_16 hF hQ
    · rw [if_pos h2] at hF
      refine Ev_aload_n d_Bit_need_11 rfl ?_
      refine Ev_iload_n d_Bit_need_12 rfl ?_
      refine q_Bit_22 rfl d_Bit_need_13 ?_
      exact T_Bit_need_16 hF hQ
def F_Bit_take_67 (K : Int32 → Int32 → Int32 → x_S → Option (Int32 × x_S)) (x1 x2 x3 : Int32) (c : x_S) : Option (Int32 × x_S) := K x1 x2 (x3 + (1 : Int32)) c
theorem T_Bit_take_67 {E : x_E} {o : x_S} {Q : Int32 → x_H → Prop} {K : Int32 → Int32 → Int32 → x_S → Option (Int32 × x_S)} (hK : ∀ {x1 x2 x3 : Int32} {c : x_S} {r : Int32} {s : x_S}, K x1 x2 x3 c = some (r, s) → Q r (hpk s o) → Ev E m_Bit_take 0 0 38 [some (.ref 22), some (.int x1), some (.int x2), some (.int x3)] [] (hpk c o) Q) {x1 x2 x3 : Int32} {c : x_S} {r : Int32} {s : x_S} (hF : F_Bit_take_67 K x1 x2 x3 c = some (r, s)) (hQ : Q r (hpk s o)) : Ev E m_Bit_take 0 0 67 [some (.ref 22), some (.int x1), some (.int x2), some (.int x3)] [] (hpk c o) Q := by
  unfold F_Bit_take_67 at hF
  refine Ev_iinc (v := (x3 + (1 : Int32))) (L' := [some (.ref 22), some (.int x1), some (.int x2), some (.int (x3 + (1 : Int32)))]) d_Bit_take_67 rfl rfl (by decide) rfl ?_
  refine Ev_goto (tgt := 38) d_Bit_take_70 rfl ?_
  exact hK hF hQ
def F_Bit_take_38 : Nat → Int32 → Int32 → Int32 → x_S → Option (Int32 × x_S)
  | 0, _, _, _, _ => none
  | n + 1, x1, x2, x3, c => if x1 ≤ x3 then (some (x2, c)) else (x_ix (c 22 2) 600 (fun j2 => F_Bit_take_67 (F_Bit_take_38 n) x1 (((2 : Int32) * x2) + (c 23 j2)) x3 (x_up c 22 2 ((c 22 2) + (1 : Int32)))))
theorem T_Bit_take_38 {E : x_E} {o : x_S} {Q : Int32 → x_H → Prop} : ∀ (n : Nat) {x1 x2 x3 : Int32} {c : x_S} {r : Int32} {s : x_S}, F_Bit_take_38 n x1 x2 x3 c = some (r, s) → Q r (hpk s o) → Ev E m_Bit_take 0 0 38 [some (.ref 22), some (.int x1), some (.int x2), some (.int x3)] [] (hpk c o) Q := by
  intro n
  induction n with
  | zero => intro x1 x2 x3 c r s hF; rw [F_Bit_take_38] at hF; cases hF
  | succ n ih =>
    intro x1 x2 x3 c r s hF hQ
    rw [F_Bit_take_38] at hF
    refine Ev_iload_n d_Bit_take_38 rfl ?_
    refine Ev_iload_n d_Bit_take_39 rfl ?_
    refine Ev_icmp_ge (tgt := 73) d_Bit_take_40 rfl (fun h1 => ?_) (fun h1 => ?_)
    · rw [if_pos h1] at hF
      refine Ev_iload_n d_Bit_take_73 rfl ?_
      cases hF
      exact Ev_ireturn d_Bit_take_74 rfl hQ
    · rw [if_neg h1] at hF
      refine Ev_iconst (v := 2) d_Bit_take_43 (by decide) ?_
      refine Ev_iload_n d_Bit_take_44 rfl ?_
      refine Ev_imul d_Bit_take_45 ?_
      refine Ev_aload_n d_Bit_take_46 rfl ?_
      refine g_Bit_9 rfl d_Bit_take_47 ?_
      refine Ev_aload_n d_Bit_take_50 rfl ?_
      refine g_Bit_19 rfl d_Bit_take_51 ?_
      obtain ⟨j2, hij2, hjj2, hF⟩ := x_ix_some hF
      refine Ec_bald d_Bit_take_54 (P := 23) (by decide) rfl hij2 hjj2 ?_
      refine Ev_iadd d_Bit_take_55 ?_
      refine Ev_istore_n (L' := [some (.ref 22), some (.int x1), some (.int (((2 : Int32) * x2) + (c 23 j2))), some (.int x3)]) d_Bit_take_56 (by decide) rfl ?_
      refine Ev_aload_n d_Bit_take_57 rfl ?_
      refine Ev_dup d_Bit_take_58 rfl ?_
      refine g_Bit_19 rfl d_Bit_take_59 ?_
      refine Ev_iconst (v := 1) d_Bit_take_62 (by decide) ?_
      refine Ev_iadd d_Bit_take_63 ?_
      refine q_Bit_19 rfl d_Bit_take_64 ?_
      exact T_Bit_take_67 (fun h1 h2 => ih h1 h2) hF hQ
def F_Bit_take_25 (x1 : Int32) (c : x_S) : Option (Int32 × x_S) := if (c 22 3) = 0 then (F_Bit_take_38 x_fuel x1 (0 : Int32) (0 : Int32) c) else (some ((0 : Int32), c))
theorem T_Bit_take_25 {E : x_E} {o : x_S} {Q : Int32 → x_H → Prop} {l2 : Option Value} {l3 : Option Value} {x1 : Int32} {c : x_S} {r : Int32} {s : x_S} (hF : F_Bit_take_25 x1 c = some (r, s)) (hQ : Q r (hpk s o)) : Ev E m_Bit_take 0 0 25 [some (.ref 22), some (.int x1), l2, l3] [] (hpk c o) Q := by
  unfold F_Bit_take_25 at hF
  refine Ev_aload_n d_Bit_take_25 rfl ?_
  refine g_Bit_22 rfl d_Bit_take_26 ?_
  refine Ev_if_eq (tgt := 34) d_Bit_take_29 rfl (fun h1 => ?_) (fun h1 => ?_)
  · rw [if_pos h1] at hF
    refine Ev_iconst (v := 0) d_Bit_take_34 (by decide) ?_
    refine Ev_istore_n (L' := [some (.ref 22), some (.int x1), some (.int (0 : Int32)), l3]) d_Bit_take_35 (by decide) rfl ?_
    refine Ev_iconst (v := 0) d_Bit_take_36 (by decide) ?_
    refine Ev_istore_n (L' := [some (.ref 22), some (.int x1), some (.int (0 : Int32)), some (.int (0 : Int32))]) d_Bit_take_37 (by decide) rfl ?_
    exact T_Bit_take_38 x_fuel hF hQ
  · rw [if_neg h1] at hF
    refine Ev_iconst (v := 0) d_Bit_take_32 (by decide) ?_
    cases hF
    exact Ev_ireturn d_Bit_take_33 rfl hQ
def F_Bit_take (x1 : Int32) (c : x_S) : Option (Int32 × x_S) := if (c 22 3) = 0 then (if x1 ≤ ((c 22 1) - (c 22 2)) then (F_Bit_take_25 x1 c) else (F_Bit_take_25 x1 (x_up c 22 3 (2 : Int32)))) else (F_Bit_take_25 x1 c)
theorem C_Bit_take {E : x_E} {o : x_S} {Q : Int32 → x_H → Prop} {x1 : Int32} {c : x_S} {r : Int32} {s : x_S} (hF : F_Bit_take x1 c = some (r, s)) (hQ : Q r (hpk s o)) : Call E m_Bit_take 0 0 [.ref 22, .int x1] (hpk c o) Q := by
  refine Call_of (L := [some (.ref 22), some (.int x1), none, none]) (by decide) (by intro v hv; simp only [List.mem_cons, List.not_mem_nil, or_false] at hv; rcases hv with rfl | rfl <;> rfl) (Nat.le_of_ble_eq_true rfl) rfl ?_
  unfold F_Bit_take at hF
  refine Ev_aload_n d_Bit_take_0 rfl ?_
  refine g_Bit_22 rfl d_Bit_take_1 ?_
  refine Ev_if_ne (tgt := 25) d_Bit_take_4 rfl (fun h1 => ?_) (fun h1 => ?_)
  · rw [if_neg h1] at hF
    exact T_Bit_take_25 hF hQ
  · rw [if_pos h1] at hF
    refine Ev_iload_n d_Bit_take_7 rfl ?_
    refine Ev_aload_n d_Bit_take_8 rfl ?_
    refine g_Bit_15 rfl d_Bit_take_9 ?_
    refine Ev_aload_n d_Bit_take_12 rfl ?_
    refine g_Bit_19 rfl d_Bit_take_13 ?_
    refine Ev_isub d_Bit_take_16 ?_
    refine Ev_icmp_le (tgt := 25) d_Bit_take_17 rfl (fun h2 => ?_) (fun h2 => ?_)
    · rw [if_pos h2] at hF
      exact T_Bit_take_25 hF hQ
    · rw [if_neg h2] at hF
      refine Ev_aload_n d_Bit_take_20 rfl ?_
      refine Ev_iconst (v := 2) d_Bit_take_21 (by decide) ?_
      refine q_Bit_22 rfl d_Bit_take_22 ?_
      exact T_Bit_take_25 hF hQ
