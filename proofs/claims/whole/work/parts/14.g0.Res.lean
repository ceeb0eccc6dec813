/-! printed by wip/gen/gen4.py: TrainGuard$Restrictions -/
def F_Res_indexOf_37 (c : x_S) : Option (Int32 × x_S) := some ((-1 : Int32), c)
theorem T_Res_indexOf_37 {E : x_E} {o : x_S} {Q : Int32 → x_H → Prop} {l0 : Option Value} {l1 : Option Value} {l2 : Option Value} {c : x_S} {r : Int32} {s : x_S} (hF : F_Res_indexOf_37 c = some (r, s)) (hQ : Q r (hpk s o)) : Ev E m_Res_indexOf 0 0 37 [l0, l1, l2] [] (hpk c o) Q := by
  unfold F_Res_indexOf_37 at hF
  refine Ev_iconst (v := (-1)) d_Res_indexOf_37 (by decide) ?_
  cases hF
  exact Ev_ireturn d_Res_indexOf_38 rfl hQ
def F_Res_indexOf_2 : Nat → Int32 → Int32 → x_S → Option (Int32 × x_S)
  | 0, _, _, _ => none
  | n + 1, x1, x2, c => if (6 : Int32) ≤ x2 then (F_Res_indexOf_37 c) else (if (c 13 3) ≤ x2 then (F_Res_indexOf_37 c) else (x_ix x2 6 (fun j3 => if (c 12 j3) = x1 then (some (x2, c)) else (F_Res_indexOf_2 n x1 (x2 + (1 : Int32)) c))))
theorem T_Res_indexOf_2 {E : x_E} {o : x_S} {Q : Int32 → x_H → Prop} : ∀ (n : Nat) {x1 x2 : Int32} {c : x_S} {r : Int32} {s : x_S}, F_Res_indexOf_2 n x1 x2 c = some (r, s) → Q r (hpk s o) → Ev E m_Res_indexOf 0 0 2 [some (.ref 11), some (.int x1), some (.int x2)] [] (hpk c o) Q := by
  intro n
  induction n with
  | zero => intro x1 x2 c r s hF; rw [F_Res_indexOf_2] at hF; cases hF
  | succ n ih =>
    intro x1 x2 c r s hF hQ
    rw [F_Res_indexOf_2] at hF
    refine Ev_iload_n d_Res_indexOf_2 rfl ?_
    refine Ev_bipush (v := (6)) d_Res_indexOf_3 (by decide) ?_
    refine Ev_icmp_ge (tgt := 37) d_Res_indexOf_5 rfl (fun h1 => ?_) (fun h1 => ?_)
    · rw [if_pos h1] at hF
      exact T_Res_indexOf_37 hF hQ
    · rw [if_neg h1] at hF
      refine Ev_iload_n d_Res_indexOf_8 rfl ?_
      refine Ev_aload_n d_Res_indexOf_9 rfl ?_
      refine g_Res_18 rfl d_Res_indexOf_10 ?_
      refine g_Res_22 (p := 13) (by simp [x_span]) rfl d_Res_indexOf_13 ?_
      refine Ev_icmp_ge (tgt := 37) d_Res_indexOf_16 rfl (fun h2 => ?_) (fun h2 => ?_)
      · rw [if_pos h2] at hF
        exact T_Res_indexOf_37 hF hQ
      · rw [if_neg h2] at hF
        refine Ev_aload_n d_Res_indexOf_19 rfl ?_
        refine g_Res_9 rfl d_Res_indexOf_20 ?_
        refine Ev_iload_n d_Res_indexOf_23 rfl ?_
        obtain ⟨j3, hij3, hjj3, hF⟩ := x_ix_some hF
        refine Ec_iald d_Res_indexOf_24 (P := 12) (by decide) rfl hij3 hjj3 ?_
        refine Ev_iload_n d_Res_indexOf_25 rfl ?_
        refine Ev_icmp_ne (tgt := 31) d_Res_indexOf_26 rfl (fun h4 => ?_) (fun h4 => ?_)
        · rw [if_neg h4] at hF
          refine Ev_iinc (v := (x2 + (1 : Int32))) (L' := [some (.ref 11), some (.int x1), some (.int (x2 + (1 : Int32)))]) d_Res_indexOf_31 rfl rfl (by decide) rfl ?_
          refine Ev_goto (tgt := 2) d_Res_indexOf_34 rfl ?_
          exact ih hF hQ
        · rw [if_pos h4] at hF
          refine Ev_iload_n d_Res_indexOf_29 rfl ?_
          cases hF
          exact Ev_ireturn d_Res_indexOf_30 rfl hQ
def F_Res_indexOf (x1 : Int32) (c : x_S) : Option (Int32 × x_S) := F_Res_indexOf_2 x_fuel x1 (0 : Int32) c
theorem C_Res_indexOf {E : x_E} {o : x_S} {Q : Int32 → x_H → Prop} {x1 : Int32} {c : x_S} {r : Int32} {s : x_S} (hF : F_Res_indexOf x1 c = some (r, s)) (hQ : Q r (hpk s o)) : Call E m_Res_indexOf 0 0 [.ref 11, .int x1] (hpk c o) Q := by
  refine Call_of (L := [some (.ref 11), some (.int x1), none]) (by decide) (by intro v hv; simp only [List.mem_cons, List.not_mem_nil, or_false] at hv; rcases hv with rfl | rfl <;> rfl) (Nat.le_of_ble_eq_true rfl) rfl ?_
  unfold F_Res_indexOf at hF
  refine Ev_iconst (v := 0) d_Res_indexOf_0 (by decide) ?_
  refine Ev_istore_n (L' := [some (.ref 11), some (.int x1), some (.int (0 : Int32))]) d_Res_indexOf_1 (by decide) rfl ?_
  exact T_Res_indexOf_2 x_fuel hF hQ
def F_Res_hasRoom_33 (s0 : Int32) (c : x_S) : Option (Int32 × x_S) := x_b01 s0 (some (s0, c))
theorem T_Res_hasRoom_33 {E : x_E} {o : x_S} {Q : Int32 → x_H → Prop} {l0 : Option Value} {l1 : Option Value} {l2 : Option Value} {s0 : Int32} {c : x_S} {r : Int32} {s : x_S} (hF : F_Res_hasRoom_33 s0 c = some (r, s)) (hQ : Q r (hpk s o)) : Ev E m_Res_hasRoom 0 0 33 [l0, l1, l2] [.int s0] (hpk c o) Q := by
  unfold F_Res_hasRoom_33 at hF
  obtain ⟨hb1, hF⟩ := x_b01_some hF
  cases hF
  exact Ev_zreturn d_Res_hasRoom_33 rfl hb1 hQ
def F_Res_hasRoom_28 (c : x_S) : Option (Int32 × x_S) := F_Res_hasRoom_33 (1 : Int32) c
theorem T_Res_hasRoom_28 {E : x_E} {o : x_S} {Q : Int32 → x_H → Prop} {l0 : Option Value} {l1 : Option Value} {l2 : Option Value} {c : x_S} {r : Int32} {s : x_S} (hF : F_Res_hasRoom_28 c = some (r, s)) (hQ : Q r (hpk s o)) : Ev E m_Res_hasRoom 0 0 28 [l0, l1, l2] [] (hpk c o) Q := by
  unfold F_Res_hasRoom_28 at hF
  refine Ev_iconst (v := 1) d_Res_hasRoom_28 (by decide) ?_
  refine Ev_goto (tgt := 33) d_Res_hasRoom_29 rfl ?_
  exact T_Res_hasRoom_33 hF hQ
def F_Res_hasRoom_25 (s0 : Int32) (c : x_S) : Option (Int32 × x_S) := if s0 < 0 then (F_Res_hasRoom_33 (0 : Int32) c) else (F_Res_hasRoom_28 c)
theorem T_Res_hasRoom_25 {E : x_E} {o : x_S} {Q : Int32 → x_H → Prop} {l0 : Option Value} {l1 : Option Value} {l2 : Option Value} {s0 : Int32} {c : x_S} {r : Int32} {s : x_S} (hF : F_Res_hasRoom_25 s0 c = some (r, s)) (hQ : Q r (hpk s o)) : Ev E m_Res_hasRoom 0 0 25 [l0, l1, l2] [.int s0] (hpk c o) Q := by
  unfold F_Res_hasRoom_25 at hF
  refine Ev_if_lt (tgt := 32) d_Res_hasRoom_25 rfl (fun h1 => ?_) (fun h1 => ?_)
  · rw [if_pos h1] at hF
    refine Ev_iconst (v := 0) d_Res_hasRoom_32 (by decide) ?_
    exact T_Res_hasRoom_33 hF hQ
  · rw [if_neg h1] at hF
    exact T_Res_hasRoom_28 hF hQ
def F_Res_hasRoom_17 (x2 s0 : Int32) (c : x_S) : Option (Int32 × x_S) := if 0 ≤ s0 then (F_Res_hasRoom_28 c) else (x_bind (F_Res_indexOf x2 c) (fun r2 c2 => F_Res_hasRoom_25 r2 c2))
theorem T_Res_hasRoom_17 {E : x_E} {o : x_S} {Q : Int32 → x_H → Prop} {l1 : Option Value} {x2 s0 : Int32} {c : x_S} {r : Int32} {s : x_S} (hF : F_Res_hasRoom_17 x2 s0 c = some (r, s)) (hQ : Q r (hpk s o)) : Ev E m_Res_hasRoom 0 0 17 [some (.ref 11), l1, some (.int x2)] [.int s0] (hpk c o) Q := by
  unfold F_Res_hasRoom_17 at hF
  refine Ev_if_ge (tgt := 28) d_Res_hasRoom_17 rfl (fun h1 => ?_) (fun h1 => ?_)
  · rw [if_pos h1] at hF
    exact T_Res_hasRoom_28 hF hQ
  · rw [if_neg h1] at hF
    refine Ev_aload_n d_Res_hasRoom_20 rfl ?_
    refine Ev_iload_n d_Res_hasRoom_21 rfl ?_
    obtain ⟨r2, c2, hC, hF⟩ := x_bind_some hF
    refine k_Res_26 rfl d_Res_hasRoom_22 ⟨by decide, by decide⟩ (Nat.le_of_ble_eq_true rfl) ?_
    exact C_Res_indexOf hC (T_Res_hasRoom_25 hF hQ)
def F_Res_hasRoom (x1 x2 : Int32) (c : x_S) : Option (Int32 × x_S) := if (c 13 3) < (6 : Int32) then (F_Res_hasRoom_28 c) else (x_bind (F_Res_indexOf x1 c) (fun r2 c2 => F_Res_hasRoom_17 x2 r2 c2))
theorem C_Res_hasRoom {E : x_E} {o : x_S} {Q : Int32 → x_H → Prop} {x1 x2 : Int32} {c : x_S} {r : Int32} {s : x_S} (hF : F_Res_hasRoom x1 x2 c = some (r, s)) (hQ : Q r (hpk s o)) : Call E m_Res_hasRoom 0 0 [.ref 11, .int x1, .int x2] (hpk c o) Q := by
  refine Call_of (L := [some (.ref 11), some (.int x1), some (.int x2)]) (by decide) (by intro v hv; simp only [List.mem_cons, List.not_mem_nil, or_false] at hv; rcases hv with rfl | rfl | rfl <;> rfl) (Nat.le_of_ble_eq_true rfl) rfl ?_
  unfold F_Res_hasRoom at hF
  refine Ev_aload_n d_Res_hasRoom_0 rfl ?_
  refine g_Res_18 rfl d_Res_hasRoom_1 ?_
  refine g_Res_22 (p := 13) (by simp [x_span]) rfl d_Res_hasRoom_4 ?_
  refine Ev_bipush (v := (6)) d_Res_hasRoom_7 (by decide) ?_
  refine Ev_icmp_lt (tgt := 28) d_Res_hasRoom_9 rfl (fun h1 => ?_) (fun h1 => ?_)
  · rw [if_pos h1] at hF
    exact T_Res_hasRoom_28 hF hQ
  · rw [if_neg h1] at hF
    refine Ev_aload_n d_Res_hasRoom_12 rfl ?_
    refine Ev_iload_n d_Res_hasRoom_13 rfl ?_
    obtain ⟨r2, c2, hC, hF⟩ := x_bind_some hF
    refine k_Res_26 rfl d_Res_hasRoom_14 ⟨by decide, by decide⟩ (Nat.le_of_ble_eq_true rfl) ?_
    exact C_Res_indexOf hC (T_Res_hasRoom_17 hF hQ)
def F_Res_remove_36 (c : x_S) : Option (Int32 × x_S) := some (0, c)
theorem T_Res_remove_36 {E : x_E} {o : x_S} {Q : Int32 → x_H → Prop} {l0 : Option Value} {l1 : Option Value} {l2 : Option Value} {c : x_S} {r : Int32} {s : x_S} (hF : F_Res_remove_36 c = some (r, s)) (hQ : Q r (hpk s o)) : Ev E m_Res_remove 0 0 36 [l0, l1, l2] [] (hpk c o) Q := by
  unfold F_Res_remove_36 at hF
  cases hF
  exact Ev_return d_Res_remove_36 rfl hQ
def F_Res_remove_18 (x2 : Int32) (c : x_S) : Option (Int32 × x_S) := x_ix (c 13 3) 6 (fun j1 => x_ix x2 6 (fun j2 => F_Res_remove_36 (x_up c 12 j2 (c 12 j1))))
theorem T_Res_remove_18 {E : x_E} {o : x_S} {Q : Int32 → x_H → Prop} {l1 : Option Value} {x2 : Int32} {c : x_S} {r : Int32} {s : x_S} (hF : F_Res_remove_18 x2 c = some (r, s)) (hQ : Q r (hpk s o)) : Ev E m_Res_remove 0 0 18 [some (.ref 11), l1, some (.int x2)] [] (hpk c o) Q := by
  unfold F_Res_remove_18 at hF
  refine Ev_aload_n d_Res_remove_18 rfl ?_
  refine g_Res_9 rfl d_Res_remove_19 ?_
  refine Ev_iload_n d_Res_remove_22 rfl ?_
  refine Ev_aload_n d_Res_remove_23 rfl ?_
  refine g_Res_9 rfl d_Res_remove_24 ?_
  refine Ev_aload_n d_Res_remove_27 rfl ?_
  refine g_Res_18 rfl d_Res_remove_28 ?_
  refine g_Res_22 (p := 13) (by simp [x_span]) rfl d_Res_remove_31 ?_
  obtain ⟨j1, hij1, hjj1, hF⟩ := x_ix_some hF
  refine Ec_iald d_Res_remove_34 (P := 12) (by decide) rfl hij1 hjj1 ?_
  obtain ⟨j2, hij2, hjj2, hF⟩ := x_ix_some hF
  refine Ec_iast d_Res_remove_35 (P := 12) (by decide) rfl hij2 hjj2 ?_
  exact T_Res_remove_36 hF hQ
def F_Res_remove_5 (s0 : Int32) (c : x_S) : Option (Int32 × x_S) := if s0 < 0 then (F_Res_remove_36 c) else (x_bind (F_Spn_fillFromLast 13 s0 c) (fun _ c2 => F_Res_remove_18 s0 c2))
theorem T_Res_remove_5 {E : x_E} {o : x_S} {Q : Int32 → x_H → Prop} {l1 : Option Value} {l2 : Option Value} {s0 : Int32} {c : x_S} {r : Int32} {s : x_S} (hF : F_Res_remove_5 s0 c = some (r, s)) (hQ : Q r (hpk s o)) : Ev E m_Res_remove 0 0 5 [some (.ref 11), l1, l2] [.int s0] (hpk c o) Q := by
  unfold F_Res_remove_5 at hF
  refine Ev_istore_n (L' := [some (.ref 11), l1, some (.int s0)]) d_Res_remove_5 (by decide) rfl ?_
  refine Ev_iload_n d_Res_remove_6 rfl ?_
  refine Ev_if_lt (tgt := 36) d_Res_remove_7 rfl (fun h1 => ?_) (fun h1 => ?_)
  · rw [if_pos h1] at hF
    exact T_Res_remove_36 hF hQ
  · rw [if_neg h1] at hF
    refine Ev_aload_n d_Res_remove_10 rfl ?_
    refine g_Res_18 rfl d_Res_remove_11 ?_
    refine Ev_iload_n d_Res_remove_14 rfl ?_
    obtain ⟨r2, c2, hC, hF⟩ := x_bind_some hF
    refine k_Res_30 (by simp [x_span]) rfl d_Res_remove_15 ⟨by decide, by decide⟩ (Nat.le_of_ble_eq_true rfl) ?_
    exact C_Spn_fillFromLast (by simp [x_span]) hC (T_Res_remove_18 hF hQ)
def F_Res_remove (x1 : Int32) (c : x_S) : Option (Int32 × x_S) := x_bind (F_Res_indexOf x1 c) (fun r1 c1 => F_Res_remove_5 r1 c1)
theorem C_Res_remove {E : x_E} {o : x_S} {Q : Int32 → x_H → Prop} {x1 : Int32} {c : x_S} {r : Int32} {s : x_S} (hF : F_Res_remove x1 c = some (r, s)) (hQ : Q r (hpk s o)) : Call E m_Res_remove 0 0 [.ref 11, .int x1] (hpk c o) Q := by
  refine Call_of (L := [some (.ref 11), some (.int x1), none]) (by decide) (by intro v hv; simp only [List.mem_cons, List.not_mem_nil, or_false] at hv; rcases hv with rfl | rfl <;> rfl) (Nat.le_of_ble_eq_true rfl) rfl ?_
  unfold F_Res_remove at hF
  refine Ev_aload_n d_Res_remove_0 rfl ?_
  refine Ev_iload_n d_Res_remove_1 rfl ?_
  obtain ⟨r1, c1, hC, hF⟩ := x_bind_some hF
  refine k_Res_26 rfl d_Res_remove_2 ⟨by decide, by decide⟩ (Nat.le_of_ble_eq_true rfl) ?_
  exact C_Res_indexOf hC (T_Res_remove_5 hF hQ)
def F_Res_put_45 (c : x_S) : Option (Int32 × x_S) := some (0, c)
theorem T_Res_put_45 {E : x_E} {o : x_S} {Q : Int32 → x_H → Prop} {l0 : Option Value} {l1 : Option Value} {l2 : Option Value} {l3 : Option Value} {l4 : Option Value} {c : x_S} {r : Int32} {s : x_S} (hF : F_Res_put_45 c = some (r, s)) (hQ : Q r (hpk s o)) : Ev E m_Res_put 0 0 45 [l0, l1, l2, l3, l4] [] (hpk c o) Q := by
  unfold F_Res_put_45 at hF
  cases hF
  exact Ev_return d_Res_put_45 rfl hQ
def F_Res_put_30 (x2 x3 x4 : Int32) (c : x_S) : Option (Int32 × x_S) := x_bind (F_Spn_add 13 x2 ((x2 + x3) - (1 : Int32)) x4 c) (fun _ c1 => F_Res_put_45 c1)
theorem T_Res_put_30 {E : x_E} {o : x_S} {Q : Int32 → x_H → Prop} {l1 : Option Value} {x2 x3 x4 : Int32} {c : x_S} {r : Int32} {s : x_S} (hF : F_Res_put_30 x2 x3 x4 c = some (r, s)) (hQ : Q r (hpk s o)) : Ev E m_Res_put 0 0 30 [some (.ref 11), l1, some (.int x2), some (.int x3), some (.int x4)] [] (hpk c o) Q := by
  unfold F_Res_put_30 at hF
  refine Ev_aload_n d_Res_put_30 rfl ?_
  refine g_Res_18 rfl d_Res_put_31 ?_
  refine Ev_iload_n d_Res_put_34 rfl ?_
  refine Ev_iload_n d_Res_put_35 rfl ?_
  refine Ev_iload_n d_Res_put_36 rfl ?_
  refine Ev_iadd d_Res_put_37 ?_
  refine Ev_iconst (v := 1) d_Res_put_38 (by decide) ?_
  refine Ev_isub d_Res_put_39 ?_
  refine Ev_iload d_Res_put_40 rfl ?_
  obtain ⟨r1, c1, hC, hF⟩ := x_bind_some hF
  refine k_Res_37 (by simp [x_span]) rfl d_Res_put_42 ⟨by decide, by decide⟩ (Nat.le_of_ble_eq_true rfl) ?_
  exact C_Spn_add (by simp [x_span]) hC (T_Res_put_45 hF hQ)
def F_Res_put_5 (x1 x2 x3 x4 : Int32) (c : x_S) : Option (Int32 × x_S) := if (6 : Int32) ≤ (c 13 3) then (F_Res_put_45 c) else (x_ix (c 13 3) 6 (fun j2 => F_Res_put_30 x2 x3 x4 (x_up c 12 j2 x1)))
theorem T_Res_put_5 {E : x_E} {o : x_S} {Q : Int32 → x_H → Prop} {x1 x2 x3 x4 : Int32} {c : x_S} {r : Int32} {s : x_S} (hF : F_Res_put_5 x1 x2 x3 x4 c = some (r, s)) (hQ : Q r (hpk s o)) : Ev E m_Res_put 0 0 5 [some (.ref 11), some (.int x1), some (.int x2), some (.int x3), some (.int x4)] [] (hpk c o) Q := by
  unfold F_Res_put_5 at hF
  refine Ev_aload_n d_Res_put_5 rfl ?_
  refine g_Res_18 rfl d_Res_put_6 ?_
  refine g_Res_22 (p := 13) (by simp [x_span]) rfl d_Res_put_9 ?_
  refine Ev_bipush (v := (6)) d_Res_put_12 (by decide) ?_
  refine Ev_icmp_ge (tgt := 45) d_Res_put_14 rfl (fun h1 => ?_) (fun h1 => ?_)
  · rw [if_pos h1] at hF
    exact T_Res_put_45 hF hQ
  · rw [if_neg h1] at hF
    refine Ev_aload_n d_Res_put_17 rfl ?_
    refine g_Res_9 rfl d_Res_put_18 ?_
    refine Ev_aload_n d_Res_put_21 rfl ?_
    refine g_Res_18 rfl d_Res_put_22 ?_
    refine g_Res_22 (p := 13) (by simp [x_span]) rfl d_Res_put_25 ?_
    refine Ev_iload_n d_Res_put_28 rfl ?_
    obtain ⟨j2, hij2, hjj2, hF⟩ := x_ix_some hF
    refine Ec_iast d_Res_put_29 (P := 12) (by decide) rfl hij2 hjj2 ?_
    exact T_Res_put_30 hF hQ
def F_Res_put (x1 x2 x3 x4 : Int32) (c : x_S) : Option (Int32 × x_S) := x_bind (F_Res_remove x1 c) (fun _ c1 => F_Res_put_5 x1 x2 x3 x4 c1)
theorem C_Res_put {E : x_E} {o : x_S} {Q : Int32 → x_H → Prop} {x1 x2 x3 x4 : Int32} {c : x_S} {r : Int32} {s : x_S} (hF : F_Res_put x1 x2 x3 x4 c = some (r, s)) (hQ : Q r (hpk s o)) : Call E m_Res_put 0 0 [.ref 11, .int x1, .int x2, .int x3, .int x4] (hpk c o) Q := by
  refine Call_of (L := [some (.ref 11), some (.int x1), some (.int x2), some (.int x3), some (.int x4)]) (by decide) (by intro v hv; simp only [List.mem_cons, List.not_mem_nil, or_false] at hv; rcases hv with rfl | rfl | rfl | rfl | rfl <;> rfl) (Nat.le_of_ble_eq_true rfl) rfl ?_
  unfold F_Res_put at hF
  refine Ev_aload_n d_Res_put_0 rfl ?_
  refine Ev_iload_n d_Res_put_1 rfl ?_
  obtain ⟨r1, c1, hC, hF⟩ := x_bind_some hF
  refine k_Res_34 rfl d_Res_put_2 ⟨by decide, by decide⟩ (Nat.le_of_ble_eq_true rfl) ?_
  exact C_Res_remove hC (T_Res_put_5 hF hQ)
