/-! printed by wip/gen/gen4.py: TrainGuard$SpanRow -/
def F_Spn_isEmpty_12 (p0 : Nat) (s0 : Int32) (c : x_S) : Option (Int32 × x_S) := x_b01 s0 (some (s0, c))
theorem T_Spn_isEmpty_12 {E : x_E} {o : x_S} {Q : Int32 → x_H → Prop} {p0 : Nat} (hp0 : x_span p0) {l0 : Option Value} {s0 : Int32} {c : x_S} {r : Int32} {s : x_S} (hF : F_Spn_isEmpty_12 p0 s0 c = some (r, s)) (hQ : Q r (hpk s o)) : Ev E m_Spn_isEmpty 0 0 12 [l0] [.int s0] (hpk c o) Q := by
  unfold F_Spn_isEmpty_12 at hF
  obtain ⟨hb1, hF⟩ := x_b01_some hF
  cases hF
  exact Ev_zreturn d_Spn_isEmpty_12 rfl hb1 hQ
def F_Spn_isEmpty (p0 : Nat) (c : x_S) : Option (Int32 × x_S) := if (c p0 3) = 0 then (F_Spn_isEmpty_12 p0 (1 : Int32) c) else (F_Spn_isEmpty_12 p0 (0 : Int32) c)
theorem C_Spn_isEmpty {E : x_E} {o : x_S} {Q : Int32 → x_H → Prop} {p0 : Nat} (hp0 : x_span p0) {c : x_S} {r : Int32} {s : x_S} (hF : F_Spn_isEmpty p0 c = some (r, s)) (hQ : Q r (hpk s o)) : Call E m_Spn_isEmpty 0 0 [.ref p0] (hpk c o) Q := by
  refine Call_of (L := [some (.ref p0)]) (by decide) (by intro v hv; simp only [List.mem_cons, List.not_mem_nil, or_false] at hv; rw [hv]; rfl) (Nat.le_of_ble_eq_true rfl) rfl ?_
  unfold F_Spn_isEmpty at hF
  refine Ev_aload_n d_Spn_isEmpty_0 rfl ?_
  refine g_Spn_21 hp0 rfl d_Spn_isEmpty_1 ?_
  refine Ev_if_ne (tgt := 11) d_Spn_isEmpty_4 rfl (fun h1 => ?_) (fun h1 => ?_)
  · rw [if_neg h1] at hF
    refine Ev_iconst (v := 0) d_Spn_isEmpty_11 (by decide) ?_
    exact T_Spn_isEmpty_12 hp0 hF hQ
  · rw [if_pos h1] at hF
    refine Ev_iconst (v := 1) d_Spn_isEmpty_7 (by decide) ?_
    refine Ev_goto (tgt := 12) d_Spn_isEmpty_8 rfl ?_
    exact T_Spn_isEmpty_12 hp0 hF hQ
def F_Spn_clear_5 (p0 : Nat) (c : x_S) : Option (Int32 × x_S) := some (0, c)
theorem T_Spn_clear_5 {E : x_E} {o : x_S} {Q : Int32 → x_H → Prop} {p0 : Nat} (hp0 : x_span p0) {l0 : Option Value} {c : x_S} {r : Int32} {s : x_S} (hF : F_Spn_clear_5 p0 c = some (r, s)) (hQ : Q r (hpk s o)) : Ev E m_Spn_clear 0 0 5 [l0] [] (hpk c o) Q := by
  unfold F_Spn_clear_5 at hF
  cases hF
  exact Ev_return d_Spn_clear_5 rfl hQ
def F_Spn_clear (p0 : Nat) (c : x_S) : Option (Int32 × x_S) := F_Spn_clear_5 p0 (x_up c p0 3 (0 : Int32))
theorem C_Spn_clear {E : x_E} {o : x_S} {Q : Int32 → x_H → Prop} {p0 : Nat} (hp0 : x_span p0) {c : x_S} {r : Int32} {s : x_S} (hF : F_Spn_clear p0 c = some (r, s)) (hQ : Q r (hpk s o)) : Call E m_Spn_clear 0 0 [.ref p0] (hpk c o) Q := by
  refine Call_of (L := [some (.ref p0)]) (by decide) (by intro v hv; simp only [List.mem_cons, List.not_mem_nil, or_false] at hv; rw [hv]; rfl) (Nat.le_of_ble_eq_true rfl) rfl ?_
  unfold F_Spn_clear at hF
  refine Ev_aload_n d_Spn_clear_0 rfl ?_
  refine Ev_iconst (v := 0) d_Spn_clear_1 (by decide) ?_
  refine q_Spn_21 hp0 rfl d_Spn_clear_2 ?_
  exact T_Spn_clear_5 hp0 hF hQ
def F_Spn_add_49 (p0 : Nat) (c : x_S) : Option (Int32 × x_S) := some (0, c)
theorem T_Spn_add_49 {E : x_E} {o : x_S} {Q : Int32 → x_H → Prop} {p0 : Nat} (hp0 : x_span p0) {l0 : Option Value} {l1 : Option Value} {l2 : Option Value} {l3 : Option Value} {c : x_S} {r : Int32} {s : x_S} (hF : F_Spn_add_49 p0 c = some (r, s)) (hQ : Q r (hpk s o)) : Ev E m_Spn_add 0 0 49 [l0, l1, l2, l3] [] (hpk c o) Q := by
  unfold F_Spn_add_49 at hF
  cases hF
  exact Ev_return d_Spn_add_49 rfl hQ
def F_Spn_add_39 (p0 : Nat) (c : x_S) : Option (Int32 × x_S) := F_Spn_add_49 p0 (x_up c p0 3 ((c p0 3) + (1 : Int32)))
theorem T_Spn_add_39 {E : x_E} {o : x_S} {Q : Int32 → x_H → Prop} {p0 : Nat} (hp0 : x_span p0) {l1 : Option Value} {l2 : Option Value} {l3 : Option Value} {c : x_S} {r : Int32} {s : x_S} (hF : F_Spn_add_39 p0 c = some (r, s)) (hQ : Q r (hpk s o)) : Ev E m_Spn_add 0 0 39 [some (.ref p0), l1, l2, l3] [] (hpk c o) Q := by
  unfold F_Spn_add_39 at hF
  refine Ev_aload_n d_Spn_add_39 rfl ?_
  refine Ev_dup d_Spn_add_40 rfl ?_
  refine g_Spn_21 hp0 rfl d_Spn_add_41 ?_
  refine Ev_iconst (v := 1) d_Spn_add_44 (by decide) ?_
  refine Ev_iadd d_Spn_add_45 ?_
  refine q_Spn_21 hp0 rfl d_Spn_add_46 ?_
  exact T_Spn_add_49 hp0 hF hQ
def F_Spn_add_29 (p0 : Nat) (x3 : Int32) (c : x_S) : Option (Int32 × x_S) := x_ix (c p0 3) 7 (fun j1 => F_Spn_add_39 p0 (x_up c (p0 + 3) j1 x3))
theorem T_Spn_add_29 {E : x_E} {o : x_S} {Q : Int32 → x_H → Prop} {p0 : Nat} (hp0 : x_span p0) {l1 : Option Value} {l2 : Option Value} {x3 : Int32} {c : x_S} {r : Int32} {s : x_S} (hF : F_Spn_add_29 p0 x3 c = some (r, s)) (hQ : Q r (hpk s o)) : Ev E m_Spn_add 0 0 29 [some (.ref p0), l1, l2, some (.int x3)] [] (hpk c o) Q := by
  unfold F_Spn_add_29 at hF
  refine Ev_aload_n d_Spn_add_29 rfl ?_
  refine g_Spn_18 hp0 rfl d_Spn_add_30 ?_
  refine Ev_aload_n d_Spn_add_33 rfl ?_
  refine g_Spn_21 hp0 rfl d_Spn_add_34 ?_
  refine Ev_iload_n d_Spn_add_37 rfl ?_
  obtain ⟨j1, hij1, hjj1, hF⟩ := x_ix_some hF
  refine Ec_iast d_Spn_add_38 (P := (p0 + 3)) (x_spanA hp0 2 (by decide)).1 (x_spanA hp0 2 (by decide)).2 hij1 hjj1 ?_
  exact T_Spn_add_39 hp0 hF hQ
def F_Spn_add_19 (p0 : Nat) (x2 x3 : Int32) (c : x_S) : Option (Int32 × x_S) := x_ix (c p0 3) 7 (fun j1 => F_Spn_add_29 p0 x3 (x_up c (p0 + 2) j1 x2))
theorem T_Spn_add_19 {E : x_E} {o : x_S} {Q : Int32 → x_H → Prop} {p0 : Nat} (hp0 : x_span p0) {l1 : Option Value} {x2 x3 : Int32} {c : x_S} {r : Int32} {s : x_S} (hF : F_Spn_add_19 p0 x2 x3 c = some (r, s)) (hQ : Q r (hpk s o)) : Ev E m_Spn_add 0 0 19 [some (.ref p0), l1, some (.int x2), some (.int x3)] [] (hpk c o) Q := by
  unfold F_Spn_add_19 at hF
  refine Ev_aload_n d_Spn_add_19 rfl ?_
  refine g_Spn_15 hp0 rfl d_Spn_add_20 ?_
  refine Ev_aload_n d_Spn_add_23 rfl ?_
  refine g_Spn_21 hp0 rfl d_Spn_add_24 ?_
  refine Ev_iload_n d_Spn_add_27 rfl ?_
  obtain ⟨j1, hij1, hjj1, hF⟩ := x_ix_some hF
  refine Ec_iast d_Spn_add_28 (P := (p0 + 2)) (x_spanA hp0 1 (by decide)).1 (x_spanA hp0 1 (by decide)).2 hij1 hjj1 ?_
  exact T_Spn_add_29 hp0 hF hQ
def F_Spn_add (p0 : Nat) (x1 x2 x3 : Int32) (c : x_S) : Option (Int32 × x_S) := if (7 : Int32) ≤ (c p0 3) then (F_Spn_add_49 p0 c) else (x_ix (c p0 3) 7 (fun j2 => F_Spn_add_19 p0 x2 x3 (x_up c (p0 + 1) j2 x1)))
theorem C_Spn_add {E : x_E} {o : x_S} {Q : Int32 → x_H → Prop} {p0 : Nat} (hp0 : x_span p0) {x1 x2 x3 : Int32} {c : x_S} {r : Int32} {s : x_S} (hF : F_Spn_add p0 x1 x2 x3 c = some (r, s)) (hQ : Q r (hpk s o)) : Call E m_Spn_add 0 0 [.ref p0, .int x1, .int x2, .int x3] (hpk c o) Q := by
  refine Call_of (L := [some (.ref p0), some (.int x1), some (.int x2), some (.int x3)]) (by decide) (by intro v hv; simp only [List.mem_cons, List.not_mem_nil, or_false] at hv; rcases hv with rfl | rfl | rfl | rfl <;> rfl) (Nat.le_of_ble_eq_true rfl) rfl ?_
  unfold F_Spn_add at hF
  refine Ev_aload_n d_Spn_add_0 rfl ?_
  refine g_Spn_21 hp0 rfl d_Spn_add_1 ?_
  refine Ev_bipush (v := (7)) d_Spn_add_4 (by decide) ?_
  refine Ev_icmp_ge (tgt := 49) d_Spn_add_6 rfl (fun h1 => ?_) (fun h1 => ?_)
  · rw [if_pos h1] at hF
    exact T_Spn_add_49 hp0 hF hQ
  · rw [if_neg h1] at hF
    refine Ev_aload_n d_Spn_add_9 rfl ?_
    refine g_Spn_9 hp0 rfl d_Spn_add_10 ?_
    refine Ev_aload_n d_Spn_add_13 rfl ?_
    refine g_Spn_21 hp0 rfl d_Spn_add_14 ?_
    refine Ev_iload_n d_Spn_add_17 rfl ?_
    obtain ⟨j2, hij2, hjj2, hF⟩ := x_ix_some hF
    refine Ec_iast d_Spn_add_18 (P := (p0 + 1)) (x_spanA hp0 0 (by decide)).1 (x_spanA hp0 0 (by decide)).2 hij2 hjj2 ?_
    exact T_Spn_add_19 hp0 hF hQ
def F_Spn_addStep_29 (p0 : Nat) (c : x_S) : Option (Int32 × x_S) := some (0, c)
theorem T_Spn_addStep_29 {E : x_E} {o : x_S} {Q : Int32 → x_H → Prop} {p0 : Nat} (hp0 : x_span p0) {l0 : Option Value} {l1 : Option Value} {l2 : Option Value} {c : x_S} {r : Int32} {s : x_S} (hF : F_Spn_addStep_29 p0 c = some (r, s)) (hQ : Q r (hpk s o)) : Ev E m_Spn_addStep 0 0 29 [l0, l1, l2] [] (hpk c o) Q := by
  unfold F_Spn_addStep_29 at hF
  cases hF
  exact Ev_return d_Spn_addStep_29 rfl hQ
def F_Spn_addStep_21 (p0 : Nat) (x1 x2 : Int32) (c : x_S) : Option (Int32 × x_S) := x_bind (F_Spn_add p0 x1 (2147483647 : Int32) x2 c) (fun _ c1 => F_Spn_addStep_29 p0 c1)
theorem T_Spn_addStep_21 {E : x_E} {o : x_S} {Q : Int32 → x_H → Prop} {p0 : Nat} (hp0 : x_span p0) {x1 x2 : Int32} {c : x_S} {r : Int32} {s : x_S} (hF : F_Spn_addStep_21 p0 x1 x2 c = some (r, s)) (hQ : Q r (hpk s o)) : Ev E m_Spn_addStep 0 0 21 [some (.ref p0), some (.int x1), some (.int x2)] [] (hpk c o) Q := by
  unfold F_Spn_addStep_21 at hF
  refine Ev_aload_n d_Spn_addStep_21 rfl ?_
  refine Ev_iload_n d_Spn_addStep_22 rfl ?_
  refine Ev_ldc (v := 2147483647) xw_c d_Spn_addStep_23 ?_
  refine Ev_iload_n d_Spn_addStep_25 rfl ?_
  obtain ⟨r1, c1, hC, hF⟩ := x_bind_some hF
  refine k_Spn_26 hp0 rfl d_Spn_addStep_26 ⟨by decide, by decide⟩ (Nat.le_of_ble_eq_true rfl) ?_
  exact C_Spn_add hp0 hC (T_Spn_addStep_29 hp0 hF hQ)
def F_Spn_addStep (p0 : Nat) (x1 x2 : Int32) (c : x_S) : Option (Int32 × x_S) := if (c p0 3) ≤ 0 then (F_Spn_addStep_21 p0 x1 x2 c) else (x_ix ((c p0 3) - (1 : Int32)) 7 (fun j2 => F_Spn_addStep_21 p0 x1 x2 (x_up c (p0 + 2) j2 (x1 - (1 : Int32)))))
theorem C_Spn_addStep {E : x_E} {o : x_S} {Q : Int32 → x_H → Prop} {p0 : Nat} (hp0 : x_span p0) {x1 x2 : Int32} {c : x_S} {r : Int32} {s : x_S} (hF : F_Spn_addStep p0 x1 x2 c = some (r, s)) (hQ : Q r (hpk s o)) : Call E m_Spn_addStep 0 0 [.ref p0, .int x1, .int x2] (hpk c o) Q := by
  refine Call_of (L := [some (.ref p0), some (.int x1), some (.int x2)]) (by decide) (by intro v hv; simp only [List.mem_cons, List.not_mem_nil, or_false] at hv; rcases hv with rfl | rfl | rfl <;> rfl) (Nat.le_of_ble_eq_true rfl) rfl ?_
  unfold F_Spn_addStep at hF
  refine Ev_aload_n d_Spn_addStep_0 rfl ?_
  refine g_Spn_21 hp0 rfl d_Spn_addStep_1 ?_
  refine Ev_if_le (tgt := 21) d_Spn_addStep_4 rfl (fun h1 => ?_) (fun h1 => ?_)
  · rw [if_pos h1] at hF
    exact T_Spn_addStep_21 hp0 hF hQ
  · rw [if_neg h1] at hF
    refine Ev_aload_n d_Spn_addStep_7 rfl ?_
    refine g_Spn_15 hp0 rfl d_Spn_addStep_8 ?_
    refine Ev_aload_n d_Spn_addStep_11 rfl ?_
    refine g_Spn_21 hp0 rfl d_Spn_addStep_12 ?_
    refine Ev_iconst (v := 1) d_Spn_addStep_15 (by decide) ?_
    refine Ev_isub d_Spn_addStep_16 ?_
    refine Ev_iload_n d_Spn_addStep_17 rfl ?_
    refine Ev_iconst (v := 1) d_Spn_addStep_18 (by decide) ?_
    refine Ev_isub d_Spn_addStep_19 ?_
    obtain ⟨j2, hij2, hjj2, hF⟩ := x_ix_some hF
    refine Ec_iast d_Spn_addStep_20 (P := (p0 + 2)) (x_spanA hp0 1 (by decide)).1 (x_spanA hp0 1 (by decide)).2 hij2 hjj2 ?_
    exact T_Spn_addStep_21 hp0 hF hQ
def F_Spn_copyFrom_36 (p0 : Nat) (p1 : Nat) (K : Int32 → x_S → Option (Int32 × x_S)) (x2 : Int32) (c : x_S) : Option (Int32 × x_S) := K (x2 + (1 : Int32)) c
theorem T_Spn_copyFrom_36 {E : x_E} {o : x_S} {Q : Int32 → x_H → Prop} {p0 : Nat} (hp0 : x_span p0) {p1 : Nat} (hp1 : x_span p1) {K : Int32 → x_S → Option (Int32 × x_S)} (hK : ∀ {x2 : Int32} {c : x_S} {r : Int32} {s : x_S}, K x2 c = some (r, s) → Q r (hpk s o) → Ev E m_Spn_copyFrom 0 0 6 [some (.ref p0), some (.ref p1), some (.int x2)] [] (hpk c o) Q) {x2 : Int32} {c : x_S} {r : Int32} {s : x_S} (hF : F_Spn_copyFrom_36 p0 p1 K x2 c = some (r, s)) (hQ : Q r (hpk s o)) : Ev E m_Spn_copyFrom 0 0 36 [some (.ref p0), some (.ref p1), some (.int x2)] [] (hpk c o) Q := by
  unfold F_Spn_copyFrom_36 at hF
  refine Ev_iinc (v := (x2 + (1 : Int32))) (L' := [some (.ref p0), some (.ref p1), some (.int (x2 + (1 : Int32)))]) d_Spn_copyFrom_36 rfl rfl (by decide) rfl ?_
  refine Ev_goto (tgt := 6) d_Spn_copyFrom_39 rfl ?_
  exact hK hF hQ
def F_Spn_copyFrom_6 (p0 : Nat) (p1 : Nat) : Nat → Int32 → x_S → Option (Int32 × x_S)
  | 0, _, _ => none
  | n + 1, x2, c => if (c p1 3) ≤ x2 then (some (0, c)) else (x_ix x2 7 (fun j2 => x_ix x2 7 (fun j3 => x_ix x2 7 (fun j4 => x_bind (F_Spn_add p0 (c (p1 + 1) j2) (c (p1 + 2) j3) (c (p1 + 3) j4) c) (fun _ c5 => F_Spn_copyFrom_36 p0 p1 (F_Spn_copyFrom_6 p0 p1 n) x2 c5)))))
theorem T_Spn_copyFrom_6 {E : x_E} {o : x_S} {Q : Int32 → x_H → Prop} {p0 : Nat} (hp0 : x_span p0) {p1 : Nat} (hp1 : x_span p1) : ∀ (n : Nat) {x2 : Int32} {c : x_S} {r : Int32} {s : x_S}, F_Spn_copyFrom_6 p0 p1 n x2 c = some (r, s) → Q r (hpk s o) → Ev E m_Spn_copyFrom 0 0 6 [some (.ref p0), some (.ref p1), some (.int x2)] [] (hpk c o) Q := by
  intro n
  induction n with
  | zero => intro x2 c r s hF; rw [F_Spn_copyFrom_6] at hF; cases hF
  | succ n ih =>
    intro x2 c r s hF hQ
    rw [F_Spn_copyFrom_6] at hF
    refine Ev_iload_n d_Spn_copyFrom_6 rfl ?_
    refine Ev_aload_n d_Spn_copyFrom_7 rfl ?_
    refine g_Spn_21 hp1 rfl d_Spn_copyFrom_8 ?_
    refine Ev_icmp_ge (tgt := 42) d_Spn_copyFrom_11 rfl (fun h1 => ?_) (fun h1 => ?_)
    · rw [if_pos h1] at hF
      cases hF
      exact Ev_return d_Spn_copyFrom_42 rfl hQ
    · rw [if_neg h1] at hF
      refine Ev_aload_n d_Spn_copyFrom_14 rfl ?_
      refine Ev_aload_n d_Spn_copyFrom_15 rfl ?_
      refine g_Spn_9 hp1 rfl d_Spn_copyFrom_16 ?_
      refine Ev_iload_n d_Spn_copyFrom_19 rfl ?_
      obtain ⟨j2, hij2, hjj2, hF⟩ := x_ix_some hF
      refine Ec_iald d_Spn_copyFrom_20 (P := (p1 + 1)) (x_spanA hp1 0 (by decide)).1 (x_spanA hp1 0 (by decide)).2 hij2 hjj2 ?_
      refine Ev_aload_n d_Spn_copyFrom_21 rfl ?_
      refine g_Spn_15 hp1 rfl d_Spn_copyFrom_22 ?_
      refine Ev_iload_n d_Spn_copyFrom_25 rfl ?_
      obtain ⟨j3, hij3, hjj3, hF⟩ := x_ix_some hF
      refine Ec_iald d_Spn_copyFrom_26 (P := (p1 + 2)) (x_spanA hp1 1 (by decide)).1 (x_spanA hp1 1 (by decide)).2 hij3 hjj3 ?_
      refine Ev_aload_n d_Spn_copyFrom_27 rfl ?_
      refine g_Spn_18 hp1 rfl d_Spn_copyFrom_28 ?_
      refine Ev_iload_n d_Spn_copyFrom_31 rfl ?_
      obtain ⟨j4, hij4, hjj4, hF⟩ := x_ix_some hF
      refine Ec_iald d_Spn_copyFrom_32 (P := (p1 + 3)) (x_spanA hp1 2 (by decide)).1 (x_spanA hp1 2 (by decide)).2 hij4 hjj4 ?_
      obtain ⟨r5, c5, hC, hF⟩ := x_bind_some hF
      refine k_Spn_26 hp0 rfl d_Spn_copyFrom_33 ⟨by decide, by decide⟩ (Nat.le_of_ble_eq_true rfl) ?_
      exact C_Spn_add hp0 hC (T_Spn_copyFrom_36 hp0 hp1 (fun h1 h2 => ih h1 h2) hF hQ)
def F_Spn_copyFrom_4 (p0 : Nat) (p1 : Nat) (c : x_S) : Option (Int32 × x_S) := F_Spn_copyFrom_6 p0 p1 x_fuel (0 : Int32) c
theorem T_Spn_copyFrom_4 {E : x_E} {o : x_S} {Q : Int32 → x_H → Prop} {p0 : Nat} (hp0 : x_span p0) {p1 : Nat} (hp1 : x_span p1) {l2 : Option Value} {c : x_S} {r : Int32} {s : x_S} (hF : F_Spn_copyFrom_4 p0 p1 c = some (r, s)) (hQ : Q r (hpk s o)) : Ev E m_Spn_copyFrom 0 0 4 [some (.ref p0), some (.ref p1), l2] [] (hpk c o) Q := by
  unfold F_Spn_copyFrom_4 at hF
  refine Ev_iconst (v := 0) d_Spn_copyFrom_4 (by decide) ?_
  refine Ev_istore_n (L' := [some (.ref p0), some (.ref p1), some (.int (0 : Int32))]) d_Spn_copyFrom_5 (by decide) rfl ?_
  exact T_Spn_copyFrom_6 hp0 hp1 x_fuel hF hQ
def F_Spn_copyFrom (p0 : Nat) (p1 : Nat) (c : x_S) : Option (Int32 × x_S) := x_bind (F_Spn_clear p0 c) (fun _ c1 => F_Spn_copyFrom_4 p0 p1 c1)
theorem C_Spn_copyFrom {E : x_E} {o : x_S} {Q : Int32 → x_H → Prop} {p0 : Nat} (hp0 : x_span p0) {p1 : Nat} (hp1 : x_span p1) {c : x_S} {r : Int32} {s : x_S} (hF : F_Spn_copyFrom p0 p1 c = some (r, s)) (hQ : Q r (hpk s o)) : Call E m_Spn_copyFrom 0 0 [.ref p0, .ref p1] (hpk c o) Q := by
  refine Call_of (L := [some (.ref p0), some (.ref p1), none]) (by decide) (by intro v hv; simp only [List.mem_cons, List.not_mem_nil, or_false] at hv; rcases hv with rfl | rfl <;> rfl) (Nat.le_of_ble_eq_true rfl) rfl ?_
  unfold F_Spn_copyFrom at hF
  refine Ev_aload_n d_Spn_copyFrom_0 rfl ?_
  obtain ⟨r1, c1, hC, hF⟩ := x_bind_some hF
  refine k_Spn_30 hp0 rfl d_Spn_copyFrom_1 ⟨by decide, by decide⟩ (Nat.le_of_ble_eq_true rfl) ?_
  exact C_Spn_clear hp0 hC (T_Spn_copyFrom_4 hp0 hp1 hF hQ)
def F_Spn_fillFromLast_67 (p0 : Nat) (c : x_S) : Option (Int32 × x_S) := some (0, c)
theorem T_Spn_fillFromLast_67 {E : x_E} {o : x_S} {Q : Int32 → x_H → Prop} {p0 : Nat} (hp0 : x_span p0) {l0 : Option Value} {l1 : Option Value} {c : x_S} {r : Int32} {s : x_S} (hF : F_Spn_fillFromLast_67 p0 c = some (r, s)) (hQ : Q r (hpk s o)) : Ev E m_Spn_fillFromLast 0 0 67 [l0, l1] [] (hpk c o) Q := by
  unfold F_Spn_fillFromLast_67 at hF
  cases hF
  exact Ev_return d_Spn_fillFromLast_67 rfl hQ
def F_Spn_fillFromLast_52 (p0 : Nat) (x1 : Int32) (c : x_S) : Option (Int32 × x_S) := x_ix (c p0 3) 7 (fun j1 => x_ix x1 7 (fun j2 => F_Spn_fillFromLast_67 p0 (x_up c (p0 + 3) j2 (c (p0 + 3) j1))))
theorem T_Spn_fillFromLast_52 {E : x_E} {o : x_S} {Q : Int32 → x_H → Prop} {p0 : Nat} (hp0 : x_span p0) {x1 : Int32} {c : x_S} {r : Int32} {s : x_S} (hF : F_Spn_fillFromLast_52 p0 x1 c = some (r, s)) (hQ : Q r (hpk s o)) : Ev E m_Spn_fillFromLast 0 0 52 [some (.ref p0), some (.int x1)] [] (hpk c o) Q := by
  unfold F_Spn_fillFromLast_52 at hF
  refine Ev_aload_n d_Spn_fillFromLast_52 rfl ?_
  refine g_Spn_18 hp0 rfl d_Spn_fillFromLast_53 ?_
  refine Ev_iload_n d_Spn_fillFromLast_56 rfl ?_
  refine Ev_aload_n d_Spn_fillFromLast_57 rfl ?_
  refine g_Spn_18 hp0 rfl d_Spn_fillFromLast_58 ?_
  refine Ev_aload_n d_Spn_fillFromLast_61 rfl ?_
  refine g_Spn_21 hp0 rfl d_Spn_fillFromLast_62 ?_
  obtain ⟨j1, hij1, hjj1, hF⟩ := x_ix_some hF
  refine Ec_iald d_Spn_fillFromLast_65 (P := (p0 + 3)) (x_spanA hp0 2 (by decide)).1 (x_spanA hp0 2 (by decide)).2 hij1 hjj1 ?_
  obtain ⟨j2, hij2, hjj2, hF⟩ := x_ix_some hF
  refine Ec_iast d_Spn_fillFromLast_66 (P := (p0 + 3)) (x_spanA hp0 2 (by decide)).1 (x_spanA hp0 2 (by decide)).2 hij2 hjj2 ?_
  exact T_Spn_fillFromLast_67 hp0 hF hQ
def F_Spn_fillFromLast_37 (p0 : Nat) (x1 : Int32) (c : x_S) : Option (Int32 × x_S) := x_ix (c p0 3) 7 (fun j1 => x_ix x1 7 (fun j2 => F_Spn_fillFromLast_52 p0 x1 (x_up c (p0 + 2) j2 (c (p0 + 2) j1))))
theorem T_Spn_fillFromLast_37 {E : x_E} {o : x_S} {Q : Int32 → x_H → Prop} {p0 : Nat} (hp0 : x_span p0) {x1 : Int32} {c : x_S} {r : Int32} {s : x_S} (hF : F_Spn_fillFromLast_37 p0 x1 c = some (r, s)) (hQ : Q r (hpk s o)) : Ev E m_Spn_fillFromLast 0 0 37 [some (.ref p0), some (.int x1)] [] (hpk c o) Q := by
  unfold F_Spn_fillFromLast_37 at hF
  refine Ev_aload_n d_Spn_fillFromLast_37 rfl ?_
  refine g_Spn_15 hp0 rfl d_Spn_fillFromLast_38 ?_
  refine Ev_iload_n d_Spn_fillFromLast_41 rfl ?_
  refine Ev_aload_n d_Spn_fillFromLast_42 rfl ?_
  refine g_Spn_15 hp0 rfl d_Spn_fillFromLast_43 ?_
  refine Ev_aload_n d_Spn_fillFromLast_46 rfl ?_
  refine g_Spn_21 hp0 rfl d_Spn_fillFromLast_47 ?_
  obtain ⟨j1, hij1, hjj1, hF⟩ := x_ix_some hF
  refine Ec_iald d_Spn_fillFromLast_50 (P := (p0 + 2)) (x_spanA hp0 1 (by decide)).1 (x_spanA hp0 1 (by decide)).2 hij1 hjj1 ?_
  obtain ⟨j2, hij2, hjj2, hF⟩ := x_ix_some hF
  refine Ec_iast d_Spn_fillFromLast_51 (P := (p0 + 2)) (x_spanA hp0 1 (by decide)).1 (x_spanA hp0 1 (by decide)).2 hij2 hjj2 ?_
  exact T_Spn_fillFromLast_52 hp0 hF hQ
def F_Spn_fillFromLast_22 (p0 : Nat) (x1 : Int32) (c : x_S) : Option (Int32 × x_S) := x_ix (c p0 3) 7 (fun j1 => x_ix x1 7 (fun j2 => F_Spn_fillFromLast_37 p0 x1 (x_up c (p0 + 1) j2 (c (p0 + 1) j1))))
theorem T_Spn_fillFromLast_22 {E : x_E} {o : x_S} {Q : Int32 → x_H → Prop} {p0 : Nat} (hp0 : x_span p0) {x1 : Int32} {c : x_S} {r : Int32} {s : x_S} (hF : F_Spn_fillFromLast_22 p0 x1 c = some (r, s)) (hQ : Q r (hpk s o)) : Ev E m_Spn_fillFromLast 0 0 22 [some (.ref p0), some (.int x1)] [] (hpk c o) Q := by
  unfold F_Spn_fillFromLast_22 at hF
  refine Ev_aload_n d_Spn_fillFromLast_22 rfl ?_
  refine g_Spn_9 hp0 rfl d_Spn_fillFromLast_23 ?_
  refine Ev_iload_n d_Spn_fillFromLast_26 rfl ?_
  refine Ev_aload_n d_Spn_fillFromLast_27 rfl ?_
  refine g_Spn_9 hp0 rfl d_Spn_fillFromLast_28 ?_
  refine Ev_aload_n d_Spn_fillFromLast_31 rfl ?_
  refine g_Spn_21 hp0 rfl d_Spn_fillFromLast_32 ?_
  obtain ⟨j1, hij1, hjj1, hF⟩ := x_ix_some hF
  refine Ec_iald d_Spn_fillFromLast_35 (P := (p0 + 1)) (x_spanA hp0 0 (by decide)).1 (x_spanA hp0 0 (by decide)).2 hij1 hjj1 ?_
  obtain ⟨j2, hij2, hjj2, hF⟩ := x_ix_some hF
  refine Ec_iast d_Spn_fillFromLast_36 (P := (p0 + 1)) (x_spanA hp0 0 (by decide)).1 (x_spanA hp0 0 (by decide)).2 hij2 hjj2 ?_
  exact T_Spn_fillFromLast_37 hp0 hF hQ
def F_Spn_fillFromLast (p0 : Nat) (x1 : Int32) (c : x_S) : Option (Int32 × x_S) := if x1 < 0 then (F_Spn_fillFromLast_67 p0 c) else (if (c p0 3) ≤ x1 then (F_Spn_fillFromLast_67 p0 c) else (F_Spn_fillFromLast_22 p0 x1 (x_up c p0 3 ((c p0 3) - (1 : Int32)))))
theorem C_Spn_fillFromLast {E : x_E} {o : x_S} {Q : Int32 → x_H → Prop} {p0 : Nat} (hp0 : x_span p0) {x1 : Int32} {c : x_S} {r : Int32} {s : x_S} (hF : F_Spn_fillFromLast p0 x1 c = some (r, s)) (hQ : Q r (hpk s o)) : Call E m_Spn_fillFromLast 0 0 [.ref p0, .int x1] (hpk c o) Q := by
  refine Call_of (L := [some (.ref p0), some (.int x1)]) (by decide) (by intro v hv; simp only [List.mem_cons, List.not_mem_nil, or_false] at hv; rcases hv with rfl | rfl <;> rfl) (Nat.le_of_ble_eq_true rfl) rfl ?_
  unfold F_Spn_fillFromLast at hF
  refine Ev_iload_n d_Spn_fillFromLast_0 rfl ?_
  refine Ev_if_lt (tgt := 67) d_Spn_fillFromLast_1 rfl (fun h1 => ?_) (fun h1 => ?_)
  · rw [if_pos h1] at hF
    exact T_Spn_fillFromLast_67 hp0 hF hQ
  · rw [if_neg h1] at hF
    refine Ev_iload_n d_Spn_fillFromLast_4 rfl ?_
    refine Ev_aload_n d_Spn_fillFromLast_5 rfl ?_
    refine g_Spn_21 hp0 rfl d_Spn_fillFromLast_6 ?_
    refine Ev_icmp_ge (tgt := 67) d_Spn_fillFromLast_9 rfl (fun h2 => ?_) (fun h2 => ?_)
    · rw [if_pos h2] at hF
      exact T_Spn_fillFromLast_67 hp0 hF hQ
    · rw [if_neg h2] at hF
      refine Ev_aload_n d_Spn_fillFromLast_12 rfl ?_
      refine Ev_dup d_Spn_fillFromLast_13 rfl ?_
      refine g_Spn_21 hp0 rfl d_Spn_fillFromLast_14 ?_
      refine Ev_iconst (v := 1) d_Spn_fillFromLast_17 (by decide) ?_
      refine Ev_isub d_Spn_fillFromLast_18 ?_
      refine q_Spn_21 hp0 rfl d_Spn_fillFromLast_19 ?_
      exact T_Spn_fillFromLast_22 hp0 hF hQ
def F_Spn_least_57 (p0 : Nat) (K : Int32 → Int32 → Int32 → Int32 → x_S → Option (Int32 × x_S)) (x1 x2 x3 x4 : Int32) (c : x_S) : Option (Int32 × x_S) := K x1 x2 x3 (x4 + (1 : Int32)) c
theorem T_Spn_least_57 {E : x_E} {o : x_S} {Q : Int32 → x_H → Prop} {p0 : Nat} (hp0 : x_span p0) {K : Int32 → Int32 → Int32 → Int32 → x_S → Option (Int32 × x_S)} (hK : ∀ {x1 x2 x3 x4 : Int32} {c : x_S} {r : Int32} {s : x_S}, K x1 x2 x3 x4 c = some (r, s) → Q r (hpk s o) → Ev E m_Spn_least 0 0 7 [some (.ref p0), some (.int x1), some (.int x2), some (.int x3), some (.int x4)] [] (hpk c o) Q) {x1 x2 x3 x4 : Int32} {c : x_S} {r : Int32} {s : x_S} (hF : F_Spn_least_57 p0 K x1 x2 x3 x4 c = some (r, s)) (hQ : Q r (hpk s o)) : Ev E m_Spn_least 0 0 57 [some (.ref p0), some (.int x1), some (.int x2), some (.int x3), some (.int x4)] [] (hpk c o) Q := by
  unfold F_Spn_least_57 at hF
  refine Ev_iinc (v := (x4 + (1 : Int32))) (L' := [some (.ref p0), some (.int x1), some (.int x2), some (.int x3), some (.int (x4 + (1 : Int32)))]) d_Spn_least_57 rfl rfl (by decide) rfl ?_
  refine Ev_goto (tgt := 7) d_Spn_least_60 rfl ?_
  exact hK hF hQ
def F_Spn_least_7 (p0 : Nat) : Nat → Int32 → Int32 → Int32 → Int32 → x_S → Option (Int32 × x_S)
  | 0, _, _, _, _, _ => none
  | n + 1, x1, x2, x3, x4, c => if (c p0 3) ≤ x4 then (some (x3, c)) else (x_ix x4 7 (fun j2 => if x2 < (c (p0 + 1) j2) then (F_Spn_least_57 p0 (F_Spn_least_7 p0 n) x1 x2 x3 x4 c) else (x_ix x4 7 (fun j4 => if (c (p0 + 2) j4) < x1 then (F_Spn_least_57 p0 (F_Spn_least_7 p0 n) x1 x2 x3 x4 c) else (x_ix x4 7 (fun j6 => if x3 ≤ (c (p0 + 3) j6) then (F_Spn_least_57 p0 (F_Spn_least_7 p0 n) x1 x2 x3 x4 c) else (x_ix x4 7 (fun j8 => F_Spn_least_57 p0 (F_Spn_least_7 p0 n) x1 x2 (c (p0 + 3) j8) x4 c))))))))
theorem T_Spn_least_7 {E : x_E} {o : x_S} {Q : Int32 → x_H → Prop} {p0 : Nat} (hp0 : x_span p0) : ∀ (n : Nat) {x1 x2 x3 x4 : Int32} {c : x_S} {r : Int32} {s : x_S}, F_Spn_least_7 p0 n x1 x2 x3 x4 c = some (r, s) → Q r (hpk s o) → Ev E m_Spn_least 0 0 7 [some (.ref p0), some (.int x1), some (.int x2), some (.int x3), some (.int x4)] [] (hpk c o) Q := by
  intro n
  induction n with
  | zero => intro x1 x2 x3 x4 c r s hF; rw [F_Spn_least_7] at hF; cases hF
  | succ n ih =>
    intro x1 x2 x3 x4 c r s hF hQ
    rw [F_Spn_least_7] at hF
    refine Ev_iload d_Spn_least_7 rfl ?_
    refine Ev_aload_n d_Spn_least_9 rfl ?_
    refine g_Spn_21 hp0 rfl d_Spn_least_10 ?_
    refine Ev_icmp_ge (tgt := 63) d_Spn_least_13 rfl (fun h1 => ?_) (fun h1 => ?_)
    · rw [if_pos h1] at hF
      refine Ev_iload_n d_Spn_least_63 rfl ?_
      cases hF
      exact Ev_ireturn d_Spn_least_64 rfl hQ
    · rw [if_neg h1] at hF
      refine Ev_aload_n d_Spn_least_16 rfl ?_
      refine g_Spn_9 hp0 rfl d_Spn_least_17 ?_
      refine Ev_iload d_Spn_least_20 rfl ?_
      obtain ⟨j2, hij2, hjj2, hF⟩ := x_ix_some hF
      refine Ec_iald d_Spn_least_22 (P := (p0 + 1)) (x_spanA hp0 0 (by decide)).1 (x_spanA hp0 0 (by decide)).2 hij2 hjj2 ?_
      refine Ev_iload_n d_Spn_least_23 rfl ?_
      refine Ev_icmp_gt (tgt := 57) d_Spn_least_24 rfl (fun h3 => ?_) (fun h3 => ?_)
      · rw [if_pos h3] at hF
        exact T_Spn_least_57 hp0 (fun h1 h2 => ih h1 h2) hF hQ
      · rw [if_neg h3] at hF
        refine Ev_aload_n d_Spn_least_27 rfl ?_
        refine g_Spn_15 hp0 rfl d_Spn_least_28 ?_
        refine Ev_iload d_Spn_least_31 rfl ?_
        obtain ⟨j4, hij4, hjj4, hF⟩ := x_ix_some hF
        refine Ec_iald d_Spn_least_33 (P := (p0 + 2)) (x_spanA hp0 1 (by decide)).1 (x_spanA hp0 1 (by decide)).2 hij4 hjj4 ?_
        refine Ev_iload_n d_Spn_least_34 rfl ?_
        refine Ev_icmp_lt (tgt := 57) d_Spn_least_35 rfl (fun h5 => ?_) (fun h5 => ?_)
        · rw [if_pos h5] at hF
          exact T_Spn_least_57 hp0 (fun h1 h2 => ih h1 h2) hF hQ
        · rw [if_neg h5] at hF
          refine Ev_aload_n d_Spn_least_38 rfl ?_
          refine g_Spn_18 hp0 rfl d_Spn_least_39 ?_
          refine Ev_iload d_Spn_least_42 rfl ?_
          obtain ⟨j6, hij6, hjj6, hF⟩ := x_ix_some hF
          refine Ec_iald d_Spn_least_44 (P := (p0 + 3)) (x_spanA hp0 2 (by decide)).1 (x_spanA hp0 2 (by decide)).2 hij6 hjj6 ?_
          refine Ev_iload_n d_Spn_least_45 rfl ?_
          refine Ev_icmp_ge (tgt := 57) d_Spn_least_46 rfl (fun h7 => ?_) (fun h7 => ?_)
          · rw [if_pos h7] at hF
            exact T_Spn_least_57 hp0 (fun h1 h2 => ih h1 h2) hF hQ
          · rw [if_neg h7] at hF
            refine Ev_aload_n d_Spn_least_49 rfl ?_
            refine g_Spn_18 hp0 rfl d_Spn_least_50 ?_
            refine Ev_iload d_Spn_least_53 rfl ?_
            obtain ⟨j8, hij8, hjj8, hF⟩ := x_ix_some hF
            refine Ec_iald d_Spn_least_55 (P := (p0 + 3)) (x_spanA hp0 2 (by decide)).1 (x_spanA hp0 2 (by decide)).2 hij8 hjj8 ?_
            refine Ev_istore_n (L' := [some (.ref p0), some (.int x1), some (.int x2), some (.int (c (p0 + 3) j8)), some (.int x4)]) d_Spn_least_56 (by decide) rfl ?_
            exact T_Spn_least_57 hp0 (fun h1 h2 => ih h1 h2) hF hQ
def F_Spn_least (p0 : Nat) (x1 x2 : Int32) (c : x_S) : Option (Int32 × x_S) := F_Spn_least_7 p0 x_fuel x1 x2 (600 : Int32) (0 : Int32) c
theorem C_Spn_least {E : x_E} {o : x_S} {Q : Int32 → x_H → Prop} {p0 : Nat} (hp0 : x_span p0) {x1 x2 : Int32} {c : x_S} {r : Int32} {s : x_S} (hF : F_Spn_least p0 x1 x2 c = some (r, s)) (hQ : Q r (hpk s o)) : Call E m_Spn_least 0 0 [.ref p0, .int x1, .int x2] (hpk c o) Q := by
  refine Call_of (L := [some (.ref p0), some (.int x1), some (.int x2), none, none]) (by decide) (by intro v hv; simp only [List.mem_cons, List.not_mem_nil, or_false] at hv; rcases hv with rfl | rfl | rfl <;> rfl) (Nat.le_of_ble_eq_true rfl) rfl ?_
  unfold F_Spn_least at hF
  refine Ev_sipush (v := (600)) d_Spn_least_0 (by decide) ?_
  refine Ev_istore_n (L' := [some (.ref p0), some (.int x1), some (.int x2), some (.int (600 : Int32)), none]) d_Spn_least_3 (by decide) rfl ?_
  refine Ev_iconst (v := 0) d_Spn_least_4 (by decide) ?_
  refine Ev_istore (L' := [some (.ref p0), some (.int x1), some (.int x2), some (.int (600 : Int32)), some (.int (0 : Int32))]) d_Spn_least_5 (by decide) rfl ?_
  exact T_Spn_least_7 hp0 x_fuel hF hQ
def F_Spn_greatest_62 (p0 : Nat) (K : Int32 → Int32 → Int32 → Int32 → x_S → Option (Int32 × x_S)) (x1 x2 x3 x4 : Int32) (c : x_S) : Option (Int32 × x_S) := K x1 x2 x3 (x4 + (1 : Int32)) c
theorem T_Spn_greatest_62 {E : x_E} {o : x_S} {Q : Int32 → x_H → Prop} {p0 : Nat} (hp0 : x_span p0) {K : Int32 → Int32 → Int32 → Int32 → x_S → Option (Int32 × x_S)} (hK : ∀ {x1 x2 x3 x4 : Int32} {c : x_S} {r : Int32} {s : x_S}, K x1 x2 x3 x4 c = some (r, s) → Q r (hpk s o) → Ev E m_Spn_greatest 0 0 12 [some (.ref p0), some (.int x1), some (.int x2), some (.int x3), some (.int x4)] [] (hpk c o) Q) {x1 x2 x3 x4 : Int32} {c : x_S} {r : Int32} {s : x_S} (hF : F_Spn_greatest_62 p0 K x1 x2 x3 x4 c = some (r, s)) (hQ : Q r (hpk s o)) : Ev E m_Spn_greatest 0 0 62 [some (.ref p0), some (.int x1), some (.int x2), some (.int x3), some (.int x4)] [] (hpk c o) Q := by
  unfold F_Spn_greatest_62 at hF
  refine Ev_iinc (v := (x4 + (1 : Int32))) (L' := [some (.ref p0), some (.int x1), some (.int x2), some (.int x3), some (.int (x4 + (1 : Int32)))]) d_Spn_greatest_62 rfl rfl (by decide) rfl ?_
  refine Ev_goto (tgt := 12) d_Spn_greatest_65 rfl ?_
  exact hK hF hQ
def F_Spn_greatest_12 (p0 : Nat) : Nat → Int32 → Int32 → Int32 → Int32 → x_S → Option (Int32 × x_S)
  | 0, _, _, _, _, _ => none
  | n + 1, x1, x2, x3, x4, c => if (c p0 3) ≤ x4 then (some (x3, c)) else (x_ix x4 7 (fun j2 => if x2 < (c (p0 + 1) j2) then (F_Spn_greatest_62 p0 (F_Spn_greatest_12 p0 n) x1 x2 x3 x4 c) else (x_ix x4 7 (fun j4 => if (c (p0 + 2) j4) < x1 then (F_Spn_greatest_62 p0 (F_Spn_greatest_12 p0 n) x1 x2 x3 x4 c) else (x_ix x4 7 (fun j6 => if (c (p0 + 3) j6) ≤ x3 then (F_Spn_greatest_62 p0 (F_Spn_greatest_12 p0 n) x1 x2 x3 x4 c) else (x_ix x4 7 (fun j8 => F_Spn_greatest_62 p0 (F_Spn_greatest_12 p0 n) x1 x2 (c (p0 + 3) j8) x4 c))))))))
theorem T_Spn_greatest_12 {E : x_E} {o : x_S} {Q : Int32 → x_H → Prop} {p0 : Nat} (hp0 : x_span p0) : ∀ (n : Nat) {x1 x2 x3 x4 : Int32} {c : x_S} {r : Int32} {s : x_S}, F_Spn_greatest_12 p0 n x1 x2 x3 x4 c = some (r, s) → Q r (hpk s o) → Ev E m_Spn_greatest 0 0 12 [some (.ref p0), some (.int x1), some (.int x2), some (.int x3), some (.int x4)] [] (hpk c o) Q := by
  intro n
  induction n with
  | zero => intro x1 x2 x3 x4 c r s hF; rw [F_Spn_greatest_12] at hF; cases hF
  | succ n ih =>
    intro x1 x2 x3 x4 c r s hF hQ
    rw [F_Spn_greatest_12] at hF
    refine Ev_iload d_Spn_greatest_12 rfl ?_
    refine Ev_aload_n d_Spn_greatest_14 rfl ?_
    refine g_Spn_21 hp0 rfl d_Spn_greatest_15 ?_
    refine Ev_icmp_ge (tgt := 68) d_Spn_greatest_18 rfl (fun h1 => ?_) (fun h1 => ?_)
    · rw [if_pos h1] at hF
      refine Ev_iload_n d_Spn_greatest_68 rfl ?_
      cases hF
      exact Ev_ireturn d_Spn_greatest_69 rfl hQ
    · rw [if_neg h1] at hF
      refine Ev_aload_n d_Spn_greatest_21 rfl ?_
      refine g_Spn_9 hp0 rfl d_Spn_greatest_22 ?_
      refine Ev_iload d_Spn_greatest_25 rfl ?_
      obtain ⟨j2, hij2, hjj2, hF⟩ := x_ix_some hF
      refine Ec_iald d_Spn_greatest_27 (P := (p0 + 1)) (x_spanA hp0 0 (by decide)).1 (x_spanA hp0 0 (by decide)).2 hij2 hjj2 ?_
      refine Ev_iload_n d_Spn_greatest_28 rfl ?_
      refine Ev_icmp_gt (tgt := 62) d_Spn_greatest_29 rfl (fun h3 => ?_) (fun h3 => ?_)
      · rw [if_pos h3] at hF
        exact T_Spn_greatest_62 hp0 (fun h1 h2 => ih h1 h2) hF hQ
      · rw [if_neg h3] at hF
        refine Ev_aload_n d_Spn_greatest_32 rfl ?_
        refine g_Spn_15 hp0 rfl d_Spn_greatest_33 ?_
        refine Ev_iload d_Spn_greatest_36 rfl ?_
        obtain ⟨j4, hij4, hjj4, hF⟩ := x_ix_some hF
        refine Ec_iald d_Spn_greatest_38 (P := (p0 + 2)) (x_spanA hp0 1 (by decide)).1 (x_spanA hp0 1 (by decide)).2 hij4 hjj4 ?_
        refine Ev_iload_n d_Spn_greatest_39 rfl ?_
        refine Ev_icmp_lt (tgt := 62) d_Spn_greatest_40 rfl (fun h5 => ?_) (fun h5 => ?_)
        · rw [if_pos h5] at hF
          exact T_Spn_greatest_62 hp0 (fun h1 h2 => ih h1 h2) hF hQ
        · rw [if_neg h5] at hF
          refine Ev_aload_n d_Spn_greatest_43 rfl ?_
          refine g_Spn_18 hp0 rfl d_Spn_greatest_44 ?_
          refine Ev_iload d_Spn_greatest_47 rfl ?_
          obtain ⟨j6, hij6, hjj6, hF⟩ := x_ix_some hF
          refine Ec_iald d_Spn_greatest_49 (P := (p0 + 3)) (x_spanA hp0 2 (by decide)).1 (x_spanA hp0 2 (by decide)).2 hij6 hjj6 ?_
          refine Ev_iload_n d_Spn_greatest_50 rfl ?_
          refine Ev_icmp_le (tgt := 62) d_Spn_greatest_51 rfl (fun h7 => ?_) (fun h7 => ?_)
          · rw [if_pos h7] at hF
            exact T_Spn_greatest_62 hp0 (fun h1 h2 => ih h1 h2) hF hQ
          · rw [if_neg h7] at hF
            refine Ev_aload_n d_Spn_greatest_54 rfl ?_
            refine g_Spn_18 hp0 rfl d_Spn_greatest_55 ?_
            refine Ev_iload d_Spn_greatest_58 rfl ?_
            obtain ⟨j8, hij8, hjj8, hF⟩ := x_ix_some hF
            refine Ec_iald d_Spn_greatest_60 (P := (p0 + 3)) (x_spanA hp0 2 (by decide)).1 (x_spanA hp0 2 (by decide)).2 hij8 hjj8 ?_
            refine Ev_istore_n (L' := [some (.ref p0), some (.int x1), some (.int x2), some (.int (c (p0 + 3) j8)), some (.int x4)]) d_Spn_greatest_61 (by decide) rfl ?_
            exact T_Spn_greatest_62 hp0 (fun h1 h2 => ih h1 h2) hF hQ
def F_Spn_greatest (p0 : Nat) (x1 x2 : Int32) (c : x_S) : Option (Int32 × x_S) := if x1 ≤ x2 then (F_Spn_greatest_12 p0 x_fuel x1 x2 (0 : Int32) (0 : Int32) c) else (some ((0 : Int32), c))
theorem C_Spn_greatest {E : x_E} {o : x_S} {Q : Int32 → x_H → Prop} {p0 : Nat} (hp0 : x_span p0) {x1 x2 : Int32} {c : x_S} {r : Int32} {s : x_S} (hF : F_Spn_greatest p0 x1 x2 c = some (r, s)) (hQ : Q r (hpk s o)) : Call E m_Spn_greatest 0 0 [.ref p0, .int x1, .int x2] (hpk c o) Q := by
  refine Call_of (L := [some (.ref p0), some (.int x1), some (.int x2), none, none]) (by decide) (by intro v hv; simp only [List.mem_cons, List.not_mem_nil, or_false] at hv; rcases hv with rfl | rfl | rfl <;> rfl) (Nat.le_of_ble_eq_true rfl) rfl ?_
  unfold F_Spn_greatest at hF
  refine Ev_iload_n d_Spn_greatest_0 rfl ?_
  refine Ev_iload_n d_Spn_greatest_1 rfl ?_
  refine Ev_icmp_le (tgt := 7) d_Spn_greatest_2 rfl (fun h1 => ?_) (fun h1 => ?_)
  · rw [if_pos h1] at hF
    refine Ev_iconst (v := 0) d_Spn_greatest_7 (by decide) ?_
    refine Ev_istore_n (L' := [some (.ref p0), some (.int x1), some (.int x2), some (.int (0 : Int32)), none]) d_Spn_greatest_8 (by decide) rfl ?_
    refine Ev_iconst (v := 0) d_Spn_greatest_9 (by decide) ?_
    refine Ev_istore (L' := [some (.ref p0), some (.int x1), some (.int x2), some (.int (0 : Int32)), some (.int (0 : Int32))]) d_Spn_greatest_10 (by decide) rfl ?_
    exact T_Spn_greatest_12 hp0 x_fuel hF hQ
  · rw [if_neg h1] at hF
    refine Ev_iconst (v := 0) d_Spn_greatest_5 (by decide) ?_
    cases hF
    exact Ev_ireturn d_Spn_greatest_6 rfl hQ
