/-! printed by wip/gen/gen4.py: TrainGuardModel -/
def F_Mod_write_72 (c : x_S) : Option (Int32 × x_S) := some (0, c)
theorem T_Mod_write_72 {E : x_E} {o : x_S} {Q : Int32 → x_H → Prop} {l0 : Option Value} {l1 : Option Value} {l2 : Option Value} {l3 : Option Value} {c : x_S} {r : Int32} {s : x_S} (hF : F_Mod_write_72 c = some (r, s)) (hQ : Q r (hpk o s)) : Ev E m_Mod_write 0 0 72 [l0, l1, l2, l3] [] (hpk o c) Q := by
  unfold F_Mod_write_72 at hF
  cases hF
  exact Ev_return d_Mod_write_72 rfl hQ
def F_Mod_write_69 (s1 : Int32) (c : x_S) : Option (Int32 × x_S) := F_Mod_write_72 (x_up c 46 42 s1)
theorem T_Mod_write_69 {E : x_E} {o : x_S} {Q : Int32 → x_H → Prop} {l0 : Option Value} {l1 : Option Value} {l2 : Option Value} {l3 : Option Value} {s1 : Int32} {c : x_S} {r : Int32} {s : x_S} (hF : F_Mod_write_69 s1 c = some (r, s)) (hQ : Q r (hpk o s)) : Ev E m_Mod_write 0 0 69 [l0, l1, l2, l3] [.int s1, .ref 46] (hpk o c) Q := by
  unfold F_Mod_write_69 at hF
  refine q_Mod_78 rfl d_Mod_write_69 ?_
  exact T_Mod_write_72 hF hQ
def F_Mod_write_48 (c : x_S) : Option (Int32 × x_S) := if (16 : Int32) ≤ (c 46 42) then (F_Mod_write_69 (16 : Int32) c) else (F_Mod_write_69 ((c 46 42) + (1 : Int32)) c)
theorem T_Mod_write_48 {E : x_E} {o : x_S} {Q : Int32 → x_H → Prop} {l1 : Option Value} {l2 : Option Value} {l3 : Option Value} {c : x_S} {r : Int32} {s : x_S} (hF : F_Mod_write_48 c = some (r, s)) (hQ : Q r (hpk o s)) : Ev E m_Mod_write 0 0 48 [some (.ref 46), l1, l2, l3] [] (hpk o c) Q := by
  unfold F_Mod_write_48 at hF
  refine Ev_aload_n d_Mod_write_48 rfl ?_
  refine Ev_aload_n d_Mod_write_49 rfl ?_
  refine g_Mod_78 rfl d_Mod_write_50 ?_
  refine Ev_bipush (v := (16)) d_Mod_write_53 (by decide) ?_
  refine Ev_icmp_ge (tgt := 67) d_Mod_write_55 rfl (fun h1 => ?_) (fun h1 => ?_)
  · rw [if_pos h1] at hF
    refine Ev_bipush (v := (16)) d_Mod_write_67 (by decide) ?_
    exact T_Mod_write_69 hF hQ
  · rw [if_neg h1] at hF
    refine Ev_aload_n d_Mod_write_58 rfl ?_
    refine g_Mod_78 rfl d_Mod_write_59 ?_
    refine Ev_iconst (v := 1) d_Mod_write_62 (by decide) ?_
    refine Ev_iadd d_Mod_write_63 ?_
    refine Ev_goto (tgt := 69) d_Mod_write_64 rfl ?_
    exact T_Mod_write_69 hF hQ
def F_Mod_write_21 (K : Int32 → Int32 → Int32 → x_S → Option (Int32 × x_S)) (x1 x2 x3 : Int32) (c : x_S) : Option (Int32 × x_S) := K x1 x2 (x3 + (-1 : Int32)) c
theorem T_Mod_write_21 {E : x_E} {o : x_S} {Q : Int32 → x_H → Prop} {K : Int32 → Int32 → Int32 → x_S → Option (Int32 × x_S)} (hK : ∀ {x1 x2 x3 : Int32} {c : x_S} {r : Int32} {s : x_S}, K x1 x2 x3 c = some (r, s) → Q r (hpk o s) → Ev E m_Mod_write 0 0 3 [some (.ref 46), some (.int x1), some (.int x2), some (.int x3)] [] (hpk o c) Q) {x1 x2 x3 : Int32} {c : x_S} {r : Int32} {s : x_S} (hF : F_Mod_write_21 K x1 x2 x3 c = some (r, s)) (hQ : Q r (hpk o s)) : Ev E m_Mod_write 0 0 21 [some (.ref 46), some (.int x1), some (.int x2), some (.int x3)] [] (hpk o c) Q := by
  unfold F_Mod_write_21 at hF
  refine Ev_iinc (v := (x3 + (-1 : Int32))) (L' := [some (.ref 46), some (.int x1), some (.int x2), some (.int (x3 + (-1 : Int32)))]) d_Mod_write_21 rfl rfl (by decide) rfl ?_
  refine Ev_goto (tgt := 3) d_Mod_write_24 rfl ?_
  exact hK hF hQ
def F_Mod_write_3 : Nat → Int32 → Int32 → Int32 → x_S → Option (Int32 × x_S)
  | 0, _, _, _, _ => none
  | n + 1, x1, x2, x3, c => if x3 ≤ 0 then (x_ix (0 : Int32) 16 (fun j2 => F_Mod_write_48 (x_up c 63 j2 ((((10000 : Int32) * (c 46 7)) + ((100 : Int32) * x1)) + x2)))) else (x_ix (x3 - (1 : Int32)) 16 (fun j3 => x_ix x3 16 (fun j4 => F_Mod_write_21 (F_Mod_write_3 n) x1 x2 x3 (x_up c 63 j4 (c 63 j3)))))
theorem T_Mod_write_3 {E : x_E} {o : x_S} {Q : Int32 → x_H → Prop} : ∀ (n : Nat) {x1 x2 x3 : Int32} {c : x_S} {r : Int32} {s : x_S}, F_Mod_write_3 n x1 x2 x3 c = some (r, s) → Q r (hpk o s) → Ev E m_Mod_write 0 0 3 [some (.ref 46), some (.int x1), some (.int x2), some (.int x3)] [] (hpk o c) Q := by
  intro n
  induction n with
  | zero => intro x1 x2 x3 c r s hF; rw [F_Mod_write_3] at hF; cases hF
  | succ n ih =>
    intro x1 x2 x3 c r s hF hQ
    rw [F_Mod_write_3] at hF
    refine Ev_iload_n d_Mod_write_3 rfl ?_
    refine Ev_if_le (tgt := 27) d_Mod_write_4 rfl (fun h1 => ?_) (fun h1 => ?_)
    · rw [if_pos h1] at hF
      refine Ev_aload_n d_Mod_write_27 rfl ?_
      refine g_Mod_63 rfl d_Mod_write_28 ?_
      refine Ev_iconst (v := 0) d_Mod_write_31 (by decide) ?_
      refine Ev_sipush (v := (10000)) d_Mod_write_32 (by decide) ?_
      refine Ev_aload_n d_Mod_write_35 rfl ?_
      refine g_Mod_75 rfl d_Mod_write_36 ?_
      refine Ev_imul d_Mod_write_39 ?_
      refine Ev_bipush (v := (100)) d_Mod_write_40 (by decide) ?_
      refine Ev_iload_n d_Mod_write_42 rfl ?_
      refine Ev_imul d_Mod_write_43 ?_
      refine Ev_iadd d_Mod_write_44 ?_
      refine Ev_iload_n d_Mod_write_45 rfl ?_
      refine Ev_iadd d_Mod_write_46 ?_
      obtain ⟨j2, hij2, hjj2, hF⟩ := x_ix_some hF
      refine Em_iast d_Mod_write_47 (P := 63) (by decide) rfl hij2 hjj2 ?_
      exact T_Mod_write_48 hF hQ
    · rw [if_neg h1] at hF
      refine Ev_aload_n d_Mod_write_7 rfl ?_
      refine g_Mod_63 rfl d_Mod_write_8 ?_
      refine Ev_iload_n d_Mod_write_11 rfl ?_
      refine Ev_aload_n d_Mod_write_12 rfl ?_
      refine g_Mod_63 rfl d_Mod_write_13 ?_
      refine Ev_iload_n d_Mod_write_16 rfl ?_
      refine Ev_iconst (v := 1) d_Mod_write_17 (by decide) ?_
      refine Ev_isub d_Mod_write_18 ?_
      obtain ⟨j3, hij3, hjj3, hF⟩ := x_ix_some hF
      refine Em_iald d_Mod_write_19 (P := 63) (by decide) rfl hij3 hjj3 ?_
      obtain ⟨j4, hij4, hjj4, hF⟩ := x_ix_some hF
      refine Em_iast d_Mod_write_20 (P := 63) (by decide) rfl hij4 hjj4 ?_
      exact T_Mod_write_21 (fun h1 h2 => ih h1 h2) hF hQ
def F_Mod_write (x1 x2 : Int32) (c : x_S) : Option (Int32 × x_S) := F_Mod_write_3 x_fuel x1 x2 (15 : Int32) c
theorem C_Mod_write {E : x_E} {o : x_S} {Q : Int32 → x_H → Prop} {x1 x2 : Int32} {c : x_S} {r : Int32} {s : x_S} (hF : F_Mod_write x1 x2 c = some (r, s)) (hQ : Q r (hpk o s)) : Call E m_Mod_write 0 0 [.ref 46, .int x1, .int x2] (hpk o c) Q := by
  refine Call_of (L := [some (.ref 46), some (.int x1), some (.int x2), none]) (by decide) (by intro v hv; simp only [List.mem_cons, List.not_mem_nil, or_false] at hv; rcases hv with rfl | rfl | rfl <;> rfl) (Nat.le_of_ble_eq_true rfl) rfl ?_
  unfold F_Mod_write at hF
  refine Ev_bipush (v := (15)) d_Mod_write_0 (by decide) ?_
  refine Ev_istore_n (L' := [some (.ref 46), some (.int x1), some (.int x2), some (.int (15 : Int32))]) d_Mod_write_2 (by decide) rfl ?_
  exact T_Mod_write_3 x_fuel hF hQ
def F_Mod_become_19 (c : x_S) : Option (Int32 × x_S) := some (0, c)
theorem T_Mod_become_19 {E : x_E} {o : x_S} {Q : Int32 → x_H → Prop} {l0 : Option Value} {l1 : Option Value} {c : x_S} {r : Int32} {s : x_S} (hF : F_Mod_become_19 c = some (r, s)) (hQ : Q r (hpk o s)) : Ev E m_Mod_become 0 0 19 [l0, l1] [] (hpk o c) Q := by
  unfold F_Mod_become_19 at hF
  cases hF
  exact Ev_return d_Mod_become_19 rfl hQ
def F_Mod_become_13 (x1 : Int32) (c : x_S) : Option (Int32 × x_S) := x_bind (F_Mod_write (1 : Int32) x1 c) (fun _ c1 => F_Mod_become_19 c1)
theorem T_Mod_become_13 {E : x_E} {o : x_S} {Q : Int32 → x_H → Prop} {x1 : Int32} {c : x_S} {r : Int32} {s : x_S} (hF : F_Mod_become_13 x1 c = some (r, s)) (hQ : Q r (hpk o s)) : Ev E m_Mod_become 0 0 13 [some (.ref 46), some (.int x1)] [] (hpk o c) Q := by
  unfold F_Mod_become_13 at hF
  refine Ev_aload_n d_Mod_become_13 rfl ?_
  refine Ev_iconst (v := 1) d_Mod_become_14 (by decide) ?_
  refine Ev_iload_n d_Mod_become_15 rfl ?_
  obtain ⟨r1, c1, hC, hF⟩ := x_bind_some hF
  refine k_Mod_84 rfl d_Mod_become_16 ⟨by decide, by decide⟩ (Nat.le_of_ble_eq_true rfl) ?_
  exact C_Mod_write hC (T_Mod_become_19 hF hQ)
def F_Mod_become (x1 : Int32) (c : x_S) : Option (Int32 × x_S) := if x1 = (c 46 6) then (F_Mod_become_19 c) else (F_Mod_become_13 x1 (x_up c 46 6 x1))
theorem C_Mod_become {E : x_E} {o : x_S} {Q : Int32 → x_H → Prop} {x1 : Int32} {c : x_S} {r : Int32} {s : x_S} (hF : F_Mod_become x1 c = some (r, s)) (hQ : Q r (hpk o s)) : Call E m_Mod_become 0 0 [.ref 46, .int x1] (hpk o c) Q := by
  refine Call_of (L := [some (.ref 46), some (.int x1)]) (by decide) (by intro v hv; simp only [List.mem_cons, List.not_mem_nil, or_false] at hv; rcases hv with rfl | rfl <;> rfl) (Nat.le_of_ble_eq_true rfl) rfl ?_
  unfold F_Mod_become at hF
  refine Ev_iload_n d_Mod_become_0 rfl ?_
  refine Ev_aload_n d_Mod_become_1 rfl ?_
  refine g_Mod_81 rfl d_Mod_become_2 ?_
  refine Ev_icmp_eq (tgt := 19) d_Mod_become_5 rfl (fun h1 => ?_) (fun h1 => ?_)
  · rw [if_pos h1] at hF
    exact T_Mod_become_19 hF hQ
  · rw [if_neg h1] at hF
    refine Ev_aload_n d_Mod_become_8 rfl ?_
    refine Ev_iload_n d_Mod_become_9 rfl ?_
    refine q_Mod_81 rfl d_Mod_become_10 ?_
    exact T_Mod_become_13 hF hQ
def F_Mod_trips_30 (c : x_S) : Option (Int32 × x_S) := some (0, c)
theorem T_Mod_trips_30 {E : x_E} {o : x_S} {Q : Int32 → x_H → Prop} {l0 : Option Value} {c : x_S} {r : Int32} {s : x_S} (hF : F_Mod_trips_30 c = some (r, s)) (hQ : Q r (hpk o s)) : Ev E m_Mod_trips 0 0 30 [l0] [] (hpk o c) Q := by
  unfold F_Mod_trips_30 at hF
  cases hF
  exact Ev_return d_Mod_trips_30 rfl hQ
def F_Mod_trips_25 (c : x_S) : Option (Int32 × x_S) := x_bind (F_Mod_become (4 : Int32) c) (fun _ c1 => F_Mod_trips_30 c1)
theorem T_Mod_trips_25 {E : x_E} {o : x_S} {Q : Int32 → x_H → Prop} {c : x_S} {r : Int32} {s : x_S} (hF : F_Mod_trips_25 c = some (r, s)) (hQ : Q r (hpk o s)) : Ev E m_Mod_trips 0 0 25 [some (.ref 46)] [] (hpk o c) Q := by
  unfold F_Mod_trips_25 at hF
  refine Ev_aload_n d_Mod_trips_25 rfl ?_
  refine Ev_iconst (v := 4) d_Mod_trips_26 (by decide) ?_
  obtain ⟨r1, c1, hC, hF⟩ := x_bind_some hF
  refine k_Mod_104 rfl d_Mod_trips_27 ⟨by decide, by decide⟩ (Nat.le_of_ble_eq_true rfl) ?_
  exact C_Mod_become hC (T_Mod_trips_30 hF hQ)
def F_Mod_trips_20 (c : x_S) : Option (Int32 × x_S) := F_Mod_trips_25 (x_up c 46 29 (0 : Int32))
theorem T_Mod_trips_20 {E : x_E} {o : x_S} {Q : Int32 → x_H → Prop} {c : x_S} {r : Int32} {s : x_S} (hF : F_Mod_trips_20 c = some (r, s)) (hQ : Q r (hpk o s)) : Ev E m_Mod_trips 0 0 20 [some (.ref 46)] [] (hpk o c) Q := by
  unfold F_Mod_trips_20 at hF
  refine Ev_aload_n d_Mod_trips_20 rfl ?_
  refine Ev_iconst (v := 0) d_Mod_trips_21 (by decide) ?_
  refine q_Mod_101 rfl d_Mod_trips_22 (Or.inl rfl) ?_
  exact T_Mod_trips_25 hF hQ
def F_Mod_trips_15 (c : x_S) : Option (Int32 × x_S) := F_Mod_trips_20 (x_up c 46 19 (0 : Int32))
theorem T_Mod_trips_15 {E : x_E} {o : x_S} {Q : Int32 → x_H → Prop} {c : x_S} {r : Int32} {s : x_S} (hF : F_Mod_trips_15 c = some (r, s)) (hQ : Q r (hpk o s)) : Ev E m_Mod_trips 0 0 15 [some (.ref 46)] [] (hpk o c) Q := by
  unfold F_Mod_trips_15 at hF
  refine Ev_aload_n d_Mod_trips_15 rfl ?_
  refine Ev_iconst (v := 0) d_Mod_trips_16 (by decide) ?_
  refine q_Mod_98 rfl d_Mod_trips_17 ?_
  exact T_Mod_trips_20 hF hQ
def F_Mod_trips_10 (c : x_S) : Option (Int32 × x_S) := F_Mod_trips_15 (x_up c 46 16 (0 : Int32))
theorem T_Mod_trips_10 {E : x_E} {o : x_S} {Q : Int32 → x_H → Prop} {c : x_S} {r : Int32} {s : x_S} (hF : F_Mod_trips_10 c = some (r, s)) (hQ : Q r (hpk o s)) : Ev E m_Mod_trips 0 0 10 [some (.ref 46)] [] (hpk o c) Q := by
  unfold F_Mod_trips_10 at hF
  refine Ev_aload_n d_Mod_trips_10 rfl ?_
  refine Ev_iconst (v := 0) d_Mod_trips_11 (by decide) ?_
  refine q_Mod_95 rfl d_Mod_trips_12 ?_
  exact T_Mod_trips_15 hF hQ
def F_Mod_trips_5 (c : x_S) : Option (Int32 × x_S) := F_Mod_trips_10 (x_up c 46 13 (0 : Int32))
theorem T_Mod_trips_5 {E : x_E} {o : x_S} {Q : Int32 → x_H → Prop} {c : x_S} {r : Int32} {s : x_S} (hF : F_Mod_trips_5 c = some (r, s)) (hQ : Q r (hpk o s)) : Ev E m_Mod_trips 0 0 5 [some (.ref 46)] [] (hpk o c) Q := by
  unfold F_Mod_trips_5 at hF
  refine Ev_aload_n d_Mod_trips_5 rfl ?_
  refine Ev_iconst (v := 0) d_Mod_trips_6 (by decide) ?_
  refine q_Mod_92 rfl d_Mod_trips_7 ?_
  exact T_Mod_trips_10 hF hQ
def F_Mod_trips (c : x_S) : Option (Int32 × x_S) := F_Mod_trips_5 (x_up c 46 8 (0 : Int32))
theorem C_Mod_trips {E : x_E} {o : x_S} {Q : Int32 → x_H → Prop} {c : x_S} {r : Int32} {s : x_S} (hF : F_Mod_trips c = some (r, s)) (hQ : Q r (hpk o s)) : Call E m_Mod_trips 0 0 [.ref 46] (hpk o c) Q := by
  refine Call_of (L := [some (.ref 46)]) (by decide) (by intro v hv; simp only [List.mem_cons, List.not_mem_nil, or_false] at hv; rw [hv]; rfl) (Nat.le_of_ble_eq_true rfl) rfl ?_
  unfold F_Mod_trips at hF
  refine Ev_aload_n d_Mod_trips_0 rfl ?_
  refine Ev_iconst (v := 0) d_Mod_trips_1 (by decide) ?_
  refine q_Mod_88 rfl d_Mod_trips_2 (Or.inl rfl) ?_
  exact T_Mod_trips_5 hF hQ
def F_Mod_enters_47 (c : x_S) : Option (Int32 × x_S) := some (0, c)
theorem T_Mod_enters_47 {E : x_E} {o : x_S} {Q : Int32 → x_H → Prop} {l0 : Option Value} {c : x_S} {r : Int32} {s : x_S} (hF : F_Mod_enters_47 c = some (r, s)) (hQ : Q r (hpk o s)) : Ev E m_Mod_enters 0 0 47 [l0] [] (hpk o c) Q := by
  unfold F_Mod_enters_47 at hF
  cases hF
  exact Ev_return d_Mod_enters_47 rfl hQ
def F_Mod_enters_39 (c : x_S) : Option (Int32 × x_S) := x_bind (F_Mod_become (c 46 11) c) (fun _ c1 => F_Mod_enters_47 c1)
theorem T_Mod_enters_39 {E : x_E} {o : x_S} {Q : Int32 → x_H → Prop} {c : x_S} {r : Int32} {s : x_S} (hF : F_Mod_enters_39 c = some (r, s)) (hQ : Q r (hpk o s)) : Ev E m_Mod_enters 0 0 39 [some (.ref 46)] [] (hpk o c) Q := by
  unfold F_Mod_enters_39 at hF
  refine Ev_aload_n d_Mod_enters_39 rfl ?_
  refine Ev_aload_n d_Mod_enters_40 rfl ?_
  refine g_Mod_108 rfl d_Mod_enters_41 ?_
  obtain ⟨r1, c1, hC, hF⟩ := x_bind_some hF
  refine k_Mod_104 rfl d_Mod_enters_44 ⟨by decide, by decide⟩ (Nat.le_of_ble_eq_true rfl) ?_
  exact C_Mod_become hC (T_Mod_enters_47 hF hQ)
def F_Mod_enters_26 (c : x_S) : Option (Int32 × x_S) := if (c 46 11) = (2 : Int32) then (F_Mod_enters_39 (x_up c 46 29 (0 : Int32))) else (F_Mod_enters_39 c)
theorem T_Mod_enters_26 {E : x_E} {o : x_S} {Q : Int32 → x_H → Prop} {c : x_S} {r : Int32} {s : x_S} (hF : F_Mod_enters_26 c = some (r, s)) (hQ : Q r (hpk o s)) : Ev E m_Mod_enters 0 0 26 [some (.ref 46)] [] (hpk o c) Q := by
  unfold F_Mod_enters_26 at hF
  refine Ev_aload_n d_Mod_enters_26 rfl ?_
  refine g_Mod_108 rfl d_Mod_enters_27 ?_
  refine Ev_iconst (v := 2) d_Mod_enters_30 (by decide) ?_
  refine Ev_icmp_ne (tgt := 39) d_Mod_enters_31 rfl (fun h1 => ?_) (fun h1 => ?_)
  · rw [if_neg h1] at hF
    exact T_Mod_enters_39 hF hQ
  · rw [if_pos h1] at hF
    refine Ev_aload_n d_Mod_enters_34 rfl ?_
    refine Ev_iconst (v := 0) d_Mod_enters_35 (by decide) ?_
    refine q_Mod_101 rfl d_Mod_enters_36 (Or.inl rfl) ?_
    exact T_Mod_enters_39 hF hQ
def F_Mod_enters_21 (c : x_S) : Option (Int32 × x_S) := F_Mod_enters_26 (x_up c 46 30 (0 : Int32))
theorem T_Mod_enters_21 {E : x_E} {o : x_S} {Q : Int32 → x_H → Prop} {c : x_S} {r : Int32} {s : x_S} (hF : F_Mod_enters_21 c = some (r, s)) (hQ : Q r (hpk o s)) : Ev E m_Mod_enters 0 0 21 [some (.ref 46)] [] (hpk o c) Q := by
  unfold F_Mod_enters_21 at hF
  refine Ev_aload_n d_Mod_enters_21 rfl ?_
  refine Ev_iconst (v := 0) d_Mod_enters_22 (by decide) ?_
  refine q_Mod_111 rfl d_Mod_enters_23 ?_
  exact T_Mod_enters_26 hF hQ
def F_Mod_enters (c : x_S) : Option (Int32 × x_S) := if (c 46 11) = (3 : Int32) then (if (c 46 6) = (3 : Int32) then (F_Mod_enters_26 c) else (F_Mod_enters_21 (x_up c 46 29 (1 : Int32)))) else (F_Mod_enters_26 c)
theorem C_Mod_enters {E : x_E} {o : x_S} {Q : Int32 → x_H → Prop} {c : x_S} {r : Int32} {s : x_S} (hF : F_Mod_enters c = some (r, s)) (hQ : Q r (hpk o s)) : Call E m_Mod_enters 0 0 [.ref 46] (hpk o c) Q := by
  refine Call_of (L := [some (.ref 46)]) (by decide) (by intro v hv; simp only [List.mem_cons, List.not_mem_nil, or_false] at hv; rw [hv]; rfl) (Nat.le_of_ble_eq_true rfl) rfl ?_
  unfold F_Mod_enters at hF
  refine Ev_aload_n d_Mod_enters_0 rfl ?_
  refine g_Mod_108 rfl d_Mod_enters_1 ?_
  refine Ev_iconst (v := 3) d_Mod_enters_4 (by decide) ?_
  refine Ev_icmp_ne (tgt := 26) d_Mod_enters_5 rfl (fun h1 => ?_) (fun h1 => ?_)
  · rw [if_neg h1] at hF
    exact T_Mod_enters_26 hF hQ
  · rw [if_pos h1] at hF
    refine Ev_aload_n d_Mod_enters_8 rfl ?_
    refine g_Mod_81 rfl d_Mod_enters_9 ?_
    refine Ev_iconst (v := 3) d_Mod_enters_12 (by decide) ?_
    refine Ev_icmp_eq (tgt := 26) d_Mod_enters_13 rfl (fun h2 => ?_) (fun h2 => ?_)
    · rw [if_pos h2] at hF
      exact T_Mod_enters_26 hF hQ
    · rw [if_neg h2] at hF
      refine Ev_aload_n d_Mod_enters_16 rfl ?_
      refine Ev_iconst (v := 1) d_Mod_enters_17 (by decide) ?_
      refine q_Mod_101 rfl d_Mod_enters_18 (Or.inr rfl) ?_
      exact T_Mod_enters_21 hF hQ
def F_Mod_watched_21 (s0 : Int32) (c : x_S) : Option (Int32 × x_S) := x_b01 s0 (some (s0, c))
theorem T_Mod_watched_21 {E : x_E} {o : x_S} {Q : Int32 → x_H → Prop} {l0 : Option Value} {s0 : Int32} {c : x_S} {r : Int32} {s : x_S} (hF : F_Mod_watched_21 s0 c = some (r, s)) (hQ : Q r (hpk o s)) : Ev E m_Mod_watched 0 0 21 [l0] [.int s0] (hpk o c) Q := by
  unfold F_Mod_watched_21 at hF
  obtain ⟨hb1, hF⟩ := x_b01_some hF
  cases hF
  exact Ev_zreturn d_Mod_watched_21 rfl hb1 hQ
def F_Mod_watched_16 (c : x_S) : Option (Int32 × x_S) := F_Mod_watched_21 (1 : Int32) c
theorem T_Mod_watched_16 {E : x_E} {o : x_S} {Q : Int32 → x_H → Prop} {l0 : Option Value} {c : x_S} {r : Int32} {s : x_S} (hF : F_Mod_watched_16 c = some (r, s)) (hQ : Q r (hpk o s)) : Ev E m_Mod_watched 0 0 16 [l0] [] (hpk o c) Q := by
  unfold F_Mod_watched_16 at hF
  refine Ev_iconst (v := 1) d_Mod_watched_16 (by decide) ?_
  refine Ev_goto (tgt := 21) d_Mod_watched_17 rfl ?_
  exact T_Mod_watched_21 hF hQ
def F_Mod_watched (c : x_S) : Option (Int32 × x_S) := if (c 46 6) = (2 : Int32) then (F_Mod_watched_16 c) else (if (c 46 6) = (3 : Int32) then (F_Mod_watched_16 c) else (F_Mod_watched_21 (0 : Int32) c))
theorem C_Mod_watched {E : x_E} {o : x_S} {Q : Int32 → x_H → Prop} {c : x_S} {r : Int32} {s : x_S} (hF : F_Mod_watched c = some (r, s)) (hQ : Q r (hpk o s)) : Call E m_Mod_watched 0 0 [.ref 46] (hpk o c) Q := by
  refine Call_of (L := [some (.ref 46)]) (by decide) (by intro v hv; simp only [List.mem_cons, List.not_mem_nil, or_false] at hv; rw [hv]; rfl) (Nat.le_of_ble_eq_true rfl) rfl ?_
  unfold F_Mod_watched at hF
  refine Ev_aload_n d_Mod_watched_0 rfl ?_
  refine g_Mod_81 rfl d_Mod_watched_1 ?_
  refine Ev_iconst (v := 2) d_Mod_watched_4 (by decide) ?_
  refine Ev_icmp_eq (tgt := 16) d_Mod_watched_5 rfl (fun h1 => ?_) (fun h1 => ?_)
  · rw [if_pos h1] at hF
    exact T_Mod_watched_16 hF hQ
  · rw [if_neg h1] at hF
    refine Ev_aload_n d_Mod_watched_8 rfl ?_
    refine g_Mod_81 rfl d_Mod_watched_9 ?_
    refine Ev_iconst (v := 3) d_Mod_watched_12 (by decide) ?_
    refine Ev_icmp_ne (tgt := 20) d_Mod_watched_13 rfl (fun h2 => ?_) (fun h2 => ?_)
    · rw [if_neg h2] at hF
      refine Ev_iconst (v := 0) d_Mod_watched_20 (by decide) ?_
      exact T_Mod_watched_21 hF hQ
    · rw [if_pos h2] at hF
      exact T_Mod_watched_16 hF hQ
def F_Mod_bits_57 (K : Int32 → Int32 → x_S → Option (Int32 × x_S)) (x1 x3 : Int32) (c : x_S) : Option (Int32 × x_S) := K x1 (x3 + (-1 : Int32)) c
theorem T_Mod_bits_57 {E : x_E} {o : x_S} {Q : Int32 → x_H → Prop} {K : Int32 → Int32 → x_S → Option (Int32 × x_S)} (hK : ∀ {l2 : Option Value} {x1 x3 : Int32} {c : x_S} {r : Int32} {s : x_S}, K x1 x3 c = some (r, s) → Q r (hpk o s) → Ev E m_Mod_bits 0 0 29 [some (.ref 46), some (.int x1), l2, some (.int x3)] [] (hpk o c) Q) {l2 : Option Value} {x1 x3 : Int32} {c : x_S} {r : Int32} {s : x_S} (hF : F_Mod_bits_57 K x1 x3 c = some (r, s)) (hQ : Q r (hpk o s)) : Ev E m_Mod_bits 0 0 57 [some (.ref 46), some (.int x1), l2, some (.int x3)] [] (hpk o c) Q := by
  unfold F_Mod_bits_57 at hF
  refine Ev_iinc (v := (x3 + (-1 : Int32))) (L' := [some (.ref 46), some (.int x1), l2, some (.int (x3 + (-1 : Int32)))]) d_Mod_bits_57 rfl rfl (by decide) rfl ?_
  refine Ev_goto (tgt := 29) d_Mod_bits_60 rfl ?_
  exact hK hF hQ
def F_Mod_bits_47 (K : Int32 → Int32 → x_S → Option (Int32 × x_S)) (x1 x3 : Int32) (c : x_S) : Option (Int32 × x_S) := F_Mod_bits_57 K x1 x3 (x_up c 46 35 ((c 46 35) + (1 : Int32)))
theorem T_Mod_bits_47 {E : x_E} {o : x_S} {Q : Int32 → x_H → Prop} {K : Int32 → Int32 → x_S → Option (Int32 × x_S)} (hK : ∀ {l2 : Option Value} {x1 x3 : Int32} {c : x_S} {r : Int32} {s : x_S}, K x1 x3 c = some (r, s) → Q r (hpk o s) → Ev E m_Mod_bits 0 0 29 [some (.ref 46), some (.int x1), l2, some (.int x3)] [] (hpk o c) Q) {l2 : Option Value} {x1 x3 : Int32} {c : x_S} {r : Int32} {s : x_S} (hF : F_Mod_bits_47 K x1 x3 c = some (r, s)) (hQ : Q r (hpk o s)) : Ev E m_Mod_bits 0 0 47 [some (.ref 46), some (.int x1), l2, some (.int x3)] [] (hpk o c) Q := by
  unfold F_Mod_bits_47 at hF
  refine Ev_aload_n d_Mod_bits_47 rfl ?_
  refine Ev_dup d_Mod_bits_48 rfl ?_
  refine g_Mod_114 rfl d_Mod_bits_49 ?_
  refine Ev_iconst (v := 1) d_Mod_bits_52 (by decide) ?_
  refine Ev_iadd d_Mod_bits_53 ?_
  refine q_Mod_114 rfl d_Mod_bits_54 ?_
  exact T_Mod_bits_57 (fun h1 h2 => hK h1 h2) hF hQ
def F_Mod_bits_29 : Nat → Int32 → Int32 → x_S → Option (Int32 × x_S)
  | 0, _, _, _ => none
  | n + 1, x1, x3, c => if x3 < 0 then (some ((1 : Int32), c)) else (x_ix (c 46 35) 600 (fun j2 => F_Mod_bits_47 (F_Mod_bits_29 n) x1 x3 (x_up c 59 j2 ((x1 >>> (x3 &&& 31)) &&& (1 : Int32)))))
theorem T_Mod_bits_29 {E : x_E} {o : x_S} {Q : Int32 → x_H → Prop} : ∀ (n : Nat) {l2 : Option Value} {x1 x3 : Int32} {c : x_S} {r : Int32} {s : x_S}, F_Mod_bits_29 n x1 x3 c = some (r, s) → Q r (hpk o s) → Ev E m_Mod_bits 0 0 29 [some (.ref 46), some (.int x1), l2, some (.int x3)] [] (hpk o c) Q := by
  intro n
  induction n with
  | zero => intro l2 x1 x3 c r s hF; rw [F_Mod_bits_29] at hF; cases hF
  | succ n ih =>
    intro l2 x1 x3 c r s hF hQ
    rw [F_Mod_bits_29] at hF
    refine Ev_iload_n d_Mod_bits_29 rfl ?_
    refine Ev_if_lt (tgt := 63) d_Mod_bits_30 rfl (fun h1 => ?_) (fun h1 => ?_)
    · rw [if_pos h1] at hF
      refine Ev_iconst (v := 1) d_Mod_bits_63 (by decide) ?_
      cases hF
      exact Ev_zreturn d_Mod_bits_64 rfl (Or.inr rfl) hQ
    · rw [if_neg h1] at hF
      refine Ev_aload_n d_Mod_bits_33 rfl ?_
      refine g_Mod_51 rfl d_Mod_bits_34 ?_
      refine Ev_aload_n d_Mod_bits_37 rfl ?_
      refine g_Mod_114 rfl d_Mod_bits_38 ?_
      refine Ev_iload_n d_Mod_bits_41 rfl ?_
      refine Ev_iload_n d_Mod_bits_42 rfl ?_
      refine Ev_ishr d_Mod_bits_43 ?_
      refine Ev_iconst (v := 1) d_Mod_bits_44 (by decide) ?_
      refine Ev_iand d_Mod_bits_45 ?_
      obtain ⟨j2, hij2, hjj2, hF⟩ := x_ix_some hF
      refine Em_iast d_Mod_bits_46 (P := 59) (by decide) rfl hij2 hjj2 ?_
      exact T_Mod_bits_47 (fun h1 h2 => ih h1 h2) hF hQ
def F_Mod_bits_23 (c : x_S) : Option (Int32 × x_S) := some ((0 : Int32), c)
theorem T_Mod_bits_23 {E : x_E} {o : x_S} {Q : Int32 → x_H → Prop} {l0 : Option Value} {l1 : Option Value} {l2 : Option Value} {l3 : Option Value} {c : x_S} {r : Int32} {s : x_S} (hF : F_Mod_bits_23 c = some (r, s)) (hQ : Q r (hpk o s)) : Ev E m_Mod_bits 0 0 23 [l0, l1, l2, l3] [] (hpk o c) Q := by
  unfold F_Mod_bits_23 at hF
  refine Ev_iconst (v := 0) d_Mod_bits_23 (by decide) ?_
  cases hF
  exact Ev_zreturn d_Mod_bits_24 rfl (Or.inl rfl) hQ
def F_Mod_bits (x1 x2 : Int32) (c : x_S) : Option (Int32 × x_S) := if x2 < (1 : Int32) then (F_Mod_bits_23 c) else (if (30 : Int32) < x2 then (F_Mod_bits_23 c) else (if ((c 46 35) + x2) ≤ (600 : Int32) then (F_Mod_bits_29 x_fuel x1 (x2 - (1 : Int32)) c) else (F_Mod_bits_23 c)))
theorem C_Mod_bits {E : x_E} {o : x_S} {Q : Int32 → x_H → Prop} {x1 x2 : Int32} {c : x_S} {r : Int32} {s : x_S} (hF : F_Mod_bits x1 x2 c = some (r, s)) (hQ : Q r (hpk o s)) : Call E m_Mod_bits 0 0 [.ref 46, .int x1, .int x2] (hpk o c) Q := by
  refine Call_of (L := [some (.ref 46), some (.int x1), some (.int x2), none]) (by decide) (by intro v hv; simp only [List.mem_cons, List.not_mem_nil, or_false] at hv; rcases hv with rfl | rfl | rfl <;> rfl) (Nat.le_of_ble_eq_true rfl) rfl ?_
  unfold F_Mod_bits at hF
  refine Ev_iload_n d_Mod_bits_0 rfl ?_
  refine Ev_iconst (v := 1) d_Mod_bits_1 (by decide) ?_
  refine Ev_icmp_lt (tgt := 23) d_Mod_bits_2 rfl (fun h1 => ?_) (fun h1 => ?_)
  · rw [if_pos h1] at hF
    exact T_Mod_bits_23 hF hQ
  · rw [if_neg h1] at hF
    refine Ev_iload_n d_Mod_bits_5 rfl ?_
    refine Ev_bipush (v := (30)) d_Mod_bits_6 (by decide) ?_
    refine Ev_icmp_gt (tgt := 23) d_Mod_bits_8 rfl (fun h2 => ?_) (fun h2 => ?_)
    · rw [if_pos h2] at hF
      exact T_Mod_bits_23 hF hQ
    · rw [if_neg h2] at hF
      refine Ev_aload_n d_Mod_bits_11 rfl ?_
      refine g_Mod_114 rfl d_Mod_bits_12 ?_
      refine Ev_iload_n d_Mod_bits_15 rfl ?_
      refine Ev_iadd d_Mod_bits_16 ?_
      refine Ev_sipush (v := (600)) d_Mod_bits_17 (by decide) ?_
      refine Ev_icmp_le (tgt := 25) d_Mod_bits_20 rfl (fun h3 => ?_) (fun h3 => ?_)
      · rw [if_pos h3] at hF
        refine Ev_iload_n d_Mod_bits_25 rfl ?_
        refine Ev_iconst (v := 1) d_Mod_bits_26 (by decide) ?_
        refine Ev_isub d_Mod_bits_27 ?_
        refine Ev_istore_n (L' := [some (.ref 46), some (.int x1), some (.int x2), some (.int (x2 - (1 : Int32)))]) d_Mod_bits_28 (by decide) rfl ?_
        exact T_Mod_bits_29 x_fuel hF hQ
      · rw [if_neg h3] at hF
        exact T_Mod_bits_23 hF hQ
def F_Mod_read_67 (K : Int32 → Int32 → Int32 → x_S → Option (Int32 × x_S)) (x1 x2 x3 : Int32) (c : x_S) : Option (Int32 × x_S) := K x1 x2 (x3 + (1 : Int32)) c
theorem T_Mod_read_67 {E : x_E} {o : x_S} {Q : Int32 → x_H → Prop} {K : Int32 → Int32 → Int32 → x_S → Option (Int32 × x_S)} (hK : ∀ {x1 x2 x3 : Int32} {c : x_S} {r : Int32} {s : x_S}, K x1 x2 x3 c = some (r, s) → Q r (hpk o s) → Ev E m_Mod_read 0 0 38 [some (.ref 46), some (.int x1), some (.int x2), some (.int x3)] [] (hpk o c) Q) {x1 x2 x3 : Int32} {c : x_S} {r : Int32} {s : x_S} (hF : F_Mod_read_67 K x1 x2 x3 c = some (r, s)) (hQ : Q r (hpk o s)) : Ev E m_Mod_read 0 0 67 [some (.ref 46), some (.int x1), some (.int x2), some (.int x3)] [] (hpk o c) Q := by
  unfold F_Mod_read_67 at hF
  refine Ev_iinc (v := (x3 + (1 : Int32))) (L' := [some (.ref 46), some (.int x1), some (.int x2), some (.int (x3 + (1 : Int32)))]) d_Mod_read_67 rfl rfl (by decide) rfl ?_
  refine Ev_goto (tgt := 38) d_Mod_read_70 rfl ?_
  exact hK hF hQ
def F_Mod_read_38 : Nat → Int32 → Int32 → Int32 → x_S → Option (Int32 × x_S)
  | 0, _, _, _, _ => none
  | n + 1, x1, x2, x3, c => if x1 ≤ x3 then (some (x2, c)) else (x_ix (c 46 37) 600 (fun j2 => F_Mod_read_67 (F_Mod_read_38 n) x1 (((2 : Int32) * x2) + (c 59 j2)) x3 (x_up c 46 37 ((c 46 37) + (1 : Int32)))))
theorem T_Mod_read_38 {E : x_E} {o : x_S} {Q : Int32 → x_H → Prop} : ∀ (n : Nat) {x1 x2 x3 : Int32} {c : x_S} {r : Int32} {s : x_S}, F_Mod_read_38 n x1 x2 x3 c = some (r, s) → Q r (hpk o s) → Ev E m_Mod_read 0 0 38 [some (.ref 46), some (.int x1), some (.int x2), some (.int x3)] [] (hpk o c) Q := by
  intro n
  induction n with
  | zero => intro x1 x2 x3 c r s hF; rw [F_Mod_read_38] at hF; cases hF
  | succ n ih =>
    intro x1 x2 x3 c r s hF hQ
    rw [F_Mod_read_38] at hF
    refine Ev_iload_n d_Mod_read_38 rfl ?_
    refine Ev_iload_n d_Mod_read_39 rfl ?_
    refine Ev_icmp_ge (tgt := 73) d_Mod_read_40 rfl (fun h1 => ?_) (fun h1 => ?_)
    · rw [if_pos h1] at hF
      refine Ev_iload_n d_Mod_read_73 rfl ?_
      cases hF
      exact Ev_ireturn d_Mod_read_74 rfl hQ
    · rw [if_neg h1] at hF
      refine Ev_iconst (v := 2) d_Mod_read_43 (by decide) ?_
      refine Ev_iload_n d_Mod_read_44 rfl ?_
      refine Ev_imul d_Mod_read_45 ?_
      refine Ev_aload_n d_Mod_read_46 rfl ?_
      refine g_Mod_51 rfl d_Mod_read_47 ?_
      refine Ev_aload_n d_Mod_read_50 rfl ?_
      refine g_Mod_120 rfl d_Mod_read_51 ?_
      obtain ⟨j2, hij2, hjj2, hF⟩ := x_ix_some hF
      refine Em_iald d_Mod_read_54 (P := 59) (by decide) rfl hij2 hjj2 ?_
      refine Ev_iadd d_Mod_read_55 ?_
      refine Ev_istore_n (L' := [some (.ref 46), some (.int x1), some (.int (((2 : Int32) * x2) + (c 59 j2))), some (.int x3)]) d_Mod_read_56 (by decide) rfl ?_
      refine Ev_aload_n d_Mod_read_57 rfl ?_
      refine Ev_dup d_Mod_read_58 rfl ?_
      refine g_Mod_120 rfl d_Mod_read_59 ?_
      refine Ev_iconst (v := 1) d_Mod_read_62 (by decide) ?_
      refine Ev_iadd d_Mod_read_63 ?_
      refine q_Mod_120 rfl d_Mod_read_64 ?_
      exact T_Mod_read_67 (fun h1 h2 => ih h1 h2) hF hQ
def F_Mod_read_25 (x1 : Int32) (c : x_S) : Option (Int32 × x_S) := if (c 46 38) = 0 then (F_Mod_read_38 x_fuel x1 (0 : Int32) (0 : Int32) c) else (some ((0 : Int32), c))
theorem T_Mod_read_25 {E : x_E} {o : x_S} {Q : Int32 → x_H → Prop} {l2 : Option Value} {l3 : Option Value} {x1 : Int32} {c : x_S} {r : Int32} {s : x_S} (hF : F_Mod_read_25 x1 c = some (r, s)) (hQ : Q r (hpk o s)) : Ev E m_Mod_read 0 0 25 [some (.ref 46), some (.int x1), l2, l3] [] (hpk o c) Q := by
  unfold F_Mod_read_25 at hF
  refine Ev_aload_n d_Mod_read_25 rfl ?_
  refine g_Mod_117 rfl d_Mod_read_26 ?_
  refine Ev_if_eq (tgt := 34) d_Mod_read_29 rfl (fun h1 => ?_) (fun h1 => ?_)
  · rw [if_pos h1] at hF
    refine Ev_iconst (v := 0) d_Mod_read_34 (by decide) ?_
    refine Ev_istore_n (L' := [some (.ref 46), some (.int x1), some (.int (0 : Int32)), l3]) d_Mod_read_35 (by decide) rfl ?_
    refine Ev_iconst (v := 0) d_Mod_read_36 (by decide) ?_
    refine Ev_istore_n (L' := [some (.ref 46), some (.int x1), some (.int (0 : Int32)), some (.int (0 : Int32))]) d_Mod_read_37 (by decide) rfl ?_
    exact T_Mod_read_38 x_fuel hF hQ
  · rw [if_neg h1] at hF
    refine Ev_iconst (v := 0) d_Mod_read_32 (by decide) ?_
    cases hF
    exact Ev_ireturn d_Mod_read_33 rfl hQ
def F_Mod_read (x1 : Int32) (c : x_S) : Option (Int32 × x_S) := if (c 46 38) = 0 then (if ((c 46 37) + x1) ≤ (c 46 35) then (F_Mod_read_25 x1 c) else (F_Mod_read_25 x1 (x_up c 46 38 (2 : Int32)))) else (F_Mod_read_25 x1 c)
theorem C_Mod_read {E : x_E} {o : x_S} {Q : Int32 → x_H → Prop} {x1 : Int32} {c : x_S} {r : Int32} {s : x_S} (hF : F_Mod_read x1 c = some (r, s)) (hQ : Q r (hpk o s)) : Call E m_Mod_read 0 0 [.ref 46, .int x1] (hpk o c) Q := by
  refine Call_of (L := [some (.ref 46), some (.int x1), none, none]) (by decide) (by intro v hv; simp only [List.mem_cons, List.not_mem_nil, or_false] at hv; rcases hv with rfl | rfl <;> rfl) (Nat.le_of_ble_eq_true rfl) rfl ?_
  unfold F_Mod_read at hF
  refine Ev_aload_n d_Mod_read_0 rfl ?_
  refine g_Mod_117 rfl d_Mod_read_1 ?_
  refine Ev_if_ne (tgt := 25) d_Mod_read_4 rfl (fun h1 => ?_) (fun h1 => ?_)
  · rw [if_neg h1] at hF
    exact T_Mod_read_25 hF hQ
  · rw [if_pos h1] at hF
    refine Ev_aload_n d_Mod_read_7 rfl ?_
    refine g_Mod_120 rfl d_Mod_read_8 ?_
    refine Ev_iload_n d_Mod_read_11 rfl ?_
    refine Ev_iadd d_Mod_read_12 ?_
    refine Ev_aload_n d_Mod_read_13 rfl ?_
    refine g_Mod_114 rfl d_Mod_read_14 ?_
    refine Ev_icmp_le (tgt := 25) d_Mod_read_17 rfl (fun h2 => ?_) (fun h2 => ?_)
    · rw [if_pos h2] at hF
      exact T_Mod_read_25 hF hQ
    · rw [if_neg h2] at hF
      refine Ev_aload_n d_Mod_read_20 rfl ?_
      refine Ev_iconst (v := 2) d_Mod_read_21 (by decide) ?_
      refine q_Mod_117 rfl d_Mod_read_22 ?_
      exact T_Mod_read_25 hF hQ
def F_Mod_check_16 (c : x_S) : Option (Int32 × x_S) := some (0, c)
theorem T_Mod_check_16 {E : x_E} {o : x_S} {Q : Int32 → x_H → Prop} {l0 : Option Value} {l1 : Option Value} {l2 : Option Value} {c : x_S} {r : Int32} {s : x_S} (hF : F_Mod_check_16 c = some (r, s)) (hQ : Q r (hpk o s)) : Ev E m_Mod_check 0 0 16 [l0, l1, l2] [] (hpk o c) Q := by
  unfold F_Mod_check_16 at hF
  cases hF
  exact Ev_return d_Mod_check_16 rfl hQ
def F_Mod_check (x1 x2 : Int32) (c : x_S) : Option (Int32 × x_S) := if (c 46 38) = 0 then (if x1 = 0 then (F_Mod_check_16 (x_up c 46 38 x2)) else (F_Mod_check_16 c)) else (F_Mod_check_16 c)
theorem C_Mod_check {E : x_E} {o : x_S} {Q : Int32 → x_H → Prop} {x1 x2 : Int32} {c : x_S} {r : Int32} {s : x_S} (hF : F_Mod_check x1 x2 c = some (r, s)) (hQ : Q r (hpk o s)) : Call E m_Mod_check 0 0 [.ref 46, .int x1, .int x2] (hpk o c) Q := by
  refine Call_of (L := [some (.ref 46), some (.int x1), some (.int x2)]) (by decide) (by intro v hv; simp only [List.mem_cons, List.not_mem_nil, or_false] at hv; rcases hv with rfl | rfl | rfl <;> rfl) (Nat.le_of_ble_eq_true rfl) rfl ?_
  unfold F_Mod_check at hF
  refine Ev_aload_n d_Mod_check_0 rfl ?_
  refine g_Mod_117 rfl d_Mod_check_1 ?_
  refine Ev_if_ne (tgt := 16) d_Mod_check_4 rfl (fun h1 => ?_) (fun h1 => ?_)
  · rw [if_neg h1] at hF
    exact T_Mod_check_16 hF hQ
  · rw [if_pos h1] at hF
    refine Ev_iload_n d_Mod_check_7 rfl ?_
    refine Ev_if_ne (tgt := 16) d_Mod_check_8 rfl (fun h2 => ?_) (fun h2 => ?_)
    · rw [if_neg h2] at hF
      exact T_Mod_check_16 hF hQ
    · rw [if_pos h2] at hF
      refine Ev_aload_n d_Mod_check_11 rfl ?_
      refine Ev_iload_n d_Mod_check_12 rfl ?_
      refine q_Mod_117 rfl d_Mod_check_13 ?_
      exact T_Mod_check_16 hF hQ
def F_Mod_slotOf_60 (s0 : Int32) (c : x_S) : Option (Int32 × x_S) := some (s0, c)
theorem T_Mod_slotOf_60 {E : x_E} {o : x_S} {Q : Int32 → x_H → Prop} {l0 : Option Value} {s0 : Int32} {c : x_S} {r : Int32} {s : x_S} (hF : F_Mod_slotOf_60 s0 c = some (r, s)) (hQ : Q r (hpk o s)) : Ev E m_Mod_slotOf 0 0 60 [l0] [.int s0] (hpk o c) Q := by
  unfold F_Mod_slotOf_60 at hF
  cases hF
  exact Ev_ireturn d_Mod_slotOf_60 rfl hQ
def F_Mod_slotOf (x0 : Int32) (c : x_S) : Option (Int32 × x_S) := if x0 = (5 : Int32) then (F_Mod_slotOf_60 (0 : Int32) c) else (if x0 = (15 : Int32) then (F_Mod_slotOf_60 (1 : Int32) c) else (if x0 = (21 : Int32) then (F_Mod_slotOf_60 (2 : Int32) c) else (if x0 = (27 : Int32) then (F_Mod_slotOf_60 (3 : Int32) c) else (if x0 = (65 : Int32) then (F_Mod_slotOf_60 (4 : Int32) c) else (if x0 = (66 : Int32) then (F_Mod_slotOf_60 (5 : Int32) c) else (F_Mod_slotOf_60 (-1 : Int32) c))))))
theorem C_Mod_slotOf {E : x_E} {o : x_S} {Q : Int32 → x_H → Prop} {x0 : Int32} {c : x_S} {r : Int32} {s : x_S} (hF : F_Mod_slotOf x0 c = some (r, s)) (hQ : Q r (hpk o s)) : Call E m_Mod_slotOf 0 0 [.int x0] (hpk o c) Q := by
  refine Call_of (L := [some (.int x0)]) (by decide) (by intro v hv; simp only [List.mem_cons, List.not_mem_nil, or_false] at hv; rw [hv]; rfl) (Nat.le_of_ble_eq_true rfl) rfl ?_
  unfold F_Mod_slotOf at hF
  refine Ev_iload_n d_Mod_slotOf_0 rfl ?_
  refine Ev_iconst (v := 5) d_Mod_slotOf_1 (by decide) ?_
  refine Ev_icmp_ne (tgt := 9) d_Mod_slotOf_2 rfl (fun h1 => ?_) (fun h1 => ?_)
  · rw [if_neg h1] at hF
    refine Ev_iload_n d_Mod_slotOf_9 rfl ?_
    refine Ev_bipush (v := (15)) d_Mod_slotOf_10 (by decide) ?_
    refine Ev_icmp_ne (tgt := 19) d_Mod_slotOf_12 rfl (fun h2 => ?_) (fun h2 => ?_)
    · rw [if_neg h2] at hF
      refine Ev_iload_n d_Mod_slotOf_19 rfl ?_
      refine Ev_bipush (v := (21)) d_Mod_slotOf_20 (by decide) ?_
      refine Ev_icmp_ne (tgt := 29) d_Mod_slotOf_22 rfl (fun h3 => ?_) (fun h3 => ?_)
      · rw [if_neg h3] at hF
        refine Ev_iload_n d_Mod_slotOf_29 rfl ?_
        refine Ev_bipush (v := (27)) d_Mod_slotOf_30 (by decide) ?_
        refine Ev_icmp_ne (tgt := 39) d_Mod_slotOf_32 rfl (fun h4 => ?_) (fun h4 => ?_)
        · rw [if_neg h4] at hF
          refine Ev_iload_n d_Mod_slotOf_39 rfl ?_
          refine Ev_bipush (v := (65)) d_Mod_slotOf_40 (by decide) ?_
          refine Ev_icmp_ne (tgt := 49) d_Mod_slotOf_42 rfl (fun h5 => ?_) (fun h5 => ?_)
          · rw [if_neg h5] at hF
            refine Ev_iload_n d_Mod_slotOf_49 rfl ?_
            refine Ev_bipush (v := (66)) d_Mod_slotOf_50 (by decide) ?_
            refine Ev_icmp_ne (tgt := 59) d_Mod_slotOf_52 rfl (fun h6 => ?_) (fun h6 => ?_)
            · rw [if_neg h6] at hF
              refine Ev_iconst (v := (-1)) d_Mod_slotOf_59 (by decide) ?_
              exact T_Mod_slotOf_60 hF hQ
            · rw [if_pos h6] at hF
              refine Ev_iconst (v := 5) d_Mod_slotOf_55 (by decide) ?_
              refine Ev_goto (tgt := 60) d_Mod_slotOf_56 rfl ?_
              exact T_Mod_slotOf_60 hF hQ
          · rw [if_pos h5] at hF
            refine Ev_iconst (v := 4) d_Mod_slotOf_45 (by decide) ?_
            refine Ev_goto (tgt := 60) d_Mod_slotOf_46 rfl ?_
            exact T_Mod_slotOf_60 hF hQ
        · rw [if_pos h4] at hF
          refine Ev_iconst (v := 3) d_Mod_slotOf_35 (by decide) ?_
          refine Ev_goto (tgt := 60) d_Mod_slotOf_36 rfl ?_
          exact T_Mod_slotOf_60 hF hQ
      · rw [if_pos h3] at hF
        refine Ev_iconst (v := 2) d_Mod_slotOf_25 (by decide) ?_
        refine Ev_goto (tgt := 60) d_Mod_slotOf_26 rfl ?_
        exact T_Mod_slotOf_60 hF hQ
    · rw [if_pos h2] at hF
      refine Ev_iconst (v := 1) d_Mod_slotOf_15 (by decide) ?_
      refine Ev_goto (tgt := 60) d_Mod_slotOf_16 rfl ?_
      exact T_Mod_slotOf_60 hF hQ
  · rw [if_pos h1] at hF
    refine Ev_iconst (v := 0) d_Mod_slotOf_5 (by decide) ?_
    refine Ev_goto (tgt := 60) d_Mod_slotOf_6 rfl ?_
    exact T_Mod_slotOf_60 hF hQ
def F_Mod_told (x1 x2 x3 : Int32) (c : x_S) : Option (Int32 × x_S) := x_ix ((((21 : Int32) * x1) + ((3 : Int32) * x2)) + x3) 126 (fun j1 => some ((c 62 j1), c))
theorem C_Mod_told {E : x_E} {o : x_S} {Q : Int32 → x_H → Prop} {x1 x2 x3 : Int32} {c : x_S} {r : Int32} {s : x_S} (hF : F_Mod_told x1 x2 x3 c = some (r, s)) (hQ : Q r (hpk o s)) : Call E m_Mod_told 0 0 [.ref 46, .int x1, .int x2, .int x3] (hpk o c) Q := by
  refine Call_of (L := [some (.ref 46), some (.int x1), some (.int x2), some (.int x3)]) (by decide) (by intro v hv; simp only [List.mem_cons, List.not_mem_nil, or_false] at hv; rcases hv with rfl | rfl | rfl | rfl <;> rfl) (Nat.le_of_ble_eq_true rfl) rfl ?_
  unfold F_Mod_told at hF
  refine Ev_aload_n d_Mod_told_0 rfl ?_
  refine g_Mod_60 rfl d_Mod_told_1 ?_
  refine Ev_bipush (v := (21)) d_Mod_told_4 (by decide) ?_
  refine Ev_iload_n d_Mod_told_6 rfl ?_
  refine Ev_imul d_Mod_told_7 ?_
  refine Ev_iconst (v := 3) d_Mod_told_8 (by decide) ?_
  refine Ev_iload_n d_Mod_told_9 rfl ?_
  refine Ev_imul d_Mod_told_10 ?_
  refine Ev_iadd d_Mod_told_11 ?_
  refine Ev_iload_n d_Mod_told_12 rfl ?_
  refine Ev_iadd d_Mod_told_13 ?_
  obtain ⟨j1, hij1, hjj1, hF⟩ := x_ix_some hF
  refine Em_iald d_Mod_told_14 (P := 62) (by decide) rfl hij1 hjj1 ?_
  cases hF
  exact Ev_ireturn d_Mod_told_15 rfl hQ
def F_Mod_tell_17 (c : x_S) : Option (Int32 × x_S) := some (0, c)
theorem T_Mod_tell_17 {E : x_E} {o : x_S} {Q : Int32 → x_H → Prop} {l0 : Option Value} {l1 : Option Value} {l2 : Option Value} {l3 : Option Value} {l4 : Option Value} {c : x_S} {r : Int32} {s : x_S} (hF : F_Mod_tell_17 c = some (r, s)) (hQ : Q r (hpk o s)) : Ev E m_Mod_tell 0 0 17 [l0, l1, l2, l3, l4] [] (hpk o c) Q := by
  unfold F_Mod_tell_17 at hF
  cases hF
  exact Ev_return d_Mod_tell_17 rfl hQ
def F_Mod_tell (x1 x2 x3 x4 : Int32) (c : x_S) : Option (Int32 × x_S) := x_ix ((((21 : Int32) * x1) + ((3 : Int32) * x2)) + x3) 126 (fun j1 => F_Mod_tell_17 (x_up c 62 j1 x4))
theorem C_Mod_tell {E : x_E} {o : x_S} {Q : Int32 → x_H → Prop} {x1 x2 x3 x4 : Int32} {c : x_S} {r : Int32} {s : x_S} (hF : F_Mod_tell x1 x2 x3 x4 c = some (r, s)) (hQ : Q r (hpk o s)) : Call E m_Mod_tell 0 0 [.ref 46, .int x1, .int x2, .int x3, .int x4] (hpk o c) Q := by
  refine Call_of (L := [some (.ref 46), some (.int x1), some (.int x2), some (.int x3), some (.int x4)]) (by decide) (by intro v hv; simp only [List.mem_cons, List.not_mem_nil, or_false] at hv; rcases hv with rfl | rfl | rfl | rfl | rfl <;> rfl) (Nat.le_of_ble_eq_true rfl) rfl ?_
  unfold F_Mod_tell at hF
  refine Ev_aload_n d_Mod_tell_0 rfl ?_
  refine g_Mod_60 rfl d_Mod_tell_1 ?_
  refine Ev_bipush (v := (21)) d_Mod_tell_4 (by decide) ?_
  refine Ev_iload_n d_Mod_tell_6 rfl ?_
  refine Ev_imul d_Mod_tell_7 ?_
  refine Ev_iconst (v := 3) d_Mod_tell_8 (by decide) ?_
  refine Ev_iload_n d_Mod_tell_9 rfl ?_
  refine Ev_imul d_Mod_tell_10 ?_
  refine Ev_iadd d_Mod_tell_11 ?_
  refine Ev_iload_n d_Mod_tell_12 rfl ?_
  refine Ev_iadd d_Mod_tell_13 ?_
  refine Ev_iload d_Mod_tell_14 rfl ?_
  obtain ⟨j1, hij1, hjj1, hF⟩ := x_ix_some hF
  refine Em_iast d_Mod_tell_16 (P := 62) (by decide) rfl hij1 hjj1 ?_
  exact T_Mod_tell_17 hF hQ
def F_Mod_limitOf_18 (s0 : Int32) (c : x_S) : Option (Int32 × x_S) := some (s0, c)
theorem T_Mod_limitOf_18 {E : x_E} {o : x_S} {Q : Int32 → x_H → Prop} {l0 : Option Value} {s0 : Int32} {c : x_S} {r : Int32} {s : x_S} (hF : F_Mod_limitOf_18 s0 c = some (r, s)) (hQ : Q r (hpk o s)) : Ev E m_Mod_limitOf 0 0 18 [l0] [.int s0] (hpk o c) Q := by
  unfold F_Mod_limitOf_18 at hF
  cases hF
  exact Ev_ireturn d_Mod_limitOf_18 rfl hQ
def F_Mod_limitOf (x0 : Int32) (c : x_S) : Option (Int32 × x_S) := if ((5 : Int32) * x0) ≤ (600 : Int32) then (F_Mod_limitOf_18 ((5 : Int32) * x0) c) else (F_Mod_limitOf_18 (600 : Int32) c)
theorem C_Mod_limitOf {E : x_E} {o : x_S} {Q : Int32 → x_H → Prop} {x0 : Int32} {c : x_S} {r : Int32} {s : x_S} (hF : F_Mod_limitOf x0 c = some (r, s)) (hQ : Q r (hpk o s)) : Call E m_Mod_limitOf 0 0 [.int x0] (hpk o c) Q := by
  refine Call_of (L := [some (.int x0)]) (by decide) (by intro v hv; simp only [List.mem_cons, List.not_mem_nil, or_false] at hv; rw [hv]; rfl) (Nat.le_of_ble_eq_true rfl) rfl ?_
  unfold F_Mod_limitOf at hF
  refine Ev_iconst (v := 5) d_Mod_limitOf_0 (by decide) ?_
  refine Ev_iload_n d_Mod_limitOf_1 rfl ?_
  refine Ev_imul d_Mod_limitOf_2 ?_
  refine Ev_sipush (v := (600)) d_Mod_limitOf_3 (by decide) ?_
  refine Ev_icmp_le (tgt := 15) d_Mod_limitOf_6 rfl (fun h1 => ?_) (fun h1 => ?_)
  · rw [if_pos h1] at hF
    refine Ev_iconst (v := 5) d_Mod_limitOf_15 (by decide) ?_
    refine Ev_iload_n d_Mod_limitOf_16 rfl ?_
    refine Ev_imul d_Mod_limitOf_17 ?_
    exact T_Mod_limitOf_18 hF hQ
  · rw [if_neg h1] at hF
    refine Ev_sipush (v := (600)) d_Mod_limitOf_9 (by decide) ?_
    refine Ev_goto (tgt := 18) d_Mod_limitOf_12 rfl ?_
    exact T_Mod_limitOf_18 hF hQ
def F_Mod_numbers_364 (c : x_S) : Option (Int32 × x_S) := some (0, c)
theorem T_Mod_numbers_364 {E : x_E} {o : x_S} {Q : Int32 → x_H → Prop} {l0 : Option Value} {l1 : Option Value} {l2 : Option Value} {l3 : Option Value} {c : x_S} {r : Int32} {s : x_S} (hF : F_Mod_numbers_364 c = some (r, s)) (hQ : Q r (hpk o s)) : Ev E m_Mod_numbers 0 0 364 [l0, l1, l2, l3] [] (hpk o c) Q := by
  unfold F_Mod_numbers_364 at hF
  cases hF
  exact Ev_return d_Mod_numbers_364 rfl hQ
def F_Mod_numbers_361 (s1 s2 s3 s4 : Int32) (c : x_S) : Option (Int32 × x_S) := x_bind (F_Mod_tell s1 s2 s3 s4 c) (fun _ c1 => F_Mod_numbers_364 c1)
theorem T_Mod_numbers_361 {E : x_E} {o : x_S} {Q : Int32 → x_H → Prop} {l0 : Option Value} {l1 : Option Value} {l2 : Option Value} {l3 : Option Value} {s1 s2 s3 s4 : Int32} {c : x_S} {r : Int32} {s : x_S} (hF : F_Mod_numbers_361 s1 s2 s3 s4 c = some (r, s)) (hQ : Q r (hpk o s)) : Ev E m_Mod_numbers 0 0 361 [l0, l1, l2, l3] [.int s4, .int s3, .int s2, .int s1, .ref 46] (hpk o c) Q := by
  unfold F_Mod_numbers_361 at hF
  obtain ⟨r1, c1, hC, hF⟩ := x_bind_some hF
  refine k_Mod_137 rfl d_Mod_numbers_361 ⟨by decide, by decide⟩ (Nat.le_of_ble_eq_true rfl) ?_
  exact C_Mod_tell hC (T_Mod_numbers_364 hF hQ)
def F_Mod_numbers_358 (s1 s2 s3 s4 : Int32) (c : x_S) : Option (Int32 × x_S) := x_bind (F_Mod_limitOf s4 c) (fun r1 c1 => F_Mod_numbers_361 s1 s2 s3 r1 c1)
theorem T_Mod_numbers_358 {E : x_E} {o : x_S} {Q : Int32 → x_H → Prop} {l0 : Option Value} {l1 : Option Value} {l2 : Option Value} {l3 : Option Value} {s1 s2 s3 s4 : Int32} {c : x_S} {r : Int32} {s : x_S} (hF : F_Mod_numbers_358 s1 s2 s3 s4 c = some (r, s)) (hQ : Q r (hpk o s)) : Ev E m_Mod_numbers 0 0 358 [l0, l1, l2, l3] [.int s4, .int s3, .int s2, .int s1, .ref 46] (hpk o c) Q := by
  unfold F_Mod_numbers_358 at hF
  obtain ⟨r1, c1, hC, hF⟩ := x_bind_some hF
  refine k_Mod_145 rfl d_Mod_numbers_358 ⟨by decide, by decide⟩ (Nat.le_of_ble_eq_true rfl) ?_
  exact C_Mod_limitOf hC (T_Mod_numbers_361 hF hQ)
def F_Mod_numbers_348 (x1 : Int32) (c : x_S) : Option (Int32 × x_S) := x_bind (F_Mod_read (7 : Int32) c) (fun r1 c1 => F_Mod_numbers_358 x1 (1 : Int32) (0 : Int32) r1 c1)
theorem T_Mod_numbers_348 {E : x_E} {o : x_S} {Q : Int32 → x_H → Prop} {l2 : Option Value} {l3 : Option Value} {x1 : Int32} {c : x_S} {r : Int32} {s : x_S} (hF : F_Mod_numbers_348 x1 c = some (r, s)) (hQ : Q r (hpk o s)) : Ev E m_Mod_numbers 0 0 348 [some (.ref 46), some (.int x1), l2, l3] [] (hpk o c) Q := by
  unfold F_Mod_numbers_348 at hF
  refine Ev_aload_n d_Mod_numbers_348 rfl ?_
  refine Ev_iload_n d_Mod_numbers_349 rfl ?_
  refine Ev_iconst (v := 1) d_Mod_numbers_350 (by decide) ?_
  refine Ev_iconst (v := 0) d_Mod_numbers_351 (by decide) ?_
  refine Ev_aload_n d_Mod_numbers_352 rfl ?_
  refine Ev_bipush (v := (7)) d_Mod_numbers_353 (by decide) ?_
  obtain ⟨r1, c1, hC, hF⟩ := x_bind_some hF
  refine k_Mod_123 rfl d_Mod_numbers_355 ⟨by decide, by decide⟩ (Nat.le_of_ble_eq_true rfl) ?_
  exact C_Mod_read hC (T_Mod_numbers_358 hF hQ)
def F_Mod_numbers_343 (x1 s1 : Int32) (c : x_S) : Option (Int32 × x_S) := x_bind (F_Mod_check s1 (6 : Int32) c) (fun _ c1 => F_Mod_numbers_348 x1 c1)
theorem T_Mod_numbers_343 {E : x_E} {o : x_S} {Q : Int32 → x_H → Prop} {l2 : Option Value} {l3 : Option Value} {x1 s1 : Int32} {c : x_S} {r : Int32} {s : x_S} (hF : F_Mod_numbers_343 x1 s1 c = some (r, s)) (hQ : Q r (hpk o s)) : Ev E m_Mod_numbers 0 0 343 [some (.ref 46), some (.int x1), l2, l3] [.int s1, .ref 46] (hpk o c) Q := by
  unfold F_Mod_numbers_343 at hF
  refine Ev_bipush (v := (6)) d_Mod_numbers_343 (by decide) ?_
  obtain ⟨r1, c1, hC, hF⟩ := x_bind_some hF
  refine k_Mod_130 rfl d_Mod_numbers_345 ⟨by decide, by decide⟩ (Nat.le_of_ble_eq_true rfl) ?_
  exact C_Mod_check hC (T_Mod_numbers_348 hF hQ)
def F_Mod_numbers_335 (x1 s1 : Int32) (c : x_S) : Option (Int32 × x_S) := if s1 ≤ 0 then (F_Mod_numbers_343 x1 (0 : Int32) c) else (F_Mod_numbers_343 x1 (1 : Int32) c)
theorem T_Mod_numbers_335 {E : x_E} {o : x_S} {Q : Int32 → x_H → Prop} {l2 : Option Value} {l3 : Option Value} {x1 s1 : Int32} {c : x_S} {r : Int32} {s : x_S} (hF : F_Mod_numbers_335 x1 s1 c = some (r, s)) (hQ : Q r (hpk o s)) : Ev E m_Mod_numbers 0 0 335 [some (.ref 46), some (.int x1), l2, l3] [.int s1, .ref 46] (hpk o c) Q := by
  unfold F_Mod_numbers_335 at hF
  refine Ev_if_le (tgt := 342) d_Mod_numbers_335 rfl (fun h1 => ?_) (fun h1 => ?_)
  · rw [if_pos h1] at hF
    refine Ev_iconst (v := 0) d_Mod_numbers_342 (by decide) ?_
    exact T_Mod_numbers_343 hF hQ
  · rw [if_neg h1] at hF
    refine Ev_iconst (v := 1) d_Mod_numbers_338 (by decide) ?_
    refine Ev_goto (tgt := 343) d_Mod_numbers_339 rfl ?_
    exact T_Mod_numbers_343 hF hQ
def F_Mod_numbers_327 (x1 : Int32) (c : x_S) : Option (Int32 × x_S) := x_bind (F_Mod_told x1 (0 : Int32) (2 : Int32) c) (fun r1 c1 => F_Mod_numbers_335 x1 r1 c1)
theorem T_Mod_numbers_327 {E : x_E} {o : x_S} {Q : Int32 → x_H → Prop} {l2 : Option Value} {l3 : Option Value} {x1 : Int32} {c : x_S} {r : Int32} {s : x_S} (hF : F_Mod_numbers_327 x1 c = some (r, s)) (hQ : Q r (hpk o s)) : Ev E m_Mod_numbers 0 0 327 [some (.ref 46), some (.int x1), l2, l3] [] (hpk o c) Q := by
  unfold F_Mod_numbers_327 at hF
  refine Ev_aload_n d_Mod_numbers_327 rfl ?_
  refine Ev_aload_n d_Mod_numbers_328 rfl ?_
  refine Ev_iload_n d_Mod_numbers_329 rfl ?_
  refine Ev_iconst (v := 0) d_Mod_numbers_330 (by decide) ?_
  refine Ev_iconst (v := 2) d_Mod_numbers_331 (by decide) ?_
  obtain ⟨r1, c1, hC, hF⟩ := x_bind_some hF
  refine k_Mod_141 rfl d_Mod_numbers_332 ⟨by decide, by decide⟩ (Nat.le_of_ble_eq_true rfl) ?_
  exact C_Mod_told hC (T_Mod_numbers_335 hF hQ)
def F_Mod_numbers_323 (x1 s1 s2 s3 s4 s5 : Int32) (c : x_S) : Option (Int32 × x_S) := x_bind (F_Mod_tell s1 s2 s3 (s4 * s5) c) (fun _ c1 => F_Mod_numbers_327 x1 c1)
theorem T_Mod_numbers_323 {E : x_E} {o : x_S} {Q : Int32 → x_H → Prop} {l2 : Option Value} {l3 : Option Value} {x1 s1 s2 s3 s4 s5 : Int32} {c : x_S} {r : Int32} {s : x_S} (hF : F_Mod_numbers_323 x1 s1 s2 s3 s4 s5 c = some (r, s)) (hQ : Q r (hpk o s)) : Ev E m_Mod_numbers 0 0 323 [some (.ref 46), some (.int x1), l2, l3] [.int s5, .int s4, .int s3, .int s2, .int s1, .ref 46] (hpk o c) Q := by
  unfold F_Mod_numbers_323 at hF
  refine Ev_imul d_Mod_numbers_323 ?_
  obtain ⟨r1, c1, hC, hF⟩ := x_bind_some hF
  refine k_Mod_137 rfl d_Mod_numbers_324 ⟨by decide, by decide⟩ (Nat.le_of_ble_eq_true rfl) ?_
  exact C_Mod_tell hC (T_Mod_numbers_327 hF hQ)
def F_Mod_numbers_311 (x1 : Int32) (c : x_S) : Option (Int32 × x_S) := x_bind (F_Mod_read (15 : Int32) c) (fun r1 c1 => F_Mod_numbers_323 x1 x1 (0 : Int32) (2 : Int32) (10 : Int32) r1 c1)
theorem T_Mod_numbers_311 {E : x_E} {o : x_S} {Q : Int32 → x_H → Prop} {l2 : Option Value} {l3 : Option Value} {x1 : Int32} {c : x_S} {r : Int32} {s : x_S} (hF : F_Mod_numbers_311 x1 c = some (r, s)) (hQ : Q r (hpk o s)) : Ev E m_Mod_numbers 0 0 311 [some (.ref 46), some (.int x1), l2, l3] [] (hpk o c) Q := by
  unfold F_Mod_numbers_311 at hF
  refine Ev_aload_n d_Mod_numbers_311 rfl ?_
  refine Ev_iload_n d_Mod_numbers_312 rfl ?_
  refine Ev_iconst (v := 0) d_Mod_numbers_313 (by decide) ?_
  refine Ev_iconst (v := 2) d_Mod_numbers_314 (by decide) ?_
  refine Ev_bipush (v := (10)) d_Mod_numbers_315 (by decide) ?_
  refine Ev_aload_n d_Mod_numbers_317 rfl ?_
  refine Ev_bipush (v := (15)) d_Mod_numbers_318 (by decide) ?_
  obtain ⟨r1, c1, hC, hF⟩ := x_bind_some hF
  refine k_Mod_123 rfl d_Mod_numbers_320 ⟨by decide, by decide⟩ (Nat.le_of_ble_eq_true rfl) ?_
  exact C_Mod_read hC (T_Mod_numbers_323 hF hQ)
def F_Mod_numbers_307 (x1 s1 s2 s3 s4 s5 : Int32) (c : x_S) : Option (Int32 × x_S) := x_bind (F_Mod_tell s1 s2 s3 (s4 * s5) c) (fun _ c1 => F_Mod_numbers_311 x1 c1)
theorem T_Mod_numbers_307 {E : x_E} {o : x_S} {Q : Int32 → x_H → Prop} {l2 : Option Value} {l3 : Option Value} {x1 s1 s2 s3 s4 s5 : Int32} {c : x_S} {r : Int32} {s : x_S} (hF : F_Mod_numbers_307 x1 s1 s2 s3 s4 s5 c = some (r, s)) (hQ : Q r (hpk o s)) : Ev E m_Mod_numbers 0 0 307 [some (.ref 46), some (.int x1), l2, l3] [.int s5, .int s4, .int s3, .int s2, .int s1, .ref 46] (hpk o c) Q := by
  unfold F_Mod_numbers_307 at hF
  refine Ev_imul d_Mod_numbers_307 ?_
  obtain ⟨r1, c1, hC, hF⟩ := x_bind_some hF
  refine k_Mod_137 rfl d_Mod_numbers_308 ⟨by decide, by decide⟩ (Nat.le_of_ble_eq_true rfl) ?_
  exact C_Mod_tell hC (T_Mod_numbers_311 hF hQ)
def F_Mod_numbers_290 (x1 : Int32) (c : x_S) : Option (Int32 × x_S) := if x1 = (4 : Int32) then (x_bind (F_Mod_read (15 : Int32) c) (fun r2 c2 => F_Mod_numbers_307 x1 x1 (0 : Int32) (1 : Int32) (10 : Int32) r2 c2)) else (F_Mod_numbers_364 c)
theorem T_Mod_numbers_290 {E : x_E} {o : x_S} {Q : Int32 → x_H → Prop} {l2 : Option Value} {l3 : Option Value} {x1 : Int32} {c : x_S} {r : Int32} {s : x_S} (hF : F_Mod_numbers_290 x1 c = some (r, s)) (hQ : Q r (hpk o s)) : Ev E m_Mod_numbers 0 0 290 [some (.ref 46), some (.int x1), l2, l3] [] (hpk o c) Q := by
  unfold F_Mod_numbers_290 at hF
  refine Ev_iload_n d_Mod_numbers_290 rfl ?_
  refine Ev_iconst (v := 4) d_Mod_numbers_291 (by decide) ?_
  refine Ev_icmp_ne (tgt := 364) d_Mod_numbers_292 rfl (fun h1 => ?_) (fun h1 => ?_)
  · rw [if_neg h1] at hF
    exact T_Mod_numbers_364 hF hQ
  · rw [if_pos h1] at hF
    refine Ev_aload_n d_Mod_numbers_295 rfl ?_
    refine Ev_iload_n d_Mod_numbers_296 rfl ?_
    refine Ev_iconst (v := 0) d_Mod_numbers_297 (by decide) ?_
    refine Ev_iconst (v := 1) d_Mod_numbers_298 (by decide) ?_
    refine Ev_bipush (v := (10)) d_Mod_numbers_299 (by decide) ?_
    refine Ev_aload_n d_Mod_numbers_301 rfl ?_
    refine Ev_bipush (v := (15)) d_Mod_numbers_302 (by decide) ?_
    obtain ⟨r2, c2, hC, hF⟩ := x_bind_some hF
    refine k_Mod_123 rfl d_Mod_numbers_304 ⟨by decide, by decide⟩ (Nat.le_of_ble_eq_true rfl) ?_
    exact C_Mod_read hC (T_Mod_numbers_307 hF hQ)
def F_Mod_numbers_287 (x1 s1 s2 s3 s4 : Int32) (c : x_S) : Option (Int32 × x_S) := x_bind (F_Mod_tell s1 s2 s3 s4 c) (fun _ c1 => F_Mod_numbers_290 x1 c1)
theorem T_Mod_numbers_287 {E : x_E} {o : x_S} {Q : Int32 → x_H → Prop} {l2 : Option Value} {l3 : Option Value} {x1 s1 s2 s3 s4 : Int32} {c : x_S} {r : Int32} {s : x_S} (hF : F_Mod_numbers_287 x1 s1 s2 s3 s4 c = some (r, s)) (hQ : Q r (hpk o s)) : Ev E m_Mod_numbers 0 0 287 [some (.ref 46), some (.int x1), l2, l3] [.int s4, .int s3, .int s2, .int s1, .ref 46] (hpk o c) Q := by
  unfold F_Mod_numbers_287 at hF
  obtain ⟨r1, c1, hC, hF⟩ := x_bind_some hF
  refine k_Mod_137 rfl d_Mod_numbers_287 ⟨by decide, by decide⟩ (Nat.le_of_ble_eq_true rfl) ?_
  exact C_Mod_tell hC (T_Mod_numbers_290 hF hQ)
def F_Mod_numbers_274 (c : x_S) : Option (Int32 × x_S) := F_Mod_numbers_364 c
theorem T_Mod_numbers_274 {E : x_E} {o : x_S} {Q : Int32 → x_H → Prop} {l0 : Option Value} {l1 : Option Value} {l2 : Option Value} {l3 : Option Value} {c : x_S} {r : Int32} {s : x_S} (hF : F_Mod_numbers_274 c = some (r, s)) (hQ : Q r (hpk o s)) : Ev E m_Mod_numbers 0 0 274 [l0, l1, l2, l3] [] (hpk o c) Q := by
  unfold F_Mod_numbers_274 at hF
  refine Ev_goto (tgt := 364) d_Mod_numbers_274 rfl ?_
  exact T_Mod_numbers_364 hF hQ
def F_Mod_numbers_271 (s1 s2 s3 s4 : Int32) (c : x_S) : Option (Int32 × x_S) := x_bind (F_Mod_tell s1 s2 s3 s4 c) (fun _ c1 => F_Mod_numbers_274 c1)
theorem T_Mod_numbers_271 {E : x_E} {o : x_S} {Q : Int32 → x_H → Prop} {l0 : Option Value} {l1 : Option Value} {l2 : Option Value} {l3 : Option Value} {s1 s2 s3 s4 : Int32} {c : x_S} {r : Int32} {s : x_S} (hF : F_Mod_numbers_271 s1 s2 s3 s4 c = some (r, s)) (hQ : Q r (hpk o s)) : Ev E m_Mod_numbers 0 0 271 [l0, l1, l2, l3] [.int s4, .int s3, .int s2, .int s1, .ref 46] (hpk o c) Q := by
  unfold F_Mod_numbers_271 at hF
  obtain ⟨r1, c1, hC, hF⟩ := x_bind_some hF
  refine k_Mod_137 rfl d_Mod_numbers_271 ⟨by decide, by decide⟩ (Nat.le_of_ble_eq_true rfl) ?_
  exact C_Mod_tell hC (T_Mod_numbers_274 hF hQ)
def F_Mod_numbers_258 (x1 x2 : Int32) (c : x_S) : Option (Int32 × x_S) := if x2 = 0 then (F_Mod_numbers_271 x1 (0 : Int32) (2 : Int32) (2 : Int32) c) else (F_Mod_numbers_271 x1 (0 : Int32) (2 : Int32) (3 : Int32) c)
theorem T_Mod_numbers_258 {E : x_E} {o : x_S} {Q : Int32 → x_H → Prop} {l3 : Option Value} {x1 x2 : Int32} {c : x_S} {r : Int32} {s : x_S} (hF : F_Mod_numbers_258 x1 x2 c = some (r, s)) (hQ : Q r (hpk o s)) : Ev E m_Mod_numbers 0 0 258 [some (.ref 46), some (.int x1), some (.int x2), l3] [] (hpk o c) Q := by
  unfold F_Mod_numbers_258 at hF
  refine Ev_aload_n d_Mod_numbers_258 rfl ?_
  refine Ev_iload_n d_Mod_numbers_259 rfl ?_
  refine Ev_iconst (v := 0) d_Mod_numbers_260 (by decide) ?_
  refine Ev_iconst (v := 2) d_Mod_numbers_261 (by decide) ?_
  refine Ev_iload_n d_Mod_numbers_262 rfl ?_
  refine Ev_if_ne (tgt := 270) d_Mod_numbers_263 rfl (fun h1 => ?_) (fun h1 => ?_)
  · rw [if_neg h1] at hF
    refine Ev_iconst (v := 3) d_Mod_numbers_270 (by decide) ?_
    exact T_Mod_numbers_271 hF hQ
  · rw [if_pos h1] at hF
    refine Ev_iconst (v := 2) d_Mod_numbers_266 (by decide) ?_
    refine Ev_goto (tgt := 271) d_Mod_numbers_267 rfl ?_
    exact T_Mod_numbers_271 hF hQ
def F_Mod_numbers_253 (x1 x2 s1 : Int32) (c : x_S) : Option (Int32 × x_S) := x_bind (F_Mod_check s1 (6 : Int32) c) (fun _ c1 => F_Mod_numbers_258 x1 x2 c1)
theorem T_Mod_numbers_253 {E : x_E} {o : x_S} {Q : Int32 → x_H → Prop} {l3 : Option Value} {x1 x2 s1 : Int32} {c : x_S} {r : Int32} {s : x_S} (hF : F_Mod_numbers_253 x1 x2 s1 c = some (r, s)) (hQ : Q r (hpk o s)) : Ev E m_Mod_numbers 0 0 253 [some (.ref 46), some (.int x1), some (.int x2), l3] [.int s1, .ref 46] (hpk o c) Q := by
  unfold F_Mod_numbers_253 at hF
  refine Ev_bipush (v := (6)) d_Mod_numbers_253 (by decide) ?_
  obtain ⟨r1, c1, hC, hF⟩ := x_bind_some hF
  refine k_Mod_130 rfl d_Mod_numbers_255 ⟨by decide, by decide⟩ (Nat.le_of_ble_eq_true rfl) ?_
  exact C_Mod_check hC (T_Mod_numbers_258 hF hQ)
def F_Mod_numbers_241 (x1 s0 : Int32) (c : x_S) : Option (Int32 × x_S) := if (1 : Int32) < s0 then (F_Mod_numbers_253 x1 s0 (0 : Int32) c) else (F_Mod_numbers_253 x1 s0 (1 : Int32) c)
theorem T_Mod_numbers_241 {E : x_E} {o : x_S} {Q : Int32 → x_H → Prop} {l2 : Option Value} {l3 : Option Value} {x1 s0 : Int32} {c : x_S} {r : Int32} {s : x_S} (hF : F_Mod_numbers_241 x1 s0 c = some (r, s)) (hQ : Q r (hpk o s)) : Ev E m_Mod_numbers 0 0 241 [some (.ref 46), some (.int x1), l2, l3] [.int s0] (hpk o c) Q := by
  unfold F_Mod_numbers_241 at hF
  refine Ev_istore_n (L' := [some (.ref 46), some (.int x1), some (.int s0), l3]) d_Mod_numbers_241 (by decide) rfl ?_
  refine Ev_aload_n d_Mod_numbers_242 rfl ?_
  refine Ev_iload_n d_Mod_numbers_243 rfl ?_
  refine Ev_iconst (v := 1) d_Mod_numbers_244 (by decide) ?_
  refine Ev_icmp_gt (tgt := 252) d_Mod_numbers_245 rfl (fun h1 => ?_) (fun h1 => ?_)
  · rw [if_pos h1] at hF
    refine Ev_iconst (v := 0) d_Mod_numbers_252 (by decide) ?_
    exact T_Mod_numbers_253 hF hQ
  · rw [if_neg h1] at hF
    refine Ev_iconst (v := 1) d_Mod_numbers_248 (by decide) ?_
    refine Ev_goto (tgt := 253) d_Mod_numbers_249 rfl ?_
    exact T_Mod_numbers_253 hF hQ
def F_Mod_numbers_236 (x1 : Int32) (c : x_S) : Option (Int32 × x_S) := x_bind (F_Mod_read (2 : Int32) c) (fun r1 c1 => F_Mod_numbers_241 x1 r1 c1)
theorem T_Mod_numbers_236 {E : x_E} {o : x_S} {Q : Int32 → x_H → Prop} {l2 : Option Value} {l3 : Option Value} {x1 : Int32} {c : x_S} {r : Int32} {s : x_S} (hF : F_Mod_numbers_236 x1 c = some (r, s)) (hQ : Q r (hpk o s)) : Ev E m_Mod_numbers 0 0 236 [some (.ref 46), some (.int x1), l2, l3] [] (hpk o c) Q := by
  unfold F_Mod_numbers_236 at hF
  refine Ev_aload_n d_Mod_numbers_236 rfl ?_
  refine Ev_iconst (v := 2) d_Mod_numbers_237 (by decide) ?_
  obtain ⟨r1, c1, hC, hF⟩ := x_bind_some hF
  refine k_Mod_123 rfl d_Mod_numbers_238 ⟨by decide, by decide⟩ (Nat.le_of_ble_eq_true rfl) ?_
  exact C_Mod_read hC (T_Mod_numbers_241 hF hQ)
def F_Mod_numbers_233 (x1 s1 s2 s3 s4 : Int32) (c : x_S) : Option (Int32 × x_S) := x_bind (F_Mod_tell s1 s2 s3 s4 c) (fun _ c1 => F_Mod_numbers_236 x1 c1)
theorem T_Mod_numbers_233 {E : x_E} {o : x_S} {Q : Int32 → x_H → Prop} {l2 : Option Value} {l3 : Option Value} {x1 s1 s2 s3 s4 : Int32} {c : x_S} {r : Int32} {s : x_S} (hF : F_Mod_numbers_233 x1 s1 s2 s3 s4 c = some (r, s)) (hQ : Q r (hpk o s)) : Ev E m_Mod_numbers 0 0 233 [some (.ref 46), some (.int x1), l2, l3] [.int s4, .int s3, .int s2, .int s1, .ref 46] (hpk o c) Q := by
  unfold F_Mod_numbers_233 at hF
  obtain ⟨r1, c1, hC, hF⟩ := x_bind_some hF
  refine k_Mod_137 rfl d_Mod_numbers_233 ⟨by decide, by decide⟩ (Nat.le_of_ble_eq_true rfl) ?_
  exact C_Mod_tell hC (T_Mod_numbers_236 hF hQ)
def F_Mod_numbers_223 (x1 : Int32) (c : x_S) : Option (Int32 × x_S) := x_bind (F_Mod_read (10 : Int32) c) (fun r1 c1 => F_Mod_numbers_233 x1 x1 (0 : Int32) (1 : Int32) r1 c1)
theorem T_Mod_numbers_223 {E : x_E} {o : x_S} {Q : Int32 → x_H → Prop} {l2 : Option Value} {l3 : Option Value} {x1 : Int32} {c : x_S} {r : Int32} {s : x_S} (hF : F_Mod_numbers_223 x1 c = some (r, s)) (hQ : Q r (hpk o s)) : Ev E m_Mod_numbers 0 0 223 [some (.ref 46), some (.int x1), l2, l3] [] (hpk o c) Q := by
  unfold F_Mod_numbers_223 at hF
  refine Ev_aload_n d_Mod_numbers_223 rfl ?_
  refine Ev_iload_n d_Mod_numbers_224 rfl ?_
  refine Ev_iconst (v := 0) d_Mod_numbers_225 (by decide) ?_
  refine Ev_iconst (v := 1) d_Mod_numbers_226 (by decide) ?_
  refine Ev_aload_n d_Mod_numbers_227 rfl ?_
  refine Ev_bipush (v := (10)) d_Mod_numbers_228 (by decide) ?_
  obtain ⟨r1, c1, hC, hF⟩ := x_bind_some hF
  refine k_Mod_123 rfl d_Mod_numbers_230 ⟨by decide, by decide⟩ (Nat.le_of_ble_eq_true rfl) ?_
  exact C_Mod_read hC (T_Mod_numbers_233 hF hQ)
def F_Mod_numbers_219 (x1 s1 s2 s3 s4 s5 : Int32) (c : x_S) : Option (Int32 × x_S) := x_bind (F_Mod_tell s1 s2 s3 (s4 * s5) c) (fun _ c1 => F_Mod_numbers_223 x1 c1)
theorem T_Mod_numbers_219 {E : x_E} {o : x_S} {Q : Int32 → x_H → Prop} {l2 : Option Value} {l3 : Option Value} {x1 s1 s2 s3 s4 s5 : Int32} {c : x_S} {r : Int32} {s : x_S} (hF : F_Mod_numbers_219 x1 s1 s2 s3 s4 s5 c = some (r, s)) (hQ : Q r (hpk o s)) : Ev E m_Mod_numbers 0 0 219 [some (.ref 46), some (.int x1), l2, l3] [.int s5, .int s4, .int s3, .int s2, .int s1, .ref 46] (hpk o c) Q := by
  unfold F_Mod_numbers_219 at hF
  refine Ev_imul d_Mod_numbers_219 ?_
  obtain ⟨r1, c1, hC, hF⟩ := x_bind_some hF
  refine k_Mod_137 rfl d_Mod_numbers_220 ⟨by decide, by decide⟩ (Nat.le_of_ble_eq_true rfl) ?_
  exact C_Mod_tell hC (T_Mod_numbers_223 hF hQ)
def F_Mod_numbers_199 (c : x_S) : Option (Int32 × x_S) := F_Mod_numbers_364 c
theorem T_Mod_numbers_199 {E : x_E} {o : x_S} {Q : Int32 → x_H → Prop} {l0 : Option Value} {l1 : Option Value} {l2 : Option Value} {l3 : Option Value} {c : x_S} {r : Int32} {s : x_S} (hF : F_Mod_numbers_199 c = some (r, s)) (hQ : Q r (hpk o s)) : Ev E m_Mod_numbers 0 0 199 [l0, l1, l2, l3] [] (hpk o c) Q := by
  unfold F_Mod_numbers_199 at hF
  refine Ev_goto (tgt := 364) d_Mod_numbers_199 rfl ?_
  exact T_Mod_numbers_364 hF hQ
def F_Mod_numbers_193 (K : Int32 → Int32 → x_S → Option (Int32 × x_S)) (x1 x2 : Int32) (c : x_S) : Option (Int32 × x_S) := K x1 (x2 + (1 : Int32)) c
theorem T_Mod_numbers_193 {E : x_E} {o : x_S} {Q : Int32 → x_H → Prop} {K : Int32 → Int32 → x_S → Option (Int32 × x_S)} (hK : ∀ {l3 : Option Value} {x1 x2 : Int32} {c : x_S} {r : Int32} {s : x_S}, K x1 x2 c = some (r, s) → Q r (hpk o s) → Ev E m_Mod_numbers 0 0 59 [some (.ref 46), some (.int x1), some (.int x2), l3] [] (hpk o c) Q) {l3 : Option Value} {x1 x2 : Int32} {c : x_S} {r : Int32} {s : x_S} (hF : F_Mod_numbers_193 K x1 x2 c = some (r, s)) (hQ : Q r (hpk o s)) : Ev E m_Mod_numbers 0 0 193 [some (.ref 46), some (.int x1), some (.int x2), l3] [] (hpk o c) Q := by
  unfold F_Mod_numbers_193 at hF
  refine Ev_iinc (v := (x2 + (1 : Int32))) (L' := [some (.ref 46), some (.int x1), some (.int (x2 + (1 : Int32))), l3]) d_Mod_numbers_193 rfl rfl (by decide) rfl ?_
  refine Ev_goto (tgt := 59) d_Mod_numbers_196 rfl ?_
  exact hK hF hQ
def F_Mod_numbers_190 (K : Int32 → Int32 → x_S → Option (Int32 × x_S)) (x1 x2 s1 s2 s3 s4 : Int32) (c : x_S) : Option (Int32 × x_S) := x_bind (F_Mod_tell s1 s2 s3 s4 c) (fun _ c1 => F_Mod_numbers_193 K x1 x2 c1)
theorem T_Mod_numbers_190 {E : x_E} {o : x_S} {Q : Int32 → x_H → Prop} {K : Int32 → Int32 → x_S → Option (Int32 × x_S)} (hK : ∀ {l3 : Option Value} {x1 x2 : Int32} {c : x_S} {r : Int32} {s : x_S}, K x1 x2 c = some (r, s) → Q r (hpk o s) → Ev E m_Mod_numbers 0 0 59 [some (.ref 46), some (.int x1), some (.int x2), l3] [] (hpk o c) Q) {l3 : Option Value} {x1 x2 s1 s2 s3 s4 : Int32} {c : x_S} {r : Int32} {s : x_S} (hF : F_Mod_numbers_190 K x1 x2 s1 s2 s3 s4 c = some (r, s)) (hQ : Q r (hpk o s)) : Ev E m_Mod_numbers 0 0 190 [some (.ref 46), some (.int x1), some (.int x2), l3] [.int s4, .int s3, .int s2, .int s1, .ref 46] (hpk o c) Q := by
  unfold F_Mod_numbers_190 at hF
  obtain ⟨r1, c1, hC, hF⟩ := x_bind_some hF
  refine k_Mod_137 rfl d_Mod_numbers_190 ⟨by decide, by decide⟩ (Nat.le_of_ble_eq_true rfl) ?_
  exact C_Mod_tell hC (T_Mod_numbers_193 (fun h1 h2 => hK h1 h2) hF hQ)
def F_Mod_numbers_186 (K : Int32 → Int32 → x_S → Option (Int32 × x_S)) (x1 x2 s1 s2 s3 s4 : Int32) (c : x_S) : Option (Int32 × x_S) := F_Mod_numbers_190 K x1 x2 s1 s2 s3 s4 c
theorem T_Mod_numbers_186 {E : x_E} {o : x_S} {Q : Int32 → x_H → Prop} {K : Int32 → Int32 → x_S → Option (Int32 × x_S)} (hK : ∀ {l3 : Option Value} {x1 x2 : Int32} {c : x_S} {r : Int32} {s : x_S}, K x1 x2 c = some (r, s) → Q r (hpk o s) → Ev E m_Mod_numbers 0 0 59 [some (.ref 46), some (.int x1), some (.int x2), l3] [] (hpk o c) Q) {l3 : Option Value} {x1 x2 s1 s2 s3 s4 : Int32} {c : x_S} {r : Int32} {s : x_S} (hF : F_Mod_numbers_186 K x1 x2 s1 s2 s3 s4 c = some (r, s)) (hQ : Q r (hpk o s)) : Ev E m_Mod_numbers 0 0 186 [some (.ref 46), some (.int x1), some (.int x2), l3] [.int s4, .int s3, .int s2, .int s1, .ref 46] (hpk o c) Q := by
  unfold F_Mod_numbers_186 at hF
  refine Ev_goto (tgt := 190) d_Mod_numbers_186 rfl ?_
  exact T_Mod_numbers_190 (fun h1 h2 => hK h1 h2) hF hQ
def F_Mod_numbers_172 (K : Int32 → Int32 → x_S → Option (Int32 × x_S)) (x1 x2 : Int32) (c : x_S) : Option (Int32 × x_S) := if x1 = 0 then (x_bind (F_Mod_read (6 : Int32) c) (fun r2 c2 => F_Mod_numbers_186 K x1 x2 x1 x2 (2 : Int32) r2 c2)) else (F_Mod_numbers_190 K x1 x2 x1 x2 (2 : Int32) (0 : Int32) c)
theorem T_Mod_numbers_172 {E : x_E} {o : x_S} {Q : Int32 → x_H → Prop} {K : Int32 → Int32 → x_S → Option (Int32 × x_S)} (hK : ∀ {l3 : Option Value} {x1 x2 : Int32} {c : x_S} {r : Int32} {s : x_S}, K x1 x2 c = some (r, s) → Q r (hpk o s) → Ev E m_Mod_numbers 0 0 59 [some (.ref 46), some (.int x1), some (.int x2), l3] [] (hpk o c) Q) {l3 : Option Value} {x1 x2 : Int32} {c : x_S} {r : Int32} {s : x_S} (hF : F_Mod_numbers_172 K x1 x2 c = some (r, s)) (hQ : Q r (hpk o s)) : Ev E m_Mod_numbers 0 0 172 [some (.ref 46), some (.int x1), some (.int x2), l3] [] (hpk o c) Q := by
  unfold F_Mod_numbers_172 at hF
  refine Ev_aload_n d_Mod_numbers_172 rfl ?_
  refine Ev_iload_n d_Mod_numbers_173 rfl ?_
  refine Ev_iload_n d_Mod_numbers_174 rfl ?_
  refine Ev_iconst (v := 2) d_Mod_numbers_175 (by decide) ?_
  refine Ev_iload_n d_Mod_numbers_176 rfl ?_
  refine Ev_if_ne (tgt := 189) d_Mod_numbers_177 rfl (fun h1 => ?_) (fun h1 => ?_)
  · rw [if_neg h1] at hF
    refine Ev_iconst (v := 0) d_Mod_numbers_189 (by decide) ?_
    exact T_Mod_numbers_190 (fun h1 h2 => hK h1 h2) hF hQ
  · rw [if_pos h1] at hF
    refine Ev_aload_n d_Mod_numbers_180 rfl ?_
    refine Ev_bipush (v := (6)) d_Mod_numbers_181 (by decide) ?_
    obtain ⟨r2, c2, hC, hF⟩ := x_bind_some hF
    refine k_Mod_123 rfl d_Mod_numbers_183 ⟨by decide, by decide⟩ (Nat.le_of_ble_eq_true rfl) ?_
    exact C_Mod_read hC (T_Mod_numbers_186 (fun h1 h2 => hK h1 h2) hF hQ)
def F_Mod_numbers_169 (K : Int32 → Int32 → x_S → Option (Int32 × x_S)) (x1 x2 s1 s2 s3 s4 : Int32) (c : x_S) : Option (Int32 × x_S) := x_bind (F_Mod_tell s1 s2 s3 s4 c) (fun _ c1 => F_Mod_numbers_172 K x1 x2 c1)
theorem T_Mod_numbers_169 {E : x_E} {o : x_S} {Q : Int32 → x_H → Prop} {K : Int32 → Int32 → x_S → Option (Int32 × x_S)} (hK : ∀ {l3 : Option Value} {x1 x2 : Int32} {c : x_S} {r : Int32} {s : x_S}, K x1 x2 c = some (r, s) → Q r (hpk o s) → Ev E m_Mod_numbers 0 0 59 [some (.ref 46), some (.int x1), some (.int x2), l3] [] (hpk o c) Q) {l3 : Option Value} {x1 x2 s1 s2 s3 s4 : Int32} {c : x_S} {r : Int32} {s : x_S} (hF : F_Mod_numbers_169 K x1 x2 s1 s2 s3 s4 c = some (r, s)) (hQ : Q r (hpk o s)) : Ev E m_Mod_numbers 0 0 169 [some (.ref 46), some (.int x1), some (.int x2), l3] [.int s4, .int s3, .int s2, .int s1, .ref 46] (hpk o c) Q := by
  unfold F_Mod_numbers_169 at hF
  obtain ⟨r1, c1, hC, hF⟩ := x_bind_some hF
  refine k_Mod_137 rfl d_Mod_numbers_169 ⟨by decide, by decide⟩ (Nat.le_of_ble_eq_true rfl) ?_
  exact C_Mod_tell hC (T_Mod_numbers_172 (fun h1 h2 => hK h1 h2) hF hQ)
def F_Mod_numbers_165 (K : Int32 → Int32 → x_S → Option (Int32 × x_S)) (x1 x2 s1 s2 s3 s4 : Int32) (c : x_S) : Option (Int32 × x_S) := F_Mod_numbers_169 K x1 x2 s1 s2 s3 s4 c
theorem T_Mod_numbers_165 {E : x_E} {o : x_S} {Q : Int32 → x_H → Prop} {K : Int32 → Int32 → x_S → Option (Int32 × x_S)} (hK : ∀ {l3 : Option Value} {x1 x2 : Int32} {c : x_S} {r : Int32} {s : x_S}, K x1 x2 c = some (r, s) → Q r (hpk o s) → Ev E m_Mod_numbers 0 0 59 [some (.ref 46), some (.int x1), some (.int x2), l3] [] (hpk o c) Q) {l3 : Option Value} {x1 x2 s1 s2 s3 s4 : Int32} {c : x_S} {r : Int32} {s : x_S} (hF : F_Mod_numbers_165 K x1 x2 s1 s2 s3 s4 c = some (r, s)) (hQ : Q r (hpk o s)) : Ev E m_Mod_numbers 0 0 165 [some (.ref 46), some (.int x1), some (.int x2), l3] [.int s4, .int s3, .int s2, .int s1, .ref 46] (hpk o c) Q := by
  unfold F_Mod_numbers_165 at hF
  refine Ev_goto (tgt := 169) d_Mod_numbers_165 rfl ?_
  exact T_Mod_numbers_169 (fun h1 h2 => hK h1 h2) hF hQ
def F_Mod_numbers_151 (K : Int32 → Int32 → x_S → Option (Int32 × x_S)) (x1 x2 s0 : Int32) (c : x_S) : Option (Int32 × x_S) := if x1 = (3 : Int32) then (x_bind (F_Mod_limitOf s0 c) (fun r2 c2 => F_Mod_numbers_165 K x1 x2 x1 x2 (1 : Int32) r2 c2)) else (F_Mod_numbers_169 K x1 x2 x1 x2 (1 : Int32) s0 c)
theorem T_Mod_numbers_151 {E : x_E} {o : x_S} {Q : Int32 → x_H → Prop} {K : Int32 → Int32 → x_S → Option (Int32 × x_S)} (hK : ∀ {l3 : Option Value} {x1 x2 : Int32} {c : x_S} {r : Int32} {s : x_S}, K x1 x2 c = some (r, s) → Q r (hpk o s) → Ev E m_Mod_numbers 0 0 59 [some (.ref 46), some (.int x1), some (.int x2), l3] [] (hpk o c) Q) {l3 : Option Value} {x1 x2 s0 : Int32} {c : x_S} {r : Int32} {s : x_S} (hF : F_Mod_numbers_151 K x1 x2 s0 c = some (r, s)) (hQ : Q r (hpk o s)) : Ev E m_Mod_numbers 0 0 151 [some (.ref 46), some (.int x1), some (.int x2), l3] [.int s0] (hpk o c) Q := by
  unfold F_Mod_numbers_151 at hF
  refine Ev_istore_n (L' := [some (.ref 46), some (.int x1), some (.int x2), some (.int s0)]) d_Mod_numbers_151 (by decide) rfl ?_
  refine Ev_aload_n d_Mod_numbers_152 rfl ?_
  refine Ev_iload_n d_Mod_numbers_153 rfl ?_
  refine Ev_iload_n d_Mod_numbers_154 rfl ?_
  refine Ev_iconst (v := 1) d_Mod_numbers_155 (by decide) ?_
  refine Ev_iload_n d_Mod_numbers_156 rfl ?_
  refine Ev_iconst (v := 3) d_Mod_numbers_157 (by decide) ?_
  refine Ev_icmp_ne (tgt := 168) d_Mod_numbers_158 rfl (fun h1 => ?_) (fun h1 => ?_)
  · rw [if_neg h1] at hF
    refine Ev_iload_n d_Mod_numbers_168 rfl ?_
    exact T_Mod_numbers_169 (fun h1 h2 => hK h1 h2) hF hQ
  · rw [if_pos h1] at hF
    refine Ev_iload_n d_Mod_numbers_161 rfl ?_
    obtain ⟨r2, c2, hC, hF⟩ := x_bind_some hF
    refine k_Mod_145 rfl d_Mod_numbers_162 ⟨by decide, by decide⟩ (Nat.le_of_ble_eq_true rfl) ?_
    exact C_Mod_limitOf hC (T_Mod_numbers_165 (fun h1 h2 => hK h1 h2) hF hQ)
def F_Mod_numbers_148 (K : Int32 → Int32 → x_S → Option (Int32 × x_S)) (x1 x2 s1 : Int32) (c : x_S) : Option (Int32 × x_S) := x_bind (F_Mod_read s1 c) (fun r1 c1 => F_Mod_numbers_151 K x1 x2 r1 c1)
theorem T_Mod_numbers_148 {E : x_E} {o : x_S} {Q : Int32 → x_H → Prop} {K : Int32 → Int32 → x_S → Option (Int32 × x_S)} (hK : ∀ {l3 : Option Value} {x1 x2 : Int32} {c : x_S} {r : Int32} {s : x_S}, K x1 x2 c = some (r, s) → Q r (hpk o s) → Ev E m_Mod_numbers 0 0 59 [some (.ref 46), some (.int x1), some (.int x2), l3] [] (hpk o c) Q) {l3 : Option Value} {x1 x2 s1 : Int32} {c : x_S} {r : Int32} {s : x_S} (hF : F_Mod_numbers_148 K x1 x2 s1 c = some (r, s)) (hQ : Q r (hpk o s)) : Ev E m_Mod_numbers 0 0 148 [some (.ref 46), some (.int x1), some (.int x2), l3] [.int s1, .ref 46] (hpk o c) Q := by
  unfold F_Mod_numbers_148 at hF
  obtain ⟨r1, c1, hC, hF⟩ := x_bind_some hF
  refine k_Mod_123 rfl d_Mod_numbers_148 ⟨by decide, by decide⟩ (Nat.le_of_ble_eq_true rfl) ?_
  exact C_Mod_read hC (T_Mod_numbers_151 (fun h1 h2 => hK h1 h2) hF hQ)
def F_Mod_numbers_126 (K : Int32 → Int32 → x_S → Option (Int32 × x_S)) (x1 x2 : Int32) (c : x_S) : Option (Int32 × x_S) := if x1 = 0 then (F_Mod_numbers_148 K x1 x2 (8 : Int32) c) else (if x1 = (2 : Int32) then (F_Mod_numbers_148 K x1 x2 (6 : Int32) c) else (F_Mod_numbers_148 K x1 x2 (7 : Int32) c))
theorem T_Mod_numbers_126 {E : x_E} {o : x_S} {Q : Int32 → x_H → Prop} {K : Int32 → Int32 → x_S → Option (Int32 × x_S)} (hK : ∀ {l3 : Option Value} {x1 x2 : Int32} {c : x_S} {r : Int32} {s : x_S}, K x1 x2 c = some (r, s) → Q r (hpk o s) → Ev E m_Mod_numbers 0 0 59 [some (.ref 46), some (.int x1), some (.int x2), l3] [] (hpk o c) Q) {l3 : Option Value} {x1 x2 : Int32} {c : x_S} {r : Int32} {s : x_S} (hF : F_Mod_numbers_126 K x1 x2 c = some (r, s)) (hQ : Q r (hpk o s)) : Ev E m_Mod_numbers 0 0 126 [some (.ref 46), some (.int x1), some (.int x2), l3] [] (hpk o c) Q := by
  unfold F_Mod_numbers_126 at hF
  refine Ev_aload_n d_Mod_numbers_126 rfl ?_
  refine Ev_iload_n d_Mod_numbers_127 rfl ?_
  refine Ev_if_ne (tgt := 136) d_Mod_numbers_128 rfl (fun h1 => ?_) (fun h1 => ?_)
  · rw [if_neg h1] at hF
    refine Ev_iload_n d_Mod_numbers_136 rfl ?_
    refine Ev_iconst (v := 2) d_Mod_numbers_137 (by decide) ?_
    refine Ev_icmp_ne (tgt := 146) d_Mod_numbers_138 rfl (fun h2 => ?_) (fun h2 => ?_)
    · rw [if_neg h2] at hF
      refine Ev_bipush (v := (7)) d_Mod_numbers_146 (by decide) ?_
      exact T_Mod_numbers_148 (fun h1 h2 => hK h1 h2) hF hQ
    · rw [if_pos h2] at hF
      refine Ev_bipush (v := (6)) d_Mod_numbers_141 (by decide) ?_
      refine Ev_goto (tgt := 148) d_Mod_numbers_143 rfl ?_
      exact T_Mod_numbers_148 (fun h1 h2 => hK h1 h2) hF hQ
  · rw [if_pos h1] at hF
    refine Ev_bipush (v := (8)) d_Mod_numbers_131 (by decide) ?_
    refine Ev_goto (tgt := 148) d_Mod_numbers_133 rfl ?_
    exact T_Mod_numbers_148 (fun h1 h2 => hK h1 h2) hF hQ
def F_Mod_numbers_121 (K : Int32 → Int32 → x_S → Option (Int32 × x_S)) (x1 x2 s1 : Int32) (c : x_S) : Option (Int32 × x_S) := x_bind (F_Mod_check s1 (6 : Int32) c) (fun _ c1 => F_Mod_numbers_126 K x1 x2 c1)
theorem T_Mod_numbers_121 {E : x_E} {o : x_S} {Q : Int32 → x_H → Prop} {K : Int32 → Int32 → x_S → Option (Int32 × x_S)} (hK : ∀ {l3 : Option Value} {x1 x2 : Int32} {c : x_S} {r : Int32} {s : x_S}, K x1 x2 c = some (r, s) → Q r (hpk o s) → Ev E m_Mod_numbers 0 0 59 [some (.ref 46), some (.int x1), some (.int x2), l3] [] (hpk o c) Q) {l3 : Option Value} {x1 x2 s1 : Int32} {c : x_S} {r : Int32} {s : x_S} (hF : F_Mod_numbers_121 K x1 x2 s1 c = some (r, s)) (hQ : Q r (hpk o s)) : Ev E m_Mod_numbers 0 0 121 [some (.ref 46), some (.int x1), some (.int x2), l3] [.int s1, .ref 46] (hpk o c) Q := by
  unfold F_Mod_numbers_121 at hF
  refine Ev_bipush (v := (6)) d_Mod_numbers_121 (by decide) ?_
  obtain ⟨r1, c1, hC, hF⟩ := x_bind_some hF
  refine k_Mod_130 rfl d_Mod_numbers_123 ⟨by decide, by decide⟩ (Nat.le_of_ble_eq_true rfl) ?_
  exact C_Mod_check hC (T_Mod_numbers_126 (fun h1 h2 => hK h1 h2) hF hQ)
def F_Mod_numbers_116 (K : Int32 → Int32 → x_S → Option (Int32 × x_S)) (x1 x2 : Int32) (c : x_S) : Option (Int32 × x_S) := F_Mod_numbers_121 K x1 x2 (1 : Int32) c
theorem T_Mod_numbers_116 {E : x_E} {o : x_S} {Q : Int32 → x_H → Prop} {K : Int32 → Int32 → x_S → Option (Int32 × x_S)} (hK : ∀ {l3 : Option Value} {x1 x2 : Int32} {c : x_S} {r : Int32} {s : x_S}, K x1 x2 c = some (r, s) → Q r (hpk o s) → Ev E m_Mod_numbers 0 0 59 [some (.ref 46), some (.int x1), some (.int x2), l3] [] (hpk o c) Q) {l3 : Option Value} {x1 x2 : Int32} {c : x_S} {r : Int32} {s : x_S} (hF : F_Mod_numbers_116 K x1 x2 c = some (r, s)) (hQ : Q r (hpk o s)) : Ev E m_Mod_numbers 0 0 116 [some (.ref 46), some (.int x1), some (.int x2), l3] [.ref 46] (hpk o c) Q := by
  unfold F_Mod_numbers_116 at hF
  refine Ev_iconst (v := 1) d_Mod_numbers_116 (by decide) ?_
  refine Ev_goto (tgt := 121) d_Mod_numbers_117 rfl ?_
  exact T_Mod_numbers_121 (fun h1 h2 => hK h1 h2) hF hQ
def F_Mod_numbers_113 (K : Int32 → Int32 → x_S → Option (Int32 × x_S)) (x1 x2 s1 s2 : Int32) (c : x_S) : Option (Int32 × x_S) := if s1 ≤ s2 then (F_Mod_numbers_121 K x1 x2 (0 : Int32) c) else (F_Mod_numbers_116 K x1 x2 c)
theorem T_Mod_numbers_113 {E : x_E} {o : x_S} {Q : Int32 → x_H → Prop} {K : Int32 → Int32 → x_S → Option (Int32 × x_S)} (hK : ∀ {l3 : Option Value} {x1 x2 : Int32} {c : x_S} {r : Int32} {s : x_S}, K x1 x2 c = some (r, s) → Q r (hpk o s) → Ev E m_Mod_numbers 0 0 59 [some (.ref 46), some (.int x1), some (.int x2), l3] [] (hpk o c) Q) {l3 : Option Value} {x1 x2 s1 s2 : Int32} {c : x_S} {r : Int32} {s : x_S} (hF : F_Mod_numbers_113 K x1 x2 s1 s2 c = some (r, s)) (hQ : Q r (hpk o s)) : Ev E m_Mod_numbers 0 0 113 [some (.ref 46), some (.int x1), some (.int x2), l3] [.int s2, .int s1, .ref 46] (hpk o c) Q := by
  unfold F_Mod_numbers_113 at hF
  refine Ev_icmp_le (tgt := 120) d_Mod_numbers_113 rfl (fun h1 => ?_) (fun h1 => ?_)
  · rw [if_pos h1] at hF
    refine Ev_iconst (v := 0) d_Mod_numbers_120 (by decide) ?_
    exact T_Mod_numbers_121 (fun h1 h2 => hK h1 h2) hF hQ
  · rw [if_neg h1] at hF
    exact T_Mod_numbers_116 (fun h1 h2 => hK h1 h2) hF hQ
def F_Mod_numbers_104 (K : Int32 → Int32 → x_S → Option (Int32 × x_S)) (x1 x2 s1 : Int32) (c : x_S) : Option (Int32 × x_S) := x_bind (F_Mod_told x1 (x2 - (1 : Int32)) (0 : Int32) c) (fun r1 c1 => F_Mod_numbers_113 K x1 x2 s1 r1 c1)
theorem T_Mod_numbers_104 {E : x_E} {o : x_S} {Q : Int32 → x_H → Prop} {K : Int32 → Int32 → x_S → Option (Int32 × x_S)} (hK : ∀ {l3 : Option Value} {x1 x2 : Int32} {c : x_S} {r : Int32} {s : x_S}, K x1 x2 c = some (r, s) → Q r (hpk o s) → Ev E m_Mod_numbers 0 0 59 [some (.ref 46), some (.int x1), some (.int x2), l3] [] (hpk o c) Q) {l3 : Option Value} {x1 x2 s1 : Int32} {c : x_S} {r : Int32} {s : x_S} (hF : F_Mod_numbers_104 K x1 x2 s1 c = some (r, s)) (hQ : Q r (hpk o s)) : Ev E m_Mod_numbers 0 0 104 [some (.ref 46), some (.int x1), some (.int x2), l3] [.int s1, .ref 46] (hpk o c) Q := by
  unfold F_Mod_numbers_104 at hF
  refine Ev_aload_n d_Mod_numbers_104 rfl ?_
  refine Ev_iload_n d_Mod_numbers_105 rfl ?_
  refine Ev_iload_n d_Mod_numbers_106 rfl ?_
  refine Ev_iconst (v := 1) d_Mod_numbers_107 (by decide) ?_
  refine Ev_isub d_Mod_numbers_108 ?_
  refine Ev_iconst (v := 0) d_Mod_numbers_109 (by decide) ?_
  obtain ⟨r1, c1, hC, hF⟩ := x_bind_some hF
  refine k_Mod_141 rfl d_Mod_numbers_110 ⟨by decide, by decide⟩ (Nat.le_of_ble_eq_true rfl) ?_
  exact C_Mod_told hC (T_Mod_numbers_113 (fun h1 h2 => hK h1 h2) hF hQ)
def F_Mod_numbers_92 (K : Int32 → Int32 → x_S → Option (Int32 × x_S)) (x1 x2 : Int32) (c : x_S) : Option (Int32 × x_S) := if x2 = 0 then (F_Mod_numbers_116 K x1 x2 c) else (x_bind (F_Mod_told x1 x2 (0 : Int32) c) (fun r2 c2 => F_Mod_numbers_104 K x1 x2 r2 c2))
theorem T_Mod_numbers_92 {E : x_E} {o : x_S} {Q : Int32 → x_H → Prop} {K : Int32 → Int32 → x_S → Option (Int32 × x_S)} (hK : ∀ {l3 : Option Value} {x1 x2 : Int32} {c : x_S} {r : Int32} {s : x_S}, K x1 x2 c = some (r, s) → Q r (hpk o s) → Ev E m_Mod_numbers 0 0 59 [some (.ref 46), some (.int x1), some (.int x2), l3] [] (hpk o c) Q) {l3 : Option Value} {x1 x2 : Int32} {c : x_S} {r : Int32} {s : x_S} (hF : F_Mod_numbers_92 K x1 x2 c = some (r, s)) (hQ : Q r (hpk o s)) : Ev E m_Mod_numbers 0 0 92 [some (.ref 46), some (.int x1), some (.int x2), l3] [] (hpk o c) Q := by
  unfold F_Mod_numbers_92 at hF
  refine Ev_aload_n d_Mod_numbers_92 rfl ?_
  refine Ev_iload_n d_Mod_numbers_93 rfl ?_
  refine Ev_if_eq (tgt := 116) d_Mod_numbers_94 rfl (fun h1 => ?_) (fun h1 => ?_)
  · rw [if_pos h1] at hF
    exact T_Mod_numbers_116 (fun h1 h2 => hK h1 h2) hF hQ
  · rw [if_neg h1] at hF
    refine Ev_aload_n d_Mod_numbers_97 rfl ?_
    refine Ev_iload_n d_Mod_numbers_98 rfl ?_
    refine Ev_iload_n d_Mod_numbers_99 rfl ?_
    refine Ev_iconst (v := 0) d_Mod_numbers_100 (by decide) ?_
    obtain ⟨r2, c2, hC, hF⟩ := x_bind_some hF
    refine k_Mod_141 rfl d_Mod_numbers_101 ⟨by decide, by decide⟩ (Nat.le_of_ble_eq_true rfl) ?_
    exact C_Mod_told hC (T_Mod_numbers_104 (fun h1 h2 => hK h1 h2) hF hQ)
def F_Mod_numbers_88 (K : Int32 → Int32 → x_S → Option (Int32 × x_S)) (x1 x2 s1 s2 s3 s4 s5 : Int32) (c : x_S) : Option (Int32 × x_S) := x_bind (F_Mod_tell s1 s2 s3 (s4 * s5) c) (fun _ c1 => F_Mod_numbers_92 K x1 x2 c1)
theorem T_Mod_numbers_88 {E : x_E} {o : x_S} {Q : Int32 → x_H → Prop} {K : Int32 → Int32 → x_S → Option (Int32 × x_S)} (hK : ∀ {l3 : Option Value} {x1 x2 : Int32} {c : x_S} {r : Int32} {s : x_S}, K x1 x2 c = some (r, s) → Q r (hpk o s) → Ev E m_Mod_numbers 0 0 59 [some (.ref 46), some (.int x1), some (.int x2), l3] [] (hpk o c) Q) {l3 : Option Value} {x1 x2 s1 s2 s3 s4 s5 : Int32} {c : x_S} {r : Int32} {s : x_S} (hF : F_Mod_numbers_88 K x1 x2 s1 s2 s3 s4 s5 c = some (r, s)) (hQ : Q r (hpk o s)) : Ev E m_Mod_numbers 0 0 88 [some (.ref 46), some (.int x1), some (.int x2), l3] [.int s5, .int s4, .int s3, .int s2, .int s1, .ref 46] (hpk o c) Q := by
  unfold F_Mod_numbers_88 at hF
  refine Ev_imul d_Mod_numbers_88 ?_
  obtain ⟨r1, c1, hC, hF⟩ := x_bind_some hF
  refine k_Mod_137 rfl d_Mod_numbers_89 ⟨by decide, by decide⟩ (Nat.le_of_ble_eq_true rfl) ?_
  exact C_Mod_tell hC (T_Mod_numbers_92 (fun h1 h2 => hK h1 h2) hF hQ)
def F_Mod_numbers_59 : Nat → Int32 → Int32 → x_S → Option (Int32 × x_S)
  | 0, _, _, _ => none
  | n + 1, x1, x2, c => x_ix x1 6 (fun j1 => if (c 61 j1) ≤ x2 then (F_Mod_numbers_199 c) else (if (c 46 38) = 0 then (x_bind (F_Mod_read (15 : Int32) c) (fun r4 c4 => F_Mod_numbers_88 (F_Mod_numbers_59 n) x1 x2 x1 x2 (0 : Int32) (10 : Int32) r4 c4)) else (F_Mod_numbers_199 c)))
theorem T_Mod_numbers_59 {E : x_E} {o : x_S} {Q : Int32 → x_H → Prop} : ∀ (n : Nat) {l3 : Option Value} {x1 x2 : Int32} {c : x_S} {r : Int32} {s : x_S}, F_Mod_numbers_59 n x1 x2 c = some (r, s) → Q r (hpk o s) → Ev E m_Mod_numbers 0 0 59 [some (.ref 46), some (.int x1), some (.int x2), l3] [] (hpk o c) Q := by
  intro n
  induction n with
  | zero => intro l3 x1 x2 c r s hF; rw [F_Mod_numbers_59] at hF; cases hF
  | succ n ih =>
    intro l3 x1 x2 c r s hF hQ
    rw [F_Mod_numbers_59] at hF
    refine Ev_iload_n d_Mod_numbers_59 rfl ?_
    refine Ev_aload_n d_Mod_numbers_60 rfl ?_
    refine g_Mod_57 rfl d_Mod_numbers_61 ?_
    refine Ev_iload_n d_Mod_numbers_64 rfl ?_
    obtain ⟨j1, hij1, hjj1, hF⟩ := x_ix_some hF
    refine Em_iald d_Mod_numbers_65 (P := 61) (by decide) rfl hij1 hjj1 ?_
    refine Ev_icmp_ge (tgt := 199) d_Mod_numbers_66 rfl (fun h2 => ?_) (fun h2 => ?_)
    · rw [if_pos h2] at hF
      exact T_Mod_numbers_199 hF hQ
    · rw [if_neg h2] at hF
      refine Ev_aload_n d_Mod_numbers_69 rfl ?_
      refine g_Mod_117 rfl d_Mod_numbers_70 ?_
      refine Ev_if_ne (tgt := 199) d_Mod_numbers_73 rfl (fun h3 => ?_) (fun h3 => ?_)
      · rw [if_neg h3] at hF
        exact T_Mod_numbers_199 hF hQ
      · rw [if_pos h3] at hF
        refine Ev_aload_n d_Mod_numbers_76 rfl ?_
        refine Ev_iload_n d_Mod_numbers_77 rfl ?_
        refine Ev_iload_n d_Mod_numbers_78 rfl ?_
        refine Ev_iconst (v := 0) d_Mod_numbers_79 (by decide) ?_
        refine Ev_bipush (v := (10)) d_Mod_numbers_80 (by decide) ?_
        refine Ev_aload_n d_Mod_numbers_82 rfl ?_
        refine Ev_bipush (v := (15)) d_Mod_numbers_83 (by decide) ?_
        obtain ⟨r4, c4, hC, hF⟩ := x_bind_some hF
        refine k_Mod_123 rfl d_Mod_numbers_85 ⟨by decide, by decide⟩ (Nat.le_of_ble_eq_true rfl) ?_
        exact C_Mod_read hC (T_Mod_numbers_88 (fun h1 h2 => ih h1 h2) hF hQ)
def F_Mod_numbers_57 (x1 : Int32) (c : x_S) : Option (Int32 × x_S) := F_Mod_numbers_59 x_fuel x1 (0 : Int32) c
theorem T_Mod_numbers_57 {E : x_E} {o : x_S} {Q : Int32 → x_H → Prop} {l2 : Option Value} {l3 : Option Value} {x1 : Int32} {c : x_S} {r : Int32} {s : x_S} (hF : F_Mod_numbers_57 x1 c = some (r, s)) (hQ : Q r (hpk o s)) : Ev E m_Mod_numbers 0 0 57 [some (.ref 46), some (.int x1), l2, l3] [] (hpk o c) Q := by
  unfold F_Mod_numbers_57 at hF
  refine Ev_iconst (v := 0) d_Mod_numbers_57 (by decide) ?_
  refine Ev_istore_n (L' := [some (.ref 46), some (.int x1), some (.int (0 : Int32)), l3]) d_Mod_numbers_58 (by decide) rfl ?_
  exact T_Mod_numbers_59 x_fuel hF hQ
def F_Mod_numbers_52 (x1 s1 : Int32) (c : x_S) : Option (Int32 × x_S) := x_bind (F_Mod_check s1 (6 : Int32) c) (fun _ c1 => F_Mod_numbers_57 x1 c1)
theorem T_Mod_numbers_52 {E : x_E} {o : x_S} {Q : Int32 → x_H → Prop} {l2 : Option Value} {l3 : Option Value} {x1 s1 : Int32} {c : x_S} {r : Int32} {s : x_S} (hF : F_Mod_numbers_52 x1 s1 c = some (r, s)) (hQ : Q r (hpk o s)) : Ev E m_Mod_numbers 0 0 52 [some (.ref 46), some (.int x1), l2, l3] [.int s1, .ref 46] (hpk o c) Q := by
  unfold F_Mod_numbers_52 at hF
  refine Ev_bipush (v := (6)) d_Mod_numbers_52 (by decide) ?_
  obtain ⟨r1, c1, hC, hF⟩ := x_bind_some hF
  refine k_Mod_130 rfl d_Mod_numbers_54 ⟨by decide, by decide⟩ (Nat.le_of_ble_eq_true rfl) ?_
  exact C_Mod_check hC (T_Mod_numbers_57 hF hQ)
def F_Mod_numbers_47 (x1 : Int32) (c : x_S) : Option (Int32 × x_S) := F_Mod_numbers_52 x1 (1 : Int32) c
theorem T_Mod_numbers_47 {E : x_E} {o : x_S} {Q : Int32 → x_H → Prop} {l2 : Option Value} {l3 : Option Value} {x1 : Int32} {c : x_S} {r : Int32} {s : x_S} (hF : F_Mod_numbers_47 x1 c = some (r, s)) (hQ : Q r (hpk o s)) : Ev E m_Mod_numbers 0 0 47 [some (.ref 46), some (.int x1), l2, l3] [.ref 46] (hpk o c) Q := by
  unfold F_Mod_numbers_47 at hF
  refine Ev_iconst (v := 1) d_Mod_numbers_47 (by decide) ?_
  refine Ev_goto (tgt := 52) d_Mod_numbers_48 rfl ?_
  exact T_Mod_numbers_52 hF hQ
def F_Mod_numbers_32 (x1 : Int32) (c : x_S) : Option (Int32 × x_S) := if x1 = (3 : Int32) then (x_ix x1 6 (fun j2 => if (c 61 j2) ≤ 0 then (F_Mod_numbers_52 x1 (0 : Int32) c) else (F_Mod_numbers_47 x1 c))) else (F_Mod_numbers_47 x1 c)
theorem T_Mod_numbers_32 {E : x_E} {o : x_S} {Q : Int32 → x_H → Prop} {l2 : Option Value} {l3 : Option Value} {x1 : Int32} {c : x_S} {r : Int32} {s : x_S} (hF : F_Mod_numbers_32 x1 c = some (r, s)) (hQ : Q r (hpk o s)) : Ev E m_Mod_numbers 0 0 32 [some (.ref 46), some (.int x1), l2, l3] [] (hpk o c) Q := by
  unfold F_Mod_numbers_32 at hF
  refine Ev_aload_n d_Mod_numbers_32 rfl ?_
  refine Ev_iload_n d_Mod_numbers_33 rfl ?_
  refine Ev_iconst (v := 3) d_Mod_numbers_34 (by decide) ?_
  refine Ev_icmp_ne (tgt := 47) d_Mod_numbers_35 rfl (fun h1 => ?_) (fun h1 => ?_)
  · rw [if_neg h1] at hF
    exact T_Mod_numbers_47 hF hQ
  · rw [if_pos h1] at hF
    refine Ev_aload_n d_Mod_numbers_38 rfl ?_
    refine g_Mod_57 rfl d_Mod_numbers_39 ?_
    refine Ev_iload_n d_Mod_numbers_42 rfl ?_
    obtain ⟨j2, hij2, hjj2, hF⟩ := x_ix_some hF
    refine Em_iald d_Mod_numbers_43 (P := 61) (by decide) rfl hij2 hjj2 ?_
    refine Ev_if_le (tgt := 51) d_Mod_numbers_44 rfl (fun h3 => ?_) (fun h3 => ?_)
    · rw [if_pos h3] at hF
      refine Ev_iconst (v := 0) d_Mod_numbers_51 (by decide) ?_
      exact T_Mod_numbers_52 hF hQ
    · rw [if_neg h3] at hF
      exact T_Mod_numbers_47 hF hQ
def F_Mod_numbers_31 (x1 s1 s2 : Int32) (c : x_S) : Option (Int32 × x_S) := x_ix s1 6 (fun j1 => F_Mod_numbers_32 x1 (x_up c 61 j1 s2))
theorem T_Mod_numbers_31 {E : x_E} {o : x_S} {Q : Int32 → x_H → Prop} {l2 : Option Value} {l3 : Option Value} {x1 s1 s2 : Int32} {c : x_S} {r : Int32} {s : x_S} (hF : F_Mod_numbers_31 x1 s1 s2 c = some (r, s)) (hQ : Q r (hpk o s)) : Ev E m_Mod_numbers 0 0 31 [some (.ref 46), some (.int x1), l2, l3] [.int s2, .int s1, .ref 61] (hpk o c) Q := by
  unfold F_Mod_numbers_31 at hF
  obtain ⟨j1, hij1, hjj1, hF⟩ := x_ix_some hF
  refine Em_iast d_Mod_numbers_31 (P := 61) (by decide) rfl hij1 hjj1 ?_
  exact T_Mod_numbers_32 hF hQ
def F_Mod_numbers_21 (x1 : Int32) (c : x_S) : Option (Int32 × x_S) := x_bind (F_Mod_read (3 : Int32) c) (fun r1 c1 => F_Mod_numbers_31 x1 x1 r1 c1)
theorem T_Mod_numbers_21 {E : x_E} {o : x_S} {Q : Int32 → x_H → Prop} {l2 : Option Value} {l3 : Option Value} {x1 : Int32} {c : x_S} {r : Int32} {s : x_S} (hF : F_Mod_numbers_21 x1 c = some (r, s)) (hQ : Q r (hpk o s)) : Ev E m_Mod_numbers 0 0 21 [some (.ref 46), some (.int x1), l2, l3] [] (hpk o c) Q := by
  unfold F_Mod_numbers_21 at hF
  refine Ev_aload_n d_Mod_numbers_21 rfl ?_
  refine g_Mod_57 rfl d_Mod_numbers_22 ?_
  refine Ev_iload_n d_Mod_numbers_25 rfl ?_
  refine Ev_aload_n d_Mod_numbers_26 rfl ?_
  refine Ev_iconst (v := 3) d_Mod_numbers_27 (by decide) ?_
  obtain ⟨r1, c1, hC, hF⟩ := x_bind_some hF
  refine k_Mod_123 rfl d_Mod_numbers_28 ⟨by decide, by decide⟩ (Nat.le_of_ble_eq_true rfl) ?_
  exact C_Mod_read hC (T_Mod_numbers_31 hF hQ)
def F_Mod_numbers_7 (x1 : Int32) (c : x_S) : Option (Int32 × x_S) := if x1 = 0 then (F_Mod_numbers_21 x1 c) else (if x1 = (2 : Int32) then (F_Mod_numbers_21 x1 c) else (if x1 = (3 : Int32) then (F_Mod_numbers_21 x1 c) else (if x1 = (1 : Int32) then (x_bind (F_Mod_read (15 : Int32) c) (fun r6 c6 => F_Mod_numbers_219 x1 x1 (0 : Int32) (0 : Int32) (10 : Int32) r6 c6)) else (x_bind (F_Mod_read (8 : Int32) c) (fun r5 c5 => F_Mod_numbers_287 x1 x1 (0 : Int32) (0 : Int32) r5 c5)))))
theorem T_Mod_numbers_7 {E : x_E} {o : x_S} {Q : Int32 → x_H → Prop} {l2 : Option Value} {l3 : Option Value} {x1 : Int32} {c : x_S} {r : Int32} {s : x_S} (hF : F_Mod_numbers_7 x1 c = some (r, s)) (hQ : Q r (hpk o s)) : Ev E m_Mod_numbers 0 0 7 [some (.ref 46), some (.int x1), l2, l3] [] (hpk o c) Q := by
  unfold F_Mod_numbers_7 at hF
  refine Ev_iload_n d_Mod_numbers_7 rfl ?_
  refine Ev_if_eq (tgt := 21) d_Mod_numbers_8 rfl (fun h1 => ?_) (fun h1 => ?_)
  · rw [if_pos h1] at hF
    exact T_Mod_numbers_21 hF hQ
  · rw [if_neg h1] at hF
    refine Ev_iload_n d_Mod_numbers_11 rfl ?_
    refine Ev_iconst (v := 2) d_Mod_numbers_12 (by decide) ?_
    refine Ev_icmp_eq (tgt := 21) d_Mod_numbers_13 rfl (fun h2 => ?_) (fun h2 => ?_)
    · rw [if_pos h2] at hF
      exact T_Mod_numbers_21 hF hQ
    · rw [if_neg h2] at hF
      refine Ev_iload_n d_Mod_numbers_16 rfl ?_
      refine Ev_iconst (v := 3) d_Mod_numbers_17 (by decide) ?_
      refine Ev_icmp_ne (tgt := 202) d_Mod_numbers_18 rfl (fun h3 => ?_) (fun h3 => ?_)
      · rw [if_neg h3] at hF
        refine Ev_iload_n d_Mod_numbers_202 rfl ?_
        refine Ev_iconst (v := 1) d_Mod_numbers_203 (by decide) ?_
        refine Ev_icmp_ne (tgt := 277) d_Mod_numbers_204 rfl (fun h4 => ?_) (fun h4 => ?_)
        · rw [if_neg h4] at hF
          refine Ev_aload_n d_Mod_numbers_277 rfl ?_
          refine Ev_iload_n d_Mod_numbers_278 rfl ?_
          refine Ev_iconst (v := 0) d_Mod_numbers_279 (by decide) ?_
          refine Ev_iconst (v := 0) d_Mod_numbers_280 (by decide) ?_
          refine Ev_aload_n d_Mod_numbers_281 rfl ?_
          refine Ev_bipush (v := (8)) d_Mod_numbers_282 (by decide) ?_
          obtain ⟨r5, c5, hC, hF⟩ := x_bind_some hF
          refine k_Mod_123 rfl d_Mod_numbers_284 ⟨by decide, by decide⟩ (Nat.le_of_ble_eq_true rfl) ?_
          exact C_Mod_read hC (T_Mod_numbers_287 hF hQ)
        · rw [if_pos h4] at hF
          refine Ev_aload_n d_Mod_numbers_207 rfl ?_
          refine Ev_iload_n d_Mod_numbers_208 rfl ?_
          refine Ev_iconst (v := 0) d_Mod_numbers_209 (by decide) ?_
          refine Ev_iconst (v := 0) d_Mod_numbers_210 (by decide) ?_
          refine Ev_bipush (v := (10)) d_Mod_numbers_211 (by decide) ?_
          refine Ev_aload_n d_Mod_numbers_213 rfl ?_
          refine Ev_bipush (v := (15)) d_Mod_numbers_214 (by decide) ?_
          obtain ⟨r6, c6, hC, hF⟩ := x_bind_some hF
          refine k_Mod_123 rfl d_Mod_numbers_216 ⟨by decide, by decide⟩ (Nat.le_of_ble_eq_true rfl) ?_
          exact C_Mod_read hC (T_Mod_numbers_219 hF hQ)
      · rw [if_pos h3] at hF
        exact T_Mod_numbers_21 hF hQ
def F_Mod_numbers (x1 : Int32) (c : x_S) : Option (Int32 × x_S) := x_ix x1 6 (fun j1 => F_Mod_numbers_7 x1 (x_up c 61 j1 (1 : Int32)))
theorem C_Mod_numbers {E : x_E} {o : x_S} {Q : Int32 → x_H → Prop} {x1 : Int32} {c : x_S} {r : Int32} {s : x_S} (hF : F_Mod_numbers x1 c = some (r, s)) (hQ : Q r (hpk o s)) : Call E m_Mod_numbers 0 0 [.ref 46, .int x1] (hpk o c) Q := by
  refine Call_of (L := [some (.ref 46), some (.int x1), none, none]) (by decide) (by intro v hv; simp only [List.mem_cons, List.not_mem_nil, or_false] at hv; rcases hv with rfl | rfl <;> rfl) (Nat.le_of_ble_eq_true rfl) rfl ?_
  unfold F_Mod_numbers at hF
  refine Ev_aload_n d_Mod_numbers_0 rfl ?_
  refine g_Mod_57 rfl d_Mod_numbers_1 ?_
  refine Ev_iload_n d_Mod_numbers_4 rfl ?_
  refine Ev_iconst (v := 1) d_Mod_numbers_5 (by decide) ?_
  obtain ⟨j1, hij1, hjj1, hF⟩ := x_ix_some hF
  refine Em_iast d_Mod_numbers_6 (P := 61) (by decide) rfl hij1 hjj1 ?_
  exact T_Mod_numbers_7 hF hQ
