/-! printed by wip/gen/gen4.py: G0 -/
def F_G_brakingWay_58 (s0 s1 : Int32) (c : x_S) : Option (Int32 × x_S) := some ((s0 + s1), c)
theorem T_G_brakingWay_58 {E : x_E} {o : x_S} {Q : Int32 → x_H → Prop} {l0 : Option Value} {l1 : Option Value} {l2 : Option Value} {l3 : Option Value} {l4 : Option Value} {l5 : Option Value} {s0 s1 : Int32} {c : x_S} {r : Int32} {s : x_S} (hF : F_G_brakingWay_58 s0 s1 c = some (r, s)) (hQ : Q r (hpk s o)) : Ev E m_G_brakingWay 0 0 58 [l0, l1, l2, l3, l4, l5] [.int s1, .int s0] (hpk c o) Q := by
  unfold F_G_brakingWay_58 at hF
  refine Ev_iadd d_G_brakingWay_58 ?_
  cases hF
  exact Ev_ireturn d_G_brakingWay_59 rfl hQ
def F_G_brakingWay_10 (c : x_S) : Option (Int32 × x_S) := some ((0 : Int32), c)
theorem T_G_brakingWay_10 {E : x_E} {o : x_S} {Q : Int32 → x_H → Prop} {l0 : Option Value} {l1 : Option Value} {l2 : Option Value} {l3 : Option Value} {l4 : Option Value} {l5 : Option Value} {c : x_S} {r : Int32} {s : x_S} (hF : F_G_brakingWay_10 c = some (r, s)) (hQ : Q r (hpk s o)) : Ev E m_G_brakingWay 0 0 10 [l0, l1, l2, l3, l4, l5] [] (hpk c o) Q := by
  unfold F_G_brakingWay_10 at hF
  refine Ev_iconst (v := 0) d_G_brakingWay_10 (by decide) ?_
  cases hF
  exact Ev_ireturn d_G_brakingWay_11 rfl hQ
def F_G_brakingWay (x0 x1 x2 : Int32) (c : x_S) : Option (Int32 × x_S) := if x0 ≤ x1 then (F_G_brakingWay_10 c) else (if (1 : Int32) ≤ x2 then (x_nz x2 (if (x0 - (((((x0 - x1) + x2) - (1 : Int32)) / x2) * x2)) ≤ 0 then (F_G_brakingWay_58 (((((((x0 - x1) + x2) - (1 : Int32)) / x2) - (1 : Int32)) * x0) - (x2 * (((((((x0 - x1) + x2) - (1 : Int32)) / x2) - (1 : Int32)) * ((((x0 - x1) + x2) - (1 : Int32)) / x2)) / (2 : Int32)))) (0 : Int32) c) else (F_G_brakingWay_58 (((((((x0 - x1) + x2) - (1 : Int32)) / x2) - (1 : Int32)) * x0) - (x2 * (((((((x0 - x1) + x2) - (1 : Int32)) / x2) - (1 : Int32)) * ((((x0 - x1) + x2) - (1 : Int32)) / x2)) / (2 : Int32)))) (x0 - (((((x0 - x1) + x2) - (1 : Int32)) / x2) * x2)) c))) else (F_G_brakingWay_10 c))
theorem C_G_brakingWay {E : x_E} {o : x_S} {Q : Int32 → x_H → Prop} {x0 x1 x2 : Int32} {c : x_S} {r : Int32} {s : x_S} (hF : F_G_brakingWay x0 x1 x2 c = some (r, s)) (hQ : Q r (hpk s o)) : Call E m_G_brakingWay 0 0 [.int x0, .int x1, .int x2] (hpk c o) Q := by
  refine Call_of (L := [some (.int x0), some (.int x1), some (.int x2), none, none, none]) (by decide) (by intro v hv; simp only [List.mem_cons, List.not_mem_nil, or_false] at hv; rcases hv with rfl | rfl | rfl <;> rfl) (Nat.le_of_ble_eq_true rfl) rfl ?_
  unfold F_G_brakingWay at hF
  refine Ev_iload_n d_G_brakingWay_0 rfl ?_
  refine Ev_iload_n d_G_brakingWay_1 rfl ?_
  refine Ev_icmp_le (tgt := 10) d_G_brakingWay_2 rfl (fun h1 => ?_) (fun h1 => ?_)
  · rw [if_pos h1] at hF
    exact T_G_brakingWay_10 hF hQ
  · rw [if_neg h1] at hF
    refine Ev_iload_n d_G_brakingWay_5 rfl ?_
    refine Ev_iconst (v := 1) d_G_brakingWay_6 (by decide) ?_
    refine Ev_icmp_ge (tgt := 12) d_G_brakingWay_7 rfl (fun h2 => ?_) (fun h2 => ?_)
    · rw [if_pos h2] at hF
      refine Ev_iload_n d_G_brakingWay_12 rfl ?_
      refine Ev_iload_n d_G_brakingWay_13 rfl ?_
      refine Ev_isub d_G_brakingWay_14 ?_
      refine Ev_iload_n d_G_brakingWay_15 rfl ?_
      refine Ev_iadd d_G_brakingWay_16 ?_
      refine Ev_iconst (v := 1) d_G_brakingWay_17 (by decide) ?_
      refine Ev_isub d_G_brakingWay_18 ?_
      refine Ev_iload_n d_G_brakingWay_19 rfl ?_
      obtain ⟨hz3, hF⟩ := x_nz_some hF
      refine Ev_idiv d_G_brakingWay_20 hz3 ?_
      refine Ev_istore_n (L' := [some (.int x0), some (.int x1), some (.int x2), some (.int ((((x0 - x1) + x2) - (1 : Int32)) / x2)), none, none]) d_G_brakingWay_21 (by decide) rfl ?_
      refine Ev_iload_n d_G_brakingWay_22 rfl ?_
      refine Ev_iconst (v := 1) d_G_brakingWay_23 (by decide) ?_
      refine Ev_isub d_G_brakingWay_24 ?_
      refine Ev_istore (L' := [some (.int x0), some (.int x1), some (.int x2), some (.int ((((x0 - x1) + x2) - (1 : Int32)) / x2)), some (.int (((((x0 - x1) + x2) - (1 : Int32)) / x2) - (1 : Int32))), none]) d_G_brakingWay_25 (by decide) rfl ?_
      refine Ev_iload_n d_G_brakingWay_27 rfl ?_
      refine Ev_iload_n d_G_brakingWay_28 rfl ?_
      refine Ev_iload_n d_G_brakingWay_29 rfl ?_
      refine Ev_imul d_G_brakingWay_30 ?_
      refine Ev_isub d_G_brakingWay_31 ?_
      refine Ev_istore (L' := [some (.int x0), some (.int x1), some (.int x2), some (.int ((((x0 - x1) + x2) - (1 : Int32)) / x2)), some (.int (((((x0 - x1) + x2) - (1 : Int32)) / x2) - (1 : Int32))), some (.int (x0 - (((((x0 - x1) + x2) - (1 : Int32)) / x2) * x2)))]) d_G_brakingWay_32 (by decide) rfl ?_
      refine Ev_iload d_G_brakingWay_34 rfl ?_
      refine Ev_iload_n d_G_brakingWay_36 rfl ?_
      refine Ev_imul d_G_brakingWay_37 ?_
      refine Ev_iload_n d_G_brakingWay_38 rfl ?_
      refine Ev_iload d_G_brakingWay_39 rfl ?_
      refine Ev_iload_n d_G_brakingWay_41 rfl ?_
      refine Ev_imul d_G_brakingWay_42 ?_
      refine Ev_iconst (v := 2) d_G_brakingWay_43 (by decide) ?_
      refine Ev_idiv d_G_brakingWay_44 (by decide) ?_
      refine Ev_imul d_G_brakingWay_45 ?_
      refine Ev_isub d_G_brakingWay_46 ?_
      refine Ev_iload d_G_brakingWay_47 rfl ?_
      refine Ev_if_le (tgt := 57) d_G_brakingWay_49 rfl (fun h4 => ?_) (fun h4 => ?_)
      · rw [if_pos h4] at hF
        refine Ev_iconst (v := 0) d_G_brakingWay_57 (by decide) ?_
        exact T_G_brakingWay_58 hF hQ
      · rw [if_neg h4] at hF
        refine Ev_iload d_G_brakingWay_52 rfl ?_
        refine Ev_goto (tgt := 58) d_G_brakingWay_54 rfl ?_
        exact T_G_brakingWay_58 hF hQ
    · rw [if_neg h2] at hF
      exact T_G_brakingWay_10 hF hQ
