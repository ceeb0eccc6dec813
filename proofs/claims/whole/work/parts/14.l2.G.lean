/-! printed by wip/gen/gen4.py: TrainGuard -/
def F_G_allowedNow_27 (s0 : Int32) (c : x_S) : Option (Int32 × x_S) := some (s0, c)
theorem T_G_allowedNow_27 {E : x_E} {o : x_S} {Q : Int32 → x_H → Prop} {l0 : Option Value} {s0 : Int32} {c : x_S} {r : Int32} {s : x_S} (hF : F_G_allowedNow_27 s0 c = some (r, s)) (hQ : Q r (hpk s o)) : Ev E m_G_allowedNow 0 0 27 [l0] [.int s0] (hpk c o) Q := by
  unfold F_G_allowedNow_27 at hF
  cases hF
  exact Ev_ireturn d_G_allowedNow_27 rfl hQ
def F_G_allowedNow_20 (c : x_S) : Option (Int32 × x_S) := x_bind (F_Cur_allowed c) (fun r1 c1 => F_G_allowedNow_27 r1 c1)
theorem T_G_allowedNow_20 {E : x_E} {o : x_S} {Q : Int32 → x_H → Prop} {c : x_S} {r : Int32} {s : x_S} (hF : F_G_allowedNow_20 c = some (r, s)) (hQ : Q r (hpk s o)) : Ev E m_G_allowedNow 0 0 20 [some (.ref 0)] [] (hpk c o) Q := by
  unfold F_G_allowedNow_20 at hF
  refine Ev_aload_n d_G_allowedNow_20 rfl ?_
  refine g_G_67 rfl d_G_allowedNow_21 ?_
  obtain ⟨r1, c1, hC, hF⟩ := x_bind_some hF
  refine k_G_280 rfl d_G_allowedNow_24 ⟨by decide, by decide⟩ (Nat.le_of_ble_eq_true rfl) ?_
  exact C_Cur_allowed hC (T_G_allowedNow_27 hF hQ)
def F_G_allowedNow_4 (s0 : Int32) (c : x_S) : Option (Int32 × x_S) := if s0 = 0 then (x_bind (F_G_lookAhead (c 2 5) c) (fun _ c2 => F_G_allowedNow_20 c2)) else (some ((0 : Int32), c))
theorem T_G_allowedNow_4 {E : x_E} {o : x_S} {Q : Int32 → x_H → Prop} {s0 : Int32} {c : x_S} {r : Int32} {s : x_S} (hF : F_G_allowedNow_4 s0 c = some (r, s)) (hQ : Q r (hpk s o)) : Ev E m_G_allowedNow 0 0 4 [some (.ref 0)] [.int s0] (hpk c o) Q := by
  unfold F_G_allowedNow_4 at hF
  refine Ev_if_eq (tgt := 9) d_G_allowedNow_4 rfl (fun h1 => ?_) (fun h1 => ?_)
  · rw [if_pos h1] at hF
    refine Ev_aload_n d_G_allowedNow_9 rfl ?_
    refine Ev_aload_n d_G_allowedNow_10 rfl ?_
    refine g_G_19 rfl d_G_allowedNow_11 ?_
    refine g_G_184 rfl d_G_allowedNow_14 ?_
    obtain ⟨r2, c2, hC, hF⟩ := x_bind_some hF
    refine k_G_274 rfl d_G_allowedNow_17 ⟨by decide, by decide⟩ (Nat.le_of_ble_eq_true rfl) ?_
    exact C_G_lookAhead hC (T_G_allowedNow_20 hF hQ)
  · rw [if_neg h1] at hF
    refine Ev_iconst (v := 0) d_G_allowedNow_7 (by decide) ?_
    cases hF
    exact Ev_ireturn d_G_allowedNow_8 rfl hQ
def F_G_allowedNow (c : x_S) : Option (Int32 × x_S) := x_bind (F_G_isStopped c) (fun r1 c1 => F_G_allowedNow_4 r1 c1)
theorem C_G_allowedNow {E : x_E} {o : x_S} {Q : Int32 → x_H → Prop} {c : x_S} {r : Int32} {s : x_S} (hF : F_G_allowedNow c = some (r, s)) (hQ : Q r (hpk s o)) : Call E m_G_allowedNow 0 0 [.ref 0] (hpk c o) Q := by
  refine Call_of (L := [some (.ref 0)]) (by decide) (by intro v hv; simp only [List.mem_cons, List.not_mem_nil, or_false] at hv; rw [hv]; rfl) (Nat.le_of_ble_eq_true rfl) rfl ?_
  unfold F_G_allowedNow at hF
  refine Ev_aload_n d_G_allowedNow_0 rfl ?_
  obtain ⟨r1, c1, hC, hF⟩ := x_bind_some hF
  refine k_G_193 rfl d_G_allowedNow_1 ⟨by decide, by decide⟩ (Nat.le_of_ble_eq_true rfl) ?_
  exact C_G_isStopped hC (T_G_allowedNow_4 hF hQ)
def F_G_display_91 (s0 : Int32) (c : x_S) : Option (Int32 × x_S) := some (s0, c)
theorem T_G_display_91 {E : x_E} {o : x_S} {Q : Int32 → x_H → Prop} {l0 : Option Value} {l1 : Option Value} {s0 : Int32} {c : x_S} {r : Int32} {s : x_S} (hF : F_G_display_91 s0 c = some (r, s)) (hQ : Q r (hpk s o)) : Ev E m_G_display 0 0 91 [l0, l1] [.int s0] (hpk c o) Q := by
  unfold F_G_display_91 at hF
  cases hF
  exact Ev_ireturn d_G_display_91 rfl hQ
def F_G_display_80 (s0 : Int32) (c : x_S) : Option (Int32 × x_S) := if s0 = 0 then (x_bind (F_G_ceilingNow c) (fun r2 c2 => F_G_display_91 r2 c2)) else (F_G_display_91 (-1 : Int32) c)
theorem T_G_display_80 {E : x_E} {o : x_S} {Q : Int32 → x_H → Prop} {l1 : Option Value} {s0 : Int32} {c : x_S} {r : Int32} {s : x_S} (hF : F_G_display_80 s0 c = some (r, s)) (hQ : Q r (hpk s o)) : Ev E m_G_display 0 0 80 [some (.ref 0), l1] [.int s0] (hpk c o) Q := by
  unfold F_G_display_80 at hF
  refine Ev_if_eq (tgt := 87) d_G_display_80 rfl (fun h1 => ?_) (fun h1 => ?_)
  · rw [if_pos h1] at hF
    refine Ev_aload_n d_G_display_87 rfl ?_
    obtain ⟨r2, c2, hC, hF⟩ := x_bind_some hF
    refine k_G_197 rfl d_G_display_88 ⟨by decide, by decide⟩ (Nat.le_of_ble_eq_true rfl) ?_
    exact C_G_ceilingNow hC (T_G_display_91 hF hQ)
  · rw [if_neg h1] at hF
    refine Ev_iconst (v := (-1)) d_G_display_83 (by decide) ?_
    refine Ev_goto (tgt := 91) d_G_display_84 rfl ?_
    exact T_G_display_91 hF hQ
def F_G_display_75 (s0 : Int32) (c : x_S) : Option (Int32 × x_S) := some (s0, c)
theorem T_G_display_75 {E : x_E} {o : x_S} {Q : Int32 → x_H → Prop} {l0 : Option Value} {l1 : Option Value} {s0 : Int32} {c : x_S} {r : Int32} {s : x_S} (hF : F_G_display_75 s0 c = some (r, s)) (hQ : Q r (hpk s o)) : Ev E m_G_display 0 0 75 [l0, l1] [.int s0] (hpk c o) Q := by
  unfold F_G_display_75 at hF
  cases hF
  exact Ev_ireturn d_G_display_75 rfl hQ
def F_G_display_41 (s0 : Int32) (c : x_S) : Option (Int32 × x_S) := some (s0, c)
theorem T_G_display_41 {E : x_E} {o : x_S} {Q : Int32 → x_H → Prop} {l0 : Option Value} {l1 : Option Value} {s0 : Int32} {c : x_S} {r : Int32} {s : x_S} (hF : F_G_display_41 s0 c = some (r, s)) (hQ : Q r (hpk s o)) : Ev E m_G_display 0 0 41 [l0, l1] [.int s0] (hpk c o) Q := by
  unfold F_G_display_41 at hF
  cases hF
  exact Ev_ireturn d_G_display_41 rfl hQ
def F_G_display_36 (s0 : Int32) (c : x_S) : Option (Int32 × x_S) := some (s0, c)
theorem T_G_display_36 {E : x_E} {o : x_S} {Q : Int32 → x_H → Prop} {l0 : Option Value} {l1 : Option Value} {s0 : Int32} {c : x_S} {r : Int32} {s : x_S} (hF : F_G_display_36 s0 c = some (r, s)) (hQ : Q r (hpk s o)) : Ev E m_G_display 0 0 36 [l0, l1] [.int s0] (hpk c o) Q := by
  unfold F_G_display_36 at hF
  cases hF
  exact Ev_ireturn d_G_display_36 rfl hQ
def F_G_display (x1 : Int32) (c : x_S) : Option (Int32 × x_S) := if x1 = 0 then (x_bind (F_G_allowedNow c) (fun r2 c2 => F_G_display_36 r2 c2)) else (if x1 = 1 then (x_bind (F_G_gradeNow c) (fun r4 c4 => F_G_display_41 r4 c4)) else (if x1 = 2 then (if (c 2 4) = 0 then (F_G_display_75 (-1 : Int32) c) else (F_G_display_75 (if ((c 2 5) - (c 1 1)) < (0 : Int32) then (0 : Int32) else ((c 2 5) - (c 1 1))) c)) else (if x1 = 3 then (x_bind (F_G_isStopped c) (fun r8 c8 => F_G_display_80 r8 c8)) else (some ((-1 : Int32), c)))))
theorem C_G_display {E : x_E} {o : x_S} {Q : Int32 → x_H → Prop} {x1 : Int32} {c : x_S} {r : Int32} {s : x_S} (hF : F_G_display x1 c = some (r, s)) (hQ : Q r (hpk s o)) : Call E m_G_display 0 0 [.ref 0, .int x1] (hpk c o) Q := by
  refine Call_of (L := [some (.ref 0), some (.int x1)]) (by decide) (by intro v hv; simp only [List.mem_cons, List.not_mem_nil, or_false] at hv; rcases hv with rfl | rfl <;> rfl) (Nat.le_of_ble_eq_true rfl) rfl ?_
  unfold F_G_display at hF
  refine Ev_iload_n d_G_display_0 rfl ?_
  by_cases h1 : x1 = 0
  · rw [if_pos h1] at hF
    refine Ev_tableIn (off := 31) (tgt := 32) d_G_display_1 (by rw [h1]; decide) (by rw [h1]; decide) (by rw [h1]; decide) rfl ?_
    refine Ev_aload_n d_G_display_32 rfl ?_
    obtain ⟨r2, c2, hC, hF⟩ := x_bind_some hF
    refine k_G_178 rfl d_G_display_33 ⟨by decide, by decide⟩ (Nat.le_of_ble_eq_true rfl) ?_
    exact C_G_allowedNow hC (T_G_display_36 hF hQ)
  · rw [if_neg h1] at hF
    by_cases h3 : x1 = 1
    · rw [if_pos h3] at hF
      refine Ev_tableIn (off := 36) (tgt := 37) d_G_display_1 (by rw [h3]; decide) (by rw [h3]; decide) (by rw [h3]; decide) rfl ?_
      refine Ev_aload_n d_G_display_37 rfl ?_
      obtain ⟨r4, c4, hC, hF⟩ := x_bind_some hF
      refine k_G_156 rfl d_G_display_38 ⟨by decide, by decide⟩ (Nat.le_of_ble_eq_true rfl) ?_
      exact C_G_gradeNow hC (T_G_display_41 hF hQ)
    · rw [if_neg h3] at hF
      by_cases h5 : x1 = 2
      · rw [if_pos h5] at hF
        refine Ev_tableIn (off := 41) (tgt := 42) d_G_display_1 (by rw [h5]; decide) (by rw [h5]; decide) (by rw [h5]; decide) rfl ?_
        refine Ev_aload_n d_G_display_42 rfl ?_
        refine g_G_19 rfl d_G_display_43 ?_
        refine g_G_181 rfl d_G_display_46 ?_
        refine Ev_if_eq (tgt := 74) d_G_display_49 rfl (fun h6 => ?_) (fun h6 => ?_)
        · rw [if_pos h6] at hF
          refine Ev_iconst (v := (-1)) d_G_display_74 (by decide) ?_
          exact T_G_display_75 hF hQ
        · rw [if_neg h6] at hF
          refine Ev_aload_n d_G_display_52 rfl ?_
          refine g_G_19 rfl d_G_display_53 ?_
          refine g_G_184 rfl d_G_display_56 ?_
          refine Ev_aload_n d_G_display_59 rfl ?_
          refine g_G_10 rfl d_G_display_60 ?_
          refine g_G_115 rfl d_G_display_63 ?_
          refine Ev_isub d_G_display_66 ?_
          refine Ev_iconst (v := 0) d_G_display_67 (by decide) ?_
          refine Ev_mmax xw_mG_187 d_G_display_68 (by decide) (by decide) (Nat.le_of_ble_eq_true rfl) ?_
          refine Ev_goto (tgt := 75) d_G_display_71 rfl ?_
          exact T_G_display_75 hF hQ
      · rw [if_neg h5] at hF
        by_cases h7 : x1 = 3
        · rw [if_pos h7] at hF
          refine Ev_tableIn (off := 75) (tgt := 76) d_G_display_1 (by rw [h7]; decide) (by rw [h7]; decide) (by rw [h7]; decide) rfl ?_
          refine Ev_aload_n d_G_display_76 rfl ?_
          obtain ⟨r8, c8, hC, hF⟩ := x_bind_some hF
          refine k_G_193 rfl d_G_display_77 ⟨by decide, by decide⟩ (Nat.le_of_ble_eq_true rfl) ?_
          exact C_G_isStopped hC (T_G_display_80 hF hQ)
        · rw [if_neg h7] at hF
          have eh1 := lv_neT h1 (show (0 : Int32).toInt = 0 by decide)
          have eh3 := lv_neT h3 (show (1 : Int32).toInt = 1 by decide)
          have eh5 := lv_neT h5 (show (2 : Int32).toInt = 2 by decide)
          have eh7 := lv_neT h7 (show (3 : Int32).toInt = 3 by decide)
          refine Ev_tableOut (tgt := 92) d_G_display_1 (by omega) rfl ?_
          refine Ev_iconst (v := (-1)) d_G_display_92 (by decide) ?_
          cases hF
          exact Ev_ireturn d_G_display_93 rfl hQ
def F_G_limit_19 (s0 : Int32) (c : x_S) : Option (Int32 × x_S) := some (s0, c)
theorem T_G_limit_19 {E : x_E} {o : x_S} {Q : Int32 → x_H → Prop} {l0 : Option Value} {l1 : Option Value} {s0 : Int32} {c : x_S} {r : Int32} {s : x_S} (hF : F_G_limit_19 s0 c = some (r, s)) (hQ : Q r (hpk s o)) : Ev E m_G_limit 0 0 19 [l0, l1] [.int s0] (hpk c o) Q := by
  unfold F_G_limit_19 at hF
  cases hF
  exact Ev_ireturn d_G_limit_19 rfl hQ
def F_G_limit (x1 : Int32) (c : x_S) : Option (Int32 × x_S) := if 0 ≤ x1 then (x_bind (F_Trk_leastLimit x1 x1 c) (fun r2 c2 => F_G_limit_19 r2 c2)) else (F_G_limit_19 (600 : Int32) c)
theorem C_G_limit {E : x_E} {o : x_S} {Q : Int32 → x_H → Prop} {x1 : Int32} {c : x_S} {r : Int32} {s : x_S} (hF : F_G_limit x1 c = some (r, s)) (hQ : Q r (hpk s o)) : Call E m_G_limit 0 0 [.ref 0, .int x1] (hpk c o) Q := by
  refine Call_of (L := [some (.ref 0), some (.int x1)]) (by decide) (by intro v hv; simp only [List.mem_cons, List.not_mem_nil, or_false] at hv; rcases hv with rfl | rfl <;> rfl) (Nat.le_of_ble_eq_true rfl) rfl ?_
  unfold F_G_limit at hF
  refine Ev_iload_n d_G_limit_0 rfl ?_
  refine Ev_if_ge (tgt := 10) d_G_limit_1 rfl (fun h1 => ?_) (fun h1 => ?_)
  · rw [if_pos h1] at hF
    refine Ev_aload_n d_G_limit_10 rfl ?_
    refine g_G_19 rfl d_G_limit_11 ?_
    refine Ev_iload_n d_G_limit_14 rfl ?_
    refine Ev_iload_n d_G_limit_15 rfl ?_
    obtain ⟨r2, c2, hC, hF⟩ := x_bind_some hF
    refine k_G_200 rfl d_G_limit_16 ⟨by decide, by decide⟩ (Nat.le_of_ble_eq_true rfl) ?_
    exact C_Trk_leastLimit hC (T_G_limit_19 hF hQ)
  · rw [if_neg h1] at hF
    refine Ev_sipush (v := (600)) d_G_limit_4 (by decide) ?_
    refine Ev_goto (tgt := 19) d_G_limit_7 rfl ?_
    exact T_G_limit_19 hF hQ
def F_G_way_41 (s0 : Int32) (c : x_S) : Option (Int32 × x_S) := some (s0, c)
theorem T_G_way_41 {E : x_E} {o : x_S} {Q : Int32 → x_H → Prop} {l0 : Option Value} {l1 : Option Value} {l2 : Option Value} {l3 : Option Value} {s0 : Int32} {c : x_S} {r : Int32} {s : x_S} (hF : F_G_way_41 s0 c = some (r, s)) (hQ : Q r (hpk s o)) : Ev E m_G_way 0 0 41 [l0, l1, l2, l3] [.int s0] (hpk c o) Q := by
  unfold F_G_way_41 at hF
  cases hF
  exact Ev_ireturn d_G_way_41 rfl hQ
def F_G_way_33 (c : x_S) : Option (Int32 × x_S) := some ((-1 : Int32), c)
theorem T_G_way_33 {E : x_E} {o : x_S} {Q : Int32 → x_H → Prop} {l0 : Option Value} {l1 : Option Value} {l2 : Option Value} {l3 : Option Value} {c : x_S} {r : Int32} {s : x_S} (hF : F_G_way_33 c = some (r, s)) (hQ : Q r (hpk s o)) : Ev E m_G_way 0 0 33 [l0, l1, l2, l3] [] (hpk c o) Q := by
  unfold F_G_way_33 at hF
  refine Ev_iconst (v := (-1)) d_G_way_33 (by decide) ?_
  cases hF
  exact Ev_ireturn d_G_way_34 rfl hQ
def F_G_way (x1 x2 x3 : Int32) (c : x_S) : Option (Int32 × x_S) := if x1 < 0 then (F_G_way_33 c) else (if (600 : Int32) < x1 then (F_G_way_33 c) else (if x2 < 0 then (F_G_way_33 c) else (if (600 : Int32) < x2 then (F_G_way_33 c) else (if x3 < (1 : Int32) then (F_G_way_33 c) else (if x3 ≤ (40 : Int32) then (x_bind (F_G_brakingWay x1 x2 x3 c) (fun r7 c7 => F_G_way_41 r7 c7)) else (F_G_way_33 c))))))
theorem C_G_way {E : x_E} {o : x_S} {Q : Int32 → x_H → Prop} {x1 x2 x3 : Int32} {c : x_S} {r : Int32} {s : x_S} (hF : F_G_way x1 x2 x3 c = some (r, s)) (hQ : Q r (hpk s o)) : Call E m_G_way 0 0 [.ref 0, .int x1, .int x2, .int x3] (hpk c o) Q := by
  refine Call_of (L := [some (.ref 0), some (.int x1), some (.int x2), some (.int x3)]) (by decide) (by intro v hv; simp only [List.mem_cons, List.not_mem_nil, or_false] at hv; rcases hv with rfl | rfl | rfl | rfl <;> rfl) (Nat.le_of_ble_eq_true rfl) rfl ?_
  unfold F_G_way at hF
  refine Ev_iload_n d_G_way_0 rfl ?_
  refine Ev_if_lt (tgt := 33) d_G_way_1 rfl (fun h1 => ?_) (fun h1 => ?_)
  · rw [if_pos h1] at hF
    exact T_G_way_33 hF hQ
  · rw [if_neg h1] at hF
    refine Ev_iload_n d_G_way_4 rfl ?_
    refine Ev_sipush (v := (600)) d_G_way_5 (by decide) ?_
    refine Ev_icmp_gt (tgt := 33) d_G_way_8 rfl (fun h2 => ?_) (fun h2 => ?_)
    · rw [if_pos h2] at hF
      exact T_G_way_33 hF hQ
    · rw [if_neg h2] at hF
      refine Ev_iload_n d_G_way_11 rfl ?_
      refine Ev_if_lt (tgt := 33) d_G_way_12 rfl (fun h3 => ?_) (fun h3 => ?_)
      · rw [if_pos h3] at hF
        exact T_G_way_33 hF hQ
      · rw [if_neg h3] at hF
        refine Ev_iload_n d_G_way_15 rfl ?_
        refine Ev_sipush (v := (600)) d_G_way_16 (by decide) ?_
        refine Ev_icmp_gt (tgt := 33) d_G_way_19 rfl (fun h4 => ?_) (fun h4 => ?_)
        · rw [if_pos h4] at hF
          exact T_G_way_33 hF hQ
        · rw [if_neg h4] at hF
          refine Ev_iload_n d_G_way_22 rfl ?_
          refine Ev_iconst (v := 1) d_G_way_23 (by decide) ?_
          refine Ev_icmp_lt (tgt := 33) d_G_way_24 rfl (fun h5 => ?_) (fun h5 => ?_)
          · rw [if_pos h5] at hF
            exact T_G_way_33 hF hQ
          · rw [if_neg h5] at hF
            refine Ev_iload_n d_G_way_27 rfl ?_
            refine Ev_bipush (v := (40)) d_G_way_28 (by decide) ?_
            refine Ev_icmp_le (tgt := 35) d_G_way_30 rfl (fun h6 => ?_) (fun h6 => ?_)
            · rw [if_pos h6] at hF
              refine Ev_iload_n d_G_way_35 rfl ?_
              refine Ev_iload_n d_G_way_36 rfl ?_
              refine Ev_iload_n d_G_way_37 rfl ?_
              obtain ⟨r7, c7, hC, hF⟩ := x_bind_some hF
              refine k_G_203 rfl d_G_way_38 ⟨by decide, by decide⟩ (Nat.le_of_ble_eq_true rfl) ?_
              exact C_G_brakingWay hC (T_G_way_41 hF hQ)
            · rw [if_neg h6] at hF
              exact T_G_way_33 hF hQ
def F_G_marks_11 (s0 : Int32) (c : x_S) : Option (Int32 × x_S) := some (s0, c)
theorem T_G_marks_11 {E : x_E} {o : x_S} {Q : Int32 → x_H → Prop} {l0 : Option Value} {l1 : Option Value} {s0 : Int32} {c : x_S} {r : Int32} {s : x_S} (hF : F_G_marks_11 s0 c = some (r, s)) (hQ : Q r (hpk s o)) : Ev E m_G_marks 0 0 11 [l0, l1] [.int s0] (hpk c o) Q := by
  unfold F_G_marks_11 at hF
  cases hF
  exact Ev_ireturn d_G_marks_11 rfl hQ
def F_G_marks (x1 : Int32) (c : x_S) : Option (Int32 × x_S) := x_bind (F_Mrk_shown 17 x1 c) (fun r1 c1 => F_G_marks_11 r1 c1)
theorem C_G_marks {E : x_E} {o : x_S} {Q : Int32 → x_H → Prop} {x1 : Int32} {c : x_S} {r : Int32} {s : x_S} (hF : F_G_marks x1 c = some (r, s)) (hQ : Q r (hpk s o)) : Call E m_G_marks 0 0 [.ref 0, .int x1] (hpk c o) Q := by
  refine Call_of (L := [some (.ref 0), some (.int x1)]) (by decide) (by intro v hv; simp only [List.mem_cons, List.not_mem_nil, or_false] at hv; rcases hv with rfl | rfl <;> rfl) (Nat.le_of_ble_eq_true rfl) rfl ?_
  unfold F_G_marks at hF
  refine Ev_aload_n d_G_marks_0 rfl ?_
  refine g_G_19 rfl d_G_marks_1 ?_
  refine g_G_101 rfl d_G_marks_4 ?_
  refine Ev_iload_n d_G_marks_7 rfl ?_
  obtain ⟨r1, c1, hC, hF⟩ := x_bind_some hF
  refine k_G_206 (by simp [x_mark]) rfl d_G_marks_8 ⟨by decide, by decide⟩ (Nat.le_of_ble_eq_true rfl) ?_
  exact C_Mrk_shown (by simp [x_mark]) hC (T_G_marks_11 hF hQ)
def F_G_note_8 (s0 : Int32) (c : x_S) : Option (Int32 × x_S) := some (s0, c)
theorem T_G_note_8 {E : x_E} {o : x_S} {Q : Int32 → x_H → Prop} {l0 : Option Value} {l1 : Option Value} {s0 : Int32} {c : x_S} {r : Int32} {s : x_S} (hF : F_G_note_8 s0 c = some (r, s)) (hQ : Q r (hpk s o)) : Ev E m_G_note 0 0 8 [l0, l1] [.int s0] (hpk c o) Q := by
  unfold F_G_note_8 at hF
  cases hF
  exact Ev_ireturn d_G_note_8 rfl hQ
def F_G_note (x1 : Int32) (c : x_S) : Option (Int32 × x_S) := x_bind (F_Not_get x1 c) (fun r1 c1 => F_G_note_8 r1 c1)
theorem C_G_note {E : x_E} {o : x_S} {Q : Int32 → x_H → Prop} {x1 : Int32} {c : x_S} {r : Int32} {s : x_S} (hF : F_G_note x1 c = some (r, s)) (hQ : Q r (hpk s o)) : Call E m_G_note 0 0 [.ref 0, .int x1] (hpk c o) Q := by
  refine Call_of (L := [some (.ref 0), some (.int x1)]) (by decide) (by intro v hv; simp only [List.mem_cons, List.not_mem_nil, or_false] at hv; rcases hv with rfl | rfl <;> rfl) (Nat.le_of_ble_eq_true rfl) rfl ?_
  unfold F_G_note at hF
  refine Ev_aload_n d_G_note_0 rfl ?_
  refine g_G_47 rfl d_G_note_1 ?_
  refine Ev_iload_n d_G_note_4 rfl ?_
  obtain ⟨r1, c1, hC, hF⟩ := x_bind_some hF
  refine k_G_209 rfl d_G_note_5 ⟨by decide, by decide⟩ (Nat.le_of_ble_eq_true rfl) ?_
  exact C_Not_get hC (T_G_note_8 hF hQ)
def F_G_within (x0 x1 x2 : Int32) (c : x_S) : Option (Int32 × x_S) := some ((if x1 < (if x2 < x0 then x2 else x0) then (if x2 < x0 then x2 else x0) else x1), c)
theorem C_G_within {E : x_E} {o : x_S} {Q : Int32 → x_H → Prop} {x0 x1 x2 : Int32} {c : x_S} {r : Int32} {s : x_S} (hF : F_G_within x0 x1 x2 c = some (r, s)) (hQ : Q r (hpk s o)) : Call E m_G_within 0 0 [.int x0, .int x1, .int x2] (hpk c o) Q := by
  refine Call_of (L := [some (.int x0), some (.int x1), some (.int x2)]) (by decide) (by intro v hv; simp only [List.mem_cons, List.not_mem_nil, or_false] at hv; rcases hv with rfl | rfl | rfl <;> rfl) (Nat.le_of_ble_eq_true rfl) rfl ?_
  unfold F_G_within at hF
  refine Ev_iload_n d_G_within_0 rfl ?_
  refine Ev_iload_n d_G_within_1 rfl ?_
  refine Ev_iload_n d_G_within_2 rfl ?_
  refine Ev_mmin xw_mG_212 d_G_within_3 (by decide) (by decide) (Nat.le_of_ble_eq_true rfl) ?_
  refine Ev_mmax xw_mG_187 d_G_within_6 (by decide) (by decide) (Nat.le_of_ble_eq_true rfl) ?_
  cases hF
  exact Ev_ireturn d_G_within_9 rfl hQ
