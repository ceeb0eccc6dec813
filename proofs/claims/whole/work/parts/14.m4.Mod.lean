/-! printed by wip/gen/gen4.py: TrainGuardModel -/
def F_Mod_limit_16 (s0 : Int32) (c : x_S) : Option (Int32 × x_S) := some (s0, c)
theorem T_Mod_limit_16 {E : x_E} {o : x_S} {Q : Int32 → x_H → Prop} {l0 : Option Value} {l1 : Option Value} {s0 : Int32} {c : x_S} {r : Int32} {s : x_S} (hF : F_Mod_limit_16 s0 c = some (r, s)) (hQ : Q r (hpk o s)) : Ev E m_Mod_limit 0 0 16 [l0, l1] [.int s0] (hpk o c) Q := by
  unfold F_Mod_limit_16 at hF
  cases hF
  exact Ev_ireturn d_Mod_limit_16 rfl hQ
def F_Mod_limit (x1 : Int32) (c : x_S) : Option (Int32 × x_S) := if 0 ≤ x1 then (x_bind (F_Mod_least x1 x1 c) (fun r2 c2 => F_Mod_limit_16 r2 c2)) else (F_Mod_limit_16 (600 : Int32) c)
theorem C_Mod_limit {E : x_E} {o : x_S} {Q : Int32 → x_H → Prop} {x1 : Int32} {c : x_S} {r : Int32} {s : x_S} (hF : F_Mod_limit x1 c = some (r, s)) (hQ : Q r (hpk o s)) : Call E m_Mod_limit 0 0 [.ref 46, .int x1] (hpk o c) Q := by
  refine Call_of (L := [some (.ref 46), some (.int x1)]) (by decide) (by intro v hv; simp only [List.mem_cons, List.not_mem_nil, or_false] at hv; rcases hv with rfl | rfl <;> rfl) (Nat.le_of_ble_eq_true rfl) rfl ?_
  unfold F_Mod_limit at hF
  refine Ev_iload_n d_Mod_limit_0 rfl ?_
  refine Ev_if_ge (tgt := 10) d_Mod_limit_1 rfl (fun h1 => ?_) (fun h1 => ?_)
  · rw [if_pos h1] at hF
    refine Ev_aload_n d_Mod_limit_10 rfl ?_
    refine Ev_iload_n d_Mod_limit_11 rfl ?_
    refine Ev_iload_n d_Mod_limit_12 rfl ?_
    obtain ⟨r2, c2, hC, hF⟩ := x_bind_some hF
    refine k_Mod_192 rfl d_Mod_limit_13 ⟨by decide, by decide⟩ (Nat.le_of_ble_eq_true rfl) ?_
    exact C_Mod_least hC (T_Mod_limit_16 hF hQ)
  · rw [if_neg h1] at hF
    refine Ev_sipush (v := (600)) d_Mod_limit_4 (by decide) ?_
    refine Ev_goto (tgt := 16) d_Mod_limit_7 rfl ?_
    exact T_Mod_limit_16 hF hQ
def F_Mod_way_43 (s0 : Int32) (c : x_S) : Option (Int32 × x_S) := some (s0, c)
theorem T_Mod_way_43 {E : x_E} {o : x_S} {Q : Int32 → x_H → Prop} {l0 : Option Value} {l1 : Option Value} {l2 : Option Value} {l3 : Option Value} {s0 : Int32} {c : x_S} {r : Int32} {s : x_S} (hF : F_Mod_way_43 s0 c = some (r, s)) (hQ : Q r (hpk o s)) : Ev E m_Mod_way 0 0 43 [l0, l1, l2, l3] [.int s0] (hpk o c) Q := by
  unfold F_Mod_way_43 at hF
  cases hF
  exact Ev_ireturn d_Mod_way_43 rfl hQ
def F_Mod_way_33 (c : x_S) : Option (Int32 × x_S) := F_Mod_way_43 (-1 : Int32) c
theorem T_Mod_way_33 {E : x_E} {o : x_S} {Q : Int32 → x_H → Prop} {l0 : Option Value} {l1 : Option Value} {l2 : Option Value} {l3 : Option Value} {c : x_S} {r : Int32} {s : x_S} (hF : F_Mod_way_33 c = some (r, s)) (hQ : Q r (hpk o s)) : Ev E m_Mod_way 0 0 33 [l0, l1, l2, l3] [] (hpk o c) Q := by
  unfold F_Mod_way_33 at hF
  refine Ev_iconst (v := (-1)) d_Mod_way_33 (by decide) ?_
  refine Ev_goto (tgt := 43) d_Mod_way_34 rfl ?_
  exact T_Mod_way_43 hF hQ
def F_Mod_way (x1 x2 x3 : Int32) (c : x_S) : Option (Int32 × x_S) := if x1 < 0 then (F_Mod_way_33 c) else (if (600 : Int32) < x1 then (F_Mod_way_33 c) else (if x2 < 0 then (F_Mod_way_33 c) else (if (600 : Int32) < x2 then (F_Mod_way_33 c) else (if x3 < (1 : Int32) then (F_Mod_way_33 c) else (if x3 ≤ (40 : Int32) then (x_bind (F_Mod_braking x1 x2 x3 c) (fun r7 c7 => F_Mod_way_43 r7 c7)) else (F_Mod_way_33 c))))))
theorem C_Mod_way {E : x_E} {o : x_S} {Q : Int32 → x_H → Prop} {x1 x2 x3 : Int32} {c : x_S} {r : Int32} {s : x_S} (hF : F_Mod_way x1 x2 x3 c = some (r, s)) (hQ : Q r (hpk o s)) : Call E m_Mod_way 0 0 [.ref 46, .int x1, .int x2, .int x3] (hpk o c) Q := by
  refine Call_of (L := [some (.ref 46), some (.int x1), some (.int x2), some (.int x3)]) (by decide) (by intro v hv; simp only [List.mem_cons, List.not_mem_nil, or_false] at hv; rcases hv with rfl | rfl | rfl | rfl <;> rfl) (Nat.le_of_ble_eq_true rfl) rfl ?_
  unfold F_Mod_way at hF
  refine Ev_iload_n d_Mod_way_0 rfl ?_
  refine Ev_if_lt (tgt := 33) d_Mod_way_1 rfl (fun h1 => ?_) (fun h1 => ?_)
  · rw [if_pos h1] at hF
    exact T_Mod_way_33 hF hQ
  · rw [if_neg h1] at hF
    refine Ev_iload_n d_Mod_way_4 rfl ?_
    refine Ev_sipush (v := (600)) d_Mod_way_5 (by decide) ?_
    refine Ev_icmp_gt (tgt := 33) d_Mod_way_8 rfl (fun h2 => ?_) (fun h2 => ?_)
    · rw [if_pos h2] at hF
      exact T_Mod_way_33 hF hQ
    · rw [if_neg h2] at hF
      refine Ev_iload_n d_Mod_way_11 rfl ?_
      refine Ev_if_lt (tgt := 33) d_Mod_way_12 rfl (fun h3 => ?_) (fun h3 => ?_)
      · rw [if_pos h3] at hF
        exact T_Mod_way_33 hF hQ
      · rw [if_neg h3] at hF
        refine Ev_iload_n d_Mod_way_15 rfl ?_
        refine Ev_sipush (v := (600)) d_Mod_way_16 (by decide) ?_
        refine Ev_icmp_gt (tgt := 33) d_Mod_way_19 rfl (fun h4 => ?_) (fun h4 => ?_)
        · rw [if_pos h4] at hF
          exact T_Mod_way_33 hF hQ
        · rw [if_neg h4] at hF
          refine Ev_iload_n d_Mod_way_22 rfl ?_
          refine Ev_iconst (v := 1) d_Mod_way_23 (by decide) ?_
          refine Ev_icmp_lt (tgt := 33) d_Mod_way_24 rfl (fun h5 => ?_) (fun h5 => ?_)
          · rw [if_pos h5] at hF
            exact T_Mod_way_33 hF hQ
          · rw [if_neg h5] at hF
            refine Ev_iload_n d_Mod_way_27 rfl ?_
            refine Ev_bipush (v := (40)) d_Mod_way_28 (by decide) ?_
            refine Ev_icmp_le (tgt := 37) d_Mod_way_30 rfl (fun h6 => ?_) (fun h6 => ?_)
            · rw [if_pos h6] at hF
              refine Ev_iload_n d_Mod_way_37 rfl ?_
              refine Ev_iload_n d_Mod_way_38 rfl ?_
              refine Ev_iload_n d_Mod_way_39 rfl ?_
              obtain ⟨r7, c7, hC, hF⟩ := x_bind_some hF
              refine k_Mod_198 rfl d_Mod_way_40 ⟨by decide, by decide⟩ (Nat.le_of_ble_eq_true rfl) ?_
              exact C_Mod_braking hC (T_Mod_way_43 hF hQ)
            · rw [if_neg h6] at hF
              exact T_Mod_way_33 hF hQ
def F_Mod_allowed_17 (K : Int32 → x_S → Option (Int32 × x_S)) (x1 s0 : Int32) (c : x_S) : Option (Int32 × x_S) := if s0 = 0 then (some (x1, c)) else (K (x1 + (-1 : Int32)) c)
theorem T_Mod_allowed_17 {E : x_E} {o : x_S} {Q : Int32 → x_H → Prop} {K : Int32 → x_S → Option (Int32 × x_S)} (hK : ∀ {l2 : Option Value} {x1 : Int32} {c : x_S} {r : Int32} {s : x_S}, K x1 c = some (r, s) → Q r (hpk o s) → Ev E m_Mod_allowed 0 0 4 [some (.ref 46), some (.int x1), l2] [] (hpk o c) Q) {l2 : Option Value} {x1 s0 : Int32} {c : x_S} {r : Int32} {s : x_S} (hF : F_Mod_allowed_17 K x1 s0 c = some (r, s)) (hQ : Q r (hpk o s)) : Ev E m_Mod_allowed 0 0 17 [some (.ref 46), some (.int x1), l2] [.int s0] (hpk o c) Q := by
  unfold F_Mod_allowed_17 at hF
  refine Ev_istore_n (L' := [some (.ref 46), some (.int x1), some (.int s0)]) d_Mod_allowed_17 (by decide) rfl ?_
  refine Ev_iload_n d_Mod_allowed_18 rfl ?_
  refine Ev_if_ne (tgt := 24) d_Mod_allowed_19 rfl (fun h1 => ?_) (fun h1 => ?_)
  · rw [if_neg h1] at hF
    refine Ev_iinc (v := (x1 + (-1 : Int32))) (L' := [some (.ref 46), some (.int (x1 + (-1 : Int32))), some (.int s0)]) d_Mod_allowed_24 rfl rfl (by decide) rfl ?_
    refine Ev_goto (tgt := 4) d_Mod_allowed_27 rfl ?_
    exact hK hF hQ
  · rw [if_pos h1] at hF
    refine Ev_iload_n d_Mod_allowed_22 rfl ?_
    cases hF
    exact Ev_ireturn d_Mod_allowed_23 rfl hQ
def F_Mod_allowed_4 : Nat → Int32 → x_S → Option (Int32 × x_S)
  | 0, _, _ => none
  | n + 1, x1, c => if x1 ≤ 0 then (some ((0 : Int32), c)) else (x_bind (F_Mod_grade x1 (c 46 9) c) (fun r2 c2 => F_Mod_allowed_17 (F_Mod_allowed_4 n) x1 r2 c2))
theorem T_Mod_allowed_4 {E : x_E} {o : x_S} {Q : Int32 → x_H → Prop} : ∀ (n : Nat) {l2 : Option Value} {x1 : Int32} {c : x_S} {r : Int32} {s : x_S}, F_Mod_allowed_4 n x1 c = some (r, s) → Q r (hpk o s) → Ev E m_Mod_allowed 0 0 4 [some (.ref 46), some (.int x1), l2] [] (hpk o c) Q := by
  intro n
  induction n with
  | zero => intro l2 x1 c r s hF; rw [F_Mod_allowed_4] at hF; cases hF
  | succ n ih =>
    intro l2 x1 c r s hF hQ
    rw [F_Mod_allowed_4] at hF
    refine Ev_iload_n d_Mod_allowed_4 rfl ?_
    refine Ev_if_le (tgt := 30) d_Mod_allowed_5 rfl (fun h1 => ?_) (fun h1 => ?_)
    · rw [if_pos h1] at hF
      refine Ev_iconst (v := 0) d_Mod_allowed_30 (by decide) ?_
      cases hF
      exact Ev_ireturn d_Mod_allowed_31 rfl hQ
    · rw [if_neg h1] at hF
      refine Ev_aload_n d_Mod_allowed_8 rfl ?_
      refine Ev_iload_n d_Mod_allowed_9 rfl ?_
      refine Ev_aload_n d_Mod_allowed_10 rfl ?_
      refine g_Mod_151 rfl d_Mod_allowed_11 ?_
      obtain ⟨r2, c2, hC, hF⟩ := x_bind_some hF
      refine k_Mod_161 rfl d_Mod_allowed_14 ⟨by decide, by decide⟩ (Nat.le_of_ble_eq_true rfl) ?_
      exact C_Mod_grade hC (T_Mod_allowed_17 (fun h1 h2 => ih h1 h2) hF hQ)
def F_Mod_allowed (c : x_S) : Option (Int32 × x_S) := F_Mod_allowed_4 x_fuel (600 : Int32) c
theorem C_Mod_allowed {E : x_E} {o : x_S} {Q : Int32 → x_H → Prop} {c : x_S} {r : Int32} {s : x_S} (hF : F_Mod_allowed c = some (r, s)) (hQ : Q r (hpk o s)) : Call E m_Mod_allowed 0 0 [.ref 46] (hpk o c) Q := by
  refine Call_of (L := [some (.ref 46), none, none]) (by decide) (by intro v hv; simp only [List.mem_cons, List.not_mem_nil, or_false] at hv; rw [hv]; rfl) (Nat.le_of_ble_eq_true rfl) rfl ?_
  unfold F_Mod_allowed at hF
  refine Ev_sipush (v := (600)) d_Mod_allowed_0 (by decide) ?_
  refine Ev_istore_n (L' := [some (.ref 46), some (.int (600 : Int32)), none]) d_Mod_allowed_3 (by decide) rfl ?_
  exact T_Mod_allowed_4 x_fuel hF hQ
def F_Mod_mark_253 (c : x_S) : Option (Int32 × x_S) := some ((1 : Int32), c)
theorem T_Mod_mark_253 {E : x_E} {o : x_S} {Q : Int32 → x_H → Prop} {l0 : Option Value} {l1 : Option Value} {l2 : Option Value} {l3 : Option Value} {l4 : Option Value} {l5 : Option Value} {c : x_S} {r : Int32} {s : x_S} (hF : F_Mod_mark_253 c = some (r, s)) (hQ : Q r (hpk o s)) : Ev E m_Mod_mark 0 0 253 [l0, l1, l2, l3, l4, l5] [] (hpk o c) Q := by
  unfold F_Mod_mark_253 at hF
  refine Ev_iconst (v := 1) d_Mod_mark_253 (by decide) ?_
  cases hF
  exact Ev_zreturn d_Mod_mark_254 rfl (Or.inr rfl) hQ
def F_Mod_mark_250 (s1 : Int32) (c : x_S) : Option (Int32 × x_S) := F_Mod_mark_253 (x_up c 46 4 s1)
theorem T_Mod_mark_250 {E : x_E} {o : x_S} {Q : Int32 → x_H → Prop} {l0 : Option Value} {l1 : Option Value} {l2 : Option Value} {l3 : Option Value} {l4 : Option Value} {l5 : Option Value} {s1 : Int32} {c : x_S} {r : Int32} {s : x_S} (hF : F_Mod_mark_250 s1 c = some (r, s)) (hQ : Q r (hpk o s)) : Ev E m_Mod_mark 0 0 250 [l0, l1, l2, l3, l4, l5] [.int s1, .ref 46] (hpk o c) Q := by
  unfold F_Mod_mark_250 at hF
  refine q_Mod_195 rfl d_Mod_mark_250 ?_
  exact T_Mod_mark_253 hF hQ
def F_Mod_mark_231 (x5 : Int32) (c : x_S) : Option (Int32 × x_S) := if (c 46 4) ≤ x5 then (F_Mod_mark_250 (c 46 4) c) else (F_Mod_mark_250 x5 c)
theorem T_Mod_mark_231 {E : x_E} {o : x_S} {Q : Int32 → x_H → Prop} {l1 : Option Value} {l2 : Option Value} {l3 : Option Value} {l4 : Option Value} {x5 : Int32} {c : x_S} {r : Int32} {s : x_S} (hF : F_Mod_mark_231 x5 c = some (r, s)) (hQ : Q r (hpk o s)) : Ev E m_Mod_mark 0 0 231 [some (.ref 46), l1, l2, l3, l4, some (.int x5)] [] (hpk o c) Q := by
  unfold F_Mod_mark_231 at hF
  refine Ev_aload_n d_Mod_mark_231 rfl ?_
  refine Ev_aload_n d_Mod_mark_232 rfl ?_
  refine g_Mod_195 rfl d_Mod_mark_233 ?_
  refine Ev_iload d_Mod_mark_236 rfl ?_
  refine Ev_icmp_le (tgt := 246) d_Mod_mark_238 rfl (fun h1 => ?_) (fun h1 => ?_)
  · rw [if_pos h1] at hF
    refine Ev_aload_n d_Mod_mark_246 rfl ?_
    refine g_Mod_195 rfl d_Mod_mark_247 ?_
    exact T_Mod_mark_250 hF hQ
  · rw [if_neg h1] at hF
    refine Ev_iload d_Mod_mark_241 rfl ?_
    refine Ev_goto (tgt := 250) d_Mod_mark_243 rfl ?_
    exact T_Mod_mark_250 hF hQ
def F_Mod_mark_228 (x5 s1 : Int32) (c : x_S) : Option (Int32 × x_S) := F_Mod_mark_231 x5 (x_up c 46 3 s1)
theorem T_Mod_mark_228 {E : x_E} {o : x_S} {Q : Int32 → x_H → Prop} {l1 : Option Value} {l2 : Option Value} {l3 : Option Value} {l4 : Option Value} {x5 s1 : Int32} {c : x_S} {r : Int32} {s : x_S} (hF : F_Mod_mark_228 x5 s1 c = some (r, s)) (hQ : Q r (hpk o s)) : Ev E m_Mod_mark 0 0 228 [some (.ref 46), l1, l2, l3, l4, some (.int x5)] [.int s1, .ref 46] (hpk o c) Q := by
  unfold F_Mod_mark_228 at hF
  refine q_Mod_189 rfl d_Mod_mark_228 ?_
  exact T_Mod_mark_231 hF hQ
def F_Mod_mark_177 (c : x_S) : Option (Int32 × x_S) := some ((1 : Int32), c)
theorem T_Mod_mark_177 {E : x_E} {o : x_S} {Q : Int32 → x_H → Prop} {l0 : Option Value} {l1 : Option Value} {l2 : Option Value} {l3 : Option Value} {l4 : Option Value} {l5 : Option Value} {c : x_S} {r : Int32} {s : x_S} (hF : F_Mod_mark_177 c = some (r, s)) (hQ : Q r (hpk o s)) : Ev E m_Mod_mark 0 0 177 [l0, l1, l2, l3, l4, l5] [] (hpk o c) Q := by
  unfold F_Mod_mark_177 at hF
  refine Ev_iconst (v := 1) d_Mod_mark_177 (by decide) ?_
  cases hF
  exact Ev_zreturn d_Mod_mark_178 rfl (Or.inr rfl) hQ
def F_Mod_mark_170 (s0 : Int32) (c : x_S) : Option (Int32 × x_S) := if s0 = 0 then (F_Mod_mark_177 c) else (x_bind (F_Mod_trips c) (fun _ c2 => F_Mod_mark_177 c2))
theorem T_Mod_mark_170 {E : x_E} {o : x_S} {Q : Int32 → x_H → Prop} {l1 : Option Value} {l2 : Option Value} {l3 : Option Value} {l4 : Option Value} {l5 : Option Value} {s0 : Int32} {c : x_S} {r : Int32} {s : x_S} (hF : F_Mod_mark_170 s0 c = some (r, s)) (hQ : Q r (hpk o s)) : Ev E m_Mod_mark 0 0 170 [some (.ref 46), l1, l2, l3, l4, l5] [.int s0] (hpk o c) Q := by
  unfold F_Mod_mark_170 at hF
  refine Ev_if_eq (tgt := 177) d_Mod_mark_170 rfl (fun h1 => ?_) (fun h1 => ?_)
  · rw [if_pos h1] at hF
    exact T_Mod_mark_177 hF hQ
  · rw [if_neg h1] at hF
    refine Ev_aload_n d_Mod_mark_173 rfl ?_
    obtain ⟨r2, c2, hC, hF⟩ := x_bind_some hF
    refine k_Mod_174 rfl d_Mod_mark_174 ⟨by decide, by decide⟩ (Nat.le_of_ble_eq_true rfl) ?_
    exact C_Mod_trips hC (T_Mod_mark_177 hF hQ)
def F_Mod_mark_166 (c : x_S) : Option (Int32 × x_S) := x_bind (F_Mod_watched c) (fun r1 c1 => F_Mod_mark_170 r1 c1)
theorem T_Mod_mark_166 {E : x_E} {o : x_S} {Q : Int32 → x_H → Prop} {l1 : Option Value} {l2 : Option Value} {l3 : Option Value} {l4 : Option Value} {l5 : Option Value} {c : x_S} {r : Int32} {s : x_S} (hF : F_Mod_mark_166 c = some (r, s)) (hQ : Q r (hpk o s)) : Ev E m_Mod_mark 0 0 166 [some (.ref 46), l1, l2, l3, l4, l5] [] (hpk o c) Q := by
  unfold F_Mod_mark_166 at hF
  refine Ev_aload_n d_Mod_mark_166 rfl ?_
  obtain ⟨r1, c1, hC, hF⟩ := x_bind_some hF
  refine k_Mod_154 rfl d_Mod_mark_167 ⟨by decide, by decide⟩ (Nat.le_of_ble_eq_true rfl) ?_
  exact C_Mod_watched hC (T_Mod_mark_170 hF hQ)
def F_Mod_mark_155 (x2 x3 : Int32) (c : x_S) : Option (Int32 × x_S) := if x3 = 0 then (x_ix x2 7 (fun j2 => x_ix x2 7 (fun j3 => x_ix x2 7 (fun j4 => x_ix x2 7 (fun j5 => if ((c 51 j2) - (c 53 j3)) ≤ (c 46 3) then (F_Mod_mark_228 ((c 51 j4) + (c 53 j5)) (c 46 3) c) else (F_Mod_mark_228 ((c 51 j4) + (c 53 j5)) ((c 51 j2) - (c 53 j3)) c)))))) else (x_bind (F_Mod_write (6 : Int32) (0 : Int32) c) (fun _ c7 => F_Mod_mark_166 c7))
theorem T_Mod_mark_155 {E : x_E} {o : x_S} {Q : Int32 → x_H → Prop} {l1 : Option Value} {l4 : Option Value} {l5 : Option Value} {x2 x3 : Int32} {c : x_S} {r : Int32} {s : x_S} (hF : F_Mod_mark_155 x2 x3 c = some (r, s)) (hQ : Q r (hpk o s)) : Ev E m_Mod_mark 0 0 155 [some (.ref 46), l1, some (.int x2), some (.int x3), l4, l5] [] (hpk o c) Q := by
  unfold F_Mod_mark_155 at hF
  refine Ev_iload_n d_Mod_mark_155 rfl ?_
  refine Ev_if_eq (tgt := 179) d_Mod_mark_156 rfl (fun h1 => ?_) (fun h1 => ?_)
  · rw [if_pos h1] at hF
    refine Ev_aload_n d_Mod_mark_179 rfl ?_
    refine g_Mod_22 rfl d_Mod_mark_180 ?_
    refine Ev_iload_n d_Mod_mark_183 rfl ?_
    obtain ⟨j2, hij2, hjj2, hF⟩ := x_ix_some hF
    refine Em_iald d_Mod_mark_184 (P := 51) (by decide) rfl hij2 hjj2 ?_
    refine Ev_aload_n d_Mod_mark_185 rfl ?_
    refine g_Mod_28 rfl d_Mod_mark_186 ?_
    refine Ev_iload_n d_Mod_mark_189 rfl ?_
    obtain ⟨j3, hij3, hjj3, hF⟩ := x_ix_some hF
    refine Em_iald d_Mod_mark_190 (P := 53) (by decide) rfl hij3 hjj3 ?_
    refine Ev_isub d_Mod_mark_191 ?_
    refine Ev_istore (L' := [some (.ref 46), l1, some (.int x2), some (.int x3), some (.int ((c 51 j2) - (c 53 j3))), l5]) d_Mod_mark_192 (by decide) rfl ?_
    refine Ev_aload_n d_Mod_mark_194 rfl ?_
    refine g_Mod_22 rfl d_Mod_mark_195 ?_
    refine Ev_iload_n d_Mod_mark_198 rfl ?_
    obtain ⟨j4, hij4, hjj4, hF⟩ := x_ix_some hF
    refine Em_iald d_Mod_mark_199 (P := 51) (by decide) rfl hij4 hjj4 ?_
    refine Ev_aload_n d_Mod_mark_200 rfl ?_
    refine g_Mod_28 rfl d_Mod_mark_201 ?_
    refine Ev_iload_n d_Mod_mark_204 rfl ?_
    obtain ⟨j5, hij5, hjj5, hF⟩ := x_ix_some hF
    refine Em_iald d_Mod_mark_205 (P := 53) (by decide) rfl hij5 hjj5 ?_
    refine Ev_iadd d_Mod_mark_206 ?_
    refine Ev_istore (L' := [some (.ref 46), l1, some (.int x2), some (.int x3), some (.int ((c 51 j2) - (c 53 j3))), some (.int ((c 51 j4) + (c 53 j5)))]) d_Mod_mark_207 (by decide) rfl ?_
    refine Ev_aload_n d_Mod_mark_209 rfl ?_
    refine Ev_aload_n d_Mod_mark_210 rfl ?_
    refine g_Mod_189 rfl d_Mod_mark_211 ?_
    refine Ev_iload d_Mod_mark_214 rfl ?_
    refine Ev_icmp_ge (tgt := 224) d_Mod_mark_216 rfl (fun h6 => ?_) (fun h6 => ?_)
    · rw [if_pos h6] at hF
      refine Ev_aload_n d_Mod_mark_224 rfl ?_
      refine g_Mod_189 rfl d_Mod_mark_225 ?_
      exact T_Mod_mark_228 hF hQ
    · rw [if_neg h6] at hF
      refine Ev_iload d_Mod_mark_219 rfl ?_
      refine Ev_goto (tgt := 228) d_Mod_mark_221 rfl ?_
      exact T_Mod_mark_228 hF hQ
  · rw [if_neg h1] at hF
    refine Ev_aload_n d_Mod_mark_159 rfl ?_
    refine Ev_bipush (v := (6)) d_Mod_mark_160 (by decide) ?_
    refine Ev_iconst (v := 0) d_Mod_mark_162 (by decide) ?_
    obtain ⟨r7, c7, hC, hF⟩ := x_bind_some hF
    refine k_Mod_84 rfl d_Mod_mark_163 ⟨by decide, by decide⟩ (Nat.le_of_ble_eq_true rfl) ?_
    exact C_Mod_write hC (T_Mod_mark_166 hF hQ)
def F_Mod_mark_146 (x1 x2 x3 : Int32) (c : x_S) : Option (Int32 × x_S) := x_bind (F_Mod_write (5 : Int32) (x1 - x1 / (100 : Int32) * (100 : Int32)) c) (fun _ c1 => F_Mod_mark_155 x2 x3 c1)
theorem T_Mod_mark_146 {E : x_E} {o : x_S} {Q : Int32 → x_H → Prop} {l4 : Option Value} {l5 : Option Value} {x1 x2 x3 : Int32} {c : x_S} {r : Int32} {s : x_S} (hF : F_Mod_mark_146 x1 x2 x3 c = some (r, s)) (hQ : Q r (hpk o s)) : Ev E m_Mod_mark 0 0 146 [some (.ref 46), some (.int x1), some (.int x2), some (.int x3), l4, l5] [] (hpk o c) Q := by
  unfold F_Mod_mark_146 at hF
  refine Ev_aload_n d_Mod_mark_146 rfl ?_
  refine Ev_iconst (v := 5) d_Mod_mark_147 (by decide) ?_
  refine Ev_iload_n d_Mod_mark_148 rfl ?_
  refine Ev_bipush (v := (100)) d_Mod_mark_149 (by decide) ?_
  refine Ev_irem d_Mod_mark_151 (by decide) ?_
  obtain ⟨r1, c1, hC, hF⟩ := x_bind_some hF
  refine k_Mod_84 rfl d_Mod_mark_152 ⟨by decide, by decide⟩ (Nat.le_of_ble_eq_true rfl) ?_
  exact C_Mod_write hC (T_Mod_mark_155 hF hQ)
def F_Mod_mark_133 (K : Int32 → Int32 → Int32 → Int32 → x_S → Option (Int32 × x_S)) (x1 x2 x3 x4 : Int32) (c : x_S) : Option (Int32 × x_S) := K x1 x2 x3 (x4 + (1 : Int32)) c
theorem T_Mod_mark_133 {E : x_E} {o : x_S} {Q : Int32 → x_H → Prop} {K : Int32 → Int32 → Int32 → Int32 → x_S → Option (Int32 × x_S)} (hK : ∀ {l5 : Option Value} {x1 x2 x3 x4 : Int32} {c : x_S} {r : Int32} {s : x_S}, K x1 x2 x3 x4 c = some (r, s) → Q r (hpk o s) → Ev E m_Mod_mark 0 0 99 [some (.ref 46), some (.int x1), some (.int x2), some (.int x3), some (.int x4), l5] [] (hpk o c) Q) {l5 : Option Value} {x1 x2 x3 x4 : Int32} {c : x_S} {r : Int32} {s : x_S} (hF : F_Mod_mark_133 K x1 x2 x3 x4 c = some (r, s)) (hQ : Q r (hpk o s)) : Ev E m_Mod_mark 0 0 133 [some (.ref 46), some (.int x1), some (.int x2), some (.int x3), some (.int x4), l5] [] (hpk o c) Q := by
  unfold F_Mod_mark_133 at hF
  refine Ev_iinc (v := (x4 + (1 : Int32))) (L' := [some (.ref 46), some (.int x1), some (.int x2), some (.int x3), some (.int (x4 + (1 : Int32))), l5]) d_Mod_mark_133 rfl rfl (by decide) rfl ?_
  refine Ev_goto (tgt := 99) d_Mod_mark_136 rfl ?_
  exact hK hF hQ
def F_Mod_mark_124 (K : Int32 → Int32 → Int32 → Int32 → x_S → Option (Int32 × x_S)) (x1 x2 x4 s0 : Int32) (c : x_S) : Option (Int32 × x_S) := x_ix x4 7 (fun j1 => F_Mod_mark_133 K x1 x2 s0 x4 (x_up c 54 j1 (1 : Int32)))
theorem T_Mod_mark_124 {E : x_E} {o : x_S} {Q : Int32 → x_H → Prop} {K : Int32 → Int32 → Int32 → Int32 → x_S → Option (Int32 × x_S)} (hK : ∀ {l5 : Option Value} {x1 x2 x3 x4 : Int32} {c : x_S} {r : Int32} {s : x_S}, K x1 x2 x3 x4 c = some (r, s) → Q r (hpk o s) → Ev E m_Mod_mark 0 0 99 [some (.ref 46), some (.int x1), some (.int x2), some (.int x3), some (.int x4), l5] [] (hpk o c) Q) {l3 : Option Value} {l5 : Option Value} {x1 x2 x4 s0 : Int32} {c : x_S} {r : Int32} {s : x_S} (hF : F_Mod_mark_124 K x1 x2 x4 s0 c = some (r, s)) (hQ : Q r (hpk o s)) : Ev E m_Mod_mark 0 0 124 [some (.ref 46), some (.int x1), some (.int x2), l3, some (.int x4), l5] [.int s0] (hpk o c) Q := by
  unfold F_Mod_mark_124 at hF
  refine Ev_istore_n (L' := [some (.ref 46), some (.int x1), some (.int x2), some (.int s0), some (.int x4), l5]) d_Mod_mark_124 (by decide) rfl ?_
  refine Ev_aload_n d_Mod_mark_125 rfl ?_
  refine g_Mod_31 rfl d_Mod_mark_126 ?_
  refine Ev_iload d_Mod_mark_129 rfl ?_
  refine Ev_iconst (v := 1) d_Mod_mark_131 (by decide) ?_
  obtain ⟨j1, hij1, hjj1, hF⟩ := x_ix_some hF
  refine Em_zast d_Mod_mark_132 (P := 54) (by decide) rfl hij1 hjj1 (Or.inr rfl) ?_
  exact T_Mod_mark_133 (fun h1 h2 => hK h1 h2) hF hQ
def F_Mod_mark_119 (K : Int32 → Int32 → Int32 → Int32 → x_S → Option (Int32 × x_S)) (x1 x2 x4 : Int32) (c : x_S) : Option (Int32 × x_S) := F_Mod_mark_124 K x1 x2 x4 (1 : Int32) c
theorem T_Mod_mark_119 {E : x_E} {o : x_S} {Q : Int32 → x_H → Prop} {K : Int32 → Int32 → Int32 → Int32 → x_S → Option (Int32 × x_S)} (hK : ∀ {l5 : Option Value} {x1 x2 x3 x4 : Int32} {c : x_S} {r : Int32} {s : x_S}, K x1 x2 x3 x4 c = some (r, s) → Q r (hpk o s) → Ev E m_Mod_mark 0 0 99 [some (.ref 46), some (.int x1), some (.int x2), some (.int x3), some (.int x4), l5] [] (hpk o c) Q) {l3 : Option Value} {l5 : Option Value} {x1 x2 x4 : Int32} {c : x_S} {r : Int32} {s : x_S} (hF : F_Mod_mark_119 K x1 x2 x4 c = some (r, s)) (hQ : Q r (hpk o s)) : Ev E m_Mod_mark 0 0 119 [some (.ref 46), some (.int x1), some (.int x2), l3, some (.int x4), l5] [] (hpk o c) Q := by
  unfold F_Mod_mark_119 at hF
  refine Ev_iconst (v := 1) d_Mod_mark_119 (by decide) ?_
  refine Ev_goto (tgt := 124) d_Mod_mark_120 rfl ?_
  exact T_Mod_mark_124 (fun h1 h2 => hK h1 h2) hF hQ
def F_Mod_mark_99 : Nat → Int32 → Int32 → Int32 → Int32 → x_S → Option (Int32 × x_S)
  | 0, _, _, _, _, _ => none
  | n + 1, x1, x2, x3, x4, c => if x2 ≤ x4 then (x_ix x2 7 (fun j2 => F_Mod_mark_146 x1 x2 x3 (x_up c 54 j2 (1 : Int32)))) else (if x3 = 0 then (x_ix x4 7 (fun j4 => if (c 54 j4) = 0 then (F_Mod_mark_119 (F_Mod_mark_99 n) x1 x2 x4 c) else (F_Mod_mark_124 (F_Mod_mark_99 n) x1 x2 x4 (0 : Int32) c))) else (F_Mod_mark_119 (F_Mod_mark_99 n) x1 x2 x4 c))
theorem T_Mod_mark_99 {E : x_E} {o : x_S} {Q : Int32 → x_H → Prop} : ∀ (n : Nat) {l5 : Option Value} {x1 x2 x3 x4 : Int32} {c : x_S} {r : Int32} {s : x_S}, F_Mod_mark_99 n x1 x2 x3 x4 c = some (r, s) → Q r (hpk o s) → Ev E m_Mod_mark 0 0 99 [some (.ref 46), some (.int x1), some (.int x2), some (.int x3), some (.int x4), l5] [] (hpk o c) Q := by
  intro n
  induction n with
  | zero => intro l5 x1 x2 x3 x4 c r s hF; rw [F_Mod_mark_99] at hF; cases hF
  | succ n ih =>
    intro l5 x1 x2 x3 x4 c r s hF hQ
    rw [F_Mod_mark_99] at hF
    refine Ev_iload d_Mod_mark_99 rfl ?_
    refine Ev_iload_n d_Mod_mark_101 rfl ?_
    refine Ev_icmp_ge (tgt := 139) d_Mod_mark_102 rfl (fun h1 => ?_) (fun h1 => ?_)
    · rw [if_pos h1] at hF
      refine Ev_aload_n d_Mod_mark_139 rfl ?_
      refine g_Mod_31 rfl d_Mod_mark_140 ?_
      refine Ev_iload_n d_Mod_mark_143 rfl ?_
      refine Ev_iconst (v := 1) d_Mod_mark_144 (by decide) ?_
      obtain ⟨j2, hij2, hjj2, hF⟩ := x_ix_some hF
      refine Em_zast d_Mod_mark_145 (P := 54) (by decide) rfl hij2 hjj2 (Or.inr rfl) ?_
      exact T_Mod_mark_146 hF hQ
    · rw [if_neg h1] at hF
      refine Ev_iload_n d_Mod_mark_105 rfl ?_
      refine Ev_if_ne (tgt := 119) d_Mod_mark_106 rfl (fun h3 => ?_) (fun h3 => ?_)
      · rw [if_neg h3] at hF
        exact T_Mod_mark_119 (fun h1 h2 => ih h1 h2) hF hQ
      · rw [if_pos h3] at hF
        refine Ev_aload_n d_Mod_mark_109 rfl ?_
        refine g_Mod_31 rfl d_Mod_mark_110 ?_
        refine Ev_iload d_Mod_mark_113 rfl ?_
        obtain ⟨j4, hij4, hjj4, hF⟩ := x_ix_some hF
        refine Em_zald d_Mod_mark_115 (P := 54) (by decide) rfl hij4 hjj4 ?_
        refine Ev_if_ne (tgt := 123) d_Mod_mark_116 rfl (fun h5 => ?_) (fun h5 => ?_)
        · rw [if_neg h5] at hF
          refine Ev_iconst (v := 0) d_Mod_mark_123 (by decide) ?_
          exact T_Mod_mark_124 (fun h1 h2 => ih h1 h2) hF hQ
        · rw [if_pos h5] at hF
          exact T_Mod_mark_119 (fun h1 h2 => ih h1 h2) hF hQ
def F_Mod_mark_95 (x1 x2 s0 : Int32) (c : x_S) : Option (Int32 × x_S) := F_Mod_mark_99 x_fuel x1 x2 s0 (0 : Int32) c
theorem T_Mod_mark_95 {E : x_E} {o : x_S} {Q : Int32 → x_H → Prop} {l3 : Option Value} {l4 : Option Value} {l5 : Option Value} {x1 x2 s0 : Int32} {c : x_S} {r : Int32} {s : x_S} (hF : F_Mod_mark_95 x1 x2 s0 c = some (r, s)) (hQ : Q r (hpk o s)) : Ev E m_Mod_mark 0 0 95 [some (.ref 46), some (.int x1), some (.int x2), l3, l4, l5] [.int s0] (hpk o c) Q := by
  unfold F_Mod_mark_95 at hF
  refine Ev_istore_n (L' := [some (.ref 46), some (.int x1), some (.int x2), some (.int s0), l4, l5]) d_Mod_mark_95 (by decide) rfl ?_
  refine Ev_iconst (v := 0) d_Mod_mark_96 (by decide) ?_
  refine Ev_istore (L' := [some (.ref 46), some (.int x1), some (.int x2), some (.int s0), some (.int (0 : Int32)), l5]) d_Mod_mark_97 (by decide) rfl ?_
  exact T_Mod_mark_99 x_fuel hF hQ
def F_Mod_mark_90 (x1 x2 : Int32) (c : x_S) : Option (Int32 × x_S) := F_Mod_mark_95 x1 x2 (1 : Int32) c
theorem T_Mod_mark_90 {E : x_E} {o : x_S} {Q : Int32 → x_H → Prop} {l3 : Option Value} {l4 : Option Value} {l5 : Option Value} {x1 x2 : Int32} {c : x_S} {r : Int32} {s : x_S} (hF : F_Mod_mark_90 x1 x2 c = some (r, s)) (hQ : Q r (hpk o s)) : Ev E m_Mod_mark 0 0 90 [some (.ref 46), some (.int x1), some (.int x2), l3, l4, l5] [] (hpk o c) Q := by
  unfold F_Mod_mark_90 at hF
  refine Ev_iconst (v := 1) d_Mod_mark_90 (by decide) ?_
  refine Ev_goto (tgt := 95) d_Mod_mark_91 rfl ?_
  exact T_Mod_mark_95 hF hQ
def F_Mod_mark_37 (K : Int32 → Int32 → Int32 → x_S → Option (Int32 × x_S)) (x1 x3 s0 : Int32) (c : x_S) : Option (Int32 × x_S) := K x1 s0 (x3 + (-1 : Int32)) c
theorem T_Mod_mark_37 {E : x_E} {o : x_S} {Q : Int32 → x_H → Prop} {K : Int32 → Int32 → Int32 → x_S → Option (Int32 × x_S)} (hK : ∀ {l4 : Option Value} {l5 : Option Value} {x1 x2 x3 : Int32} {c : x_S} {r : Int32} {s : x_S}, K x1 x2 x3 c = some (r, s) → Q r (hpk o s) → Ev E m_Mod_mark 0 0 9 [some (.ref 46), some (.int x1), some (.int x2), some (.int x3), l4, l5] [] (hpk o c) Q) {l2 : Option Value} {l4 : Option Value} {l5 : Option Value} {x1 x3 s0 : Int32} {c : x_S} {r : Int32} {s : x_S} (hF : F_Mod_mark_37 K x1 x3 s0 c = some (r, s)) (hQ : Q r (hpk o s)) : Ev E m_Mod_mark 0 0 37 [some (.ref 46), some (.int x1), l2, some (.int x3), l4, l5] [.int s0] (hpk o c) Q := by
  unfold F_Mod_mark_37 at hF
  refine Ev_istore_n (L' := [some (.ref 46), some (.int x1), some (.int s0), some (.int x3), l4, l5]) d_Mod_mark_37 (by decide) rfl ?_
  refine Ev_iinc (v := (x3 + (-1 : Int32))) (L' := [some (.ref 46), some (.int x1), some (.int s0), some (.int (x3 + (-1 : Int32))), l4, l5]) d_Mod_mark_38 rfl rfl (by decide) rfl ?_
  refine Ev_goto (tgt := 9) d_Mod_mark_41 rfl ?_
  exact hK hF hQ
def F_Mod_mark_36 (K : Int32 → Int32 → Int32 → x_S → Option (Int32 × x_S)) (x1 x2 x3 : Int32) (c : x_S) : Option (Int32 × x_S) := F_Mod_mark_37 K x1 x3 x2 c
theorem T_Mod_mark_36 {E : x_E} {o : x_S} {Q : Int32 → x_H → Prop} {K : Int32 → Int32 → Int32 → x_S → Option (Int32 × x_S)} (hK : ∀ {l4 : Option Value} {l5 : Option Value} {x1 x2 x3 : Int32} {c : x_S} {r : Int32} {s : x_S}, K x1 x2 x3 c = some (r, s) → Q r (hpk o s) → Ev E m_Mod_mark 0 0 9 [some (.ref 46), some (.int x1), some (.int x2), some (.int x3), l4, l5] [] (hpk o c) Q) {l4 : Option Value} {l5 : Option Value} {x1 x2 x3 : Int32} {c : x_S} {r : Int32} {s : x_S} (hF : F_Mod_mark_36 K x1 x2 x3 c = some (r, s)) (hQ : Q r (hpk o s)) : Ev E m_Mod_mark 0 0 36 [some (.ref 46), some (.int x1), some (.int x2), some (.int x3), l4, l5] [] (hpk o c) Q := by
  unfold F_Mod_mark_36 at hF
  refine Ev_iload_n d_Mod_mark_36 rfl ?_
  exact T_Mod_mark_37 (fun h1 h2 => hK h1 h2) hF hQ
def F_Mod_mark_9 : Nat → Int32 → Int32 → Int32 → x_S → Option (Int32 × x_S)
  | 0, _, _, _, _ => none
  | n + 1, x1, x2, x3, c => if x3 < 0 then (if 0 ≤ x2 then (x_ix x2 7 (fun j3 => x_ix x2 7 (fun j4 => if (c 46 4) < ((c 51 j3) - (c 53 j4)) then (F_Mod_mark_90 x1 x2 c) else (x_ix x2 7 (fun j6 => x_ix x2 7 (fun j7 => if (c 46 3) ≤ ((c 51 j6) + (c 53 j7)) then (F_Mod_mark_95 x1 x2 (0 : Int32) c) else (F_Mod_mark_90 x1 x2 c))))))) else (some ((0 : Int32), c))) else (x_ix x3 7 (fun j9 => if (c 54 j9) = 0 then (x_ix x3 7 (fun j11 => if (c 52 j11) = x1 then (F_Mod_mark_37 (F_Mod_mark_9 n) x1 x3 x3 c) else (F_Mod_mark_36 (F_Mod_mark_9 n) x1 x2 x3 c))) else (F_Mod_mark_36 (F_Mod_mark_9 n) x1 x2 x3 c)))
theorem T_Mod_mark_9 {E : x_E} {o : x_S} {Q : Int32 → x_H → Prop} : ∀ (n : Nat) {l4 : Option Value} {l5 : Option Value} {x1 x2 x3 : Int32} {c : x_S} {r : Int32} {s : x_S}, F_Mod_mark_9 n x1 x2 x3 c = some (r, s) → Q r (hpk o s) → Ev E m_Mod_mark 0 0 9 [some (.ref 46), some (.int x1), some (.int x2), some (.int x3), l4, l5] [] (hpk o c) Q := by
  intro n
  induction n with
  | zero => intro l4 l5 x1 x2 x3 c r s hF; rw [F_Mod_mark_9] at hF; cases hF
  | succ n ih =>
    intro l4 l5 x1 x2 x3 c r s hF hQ
    rw [F_Mod_mark_9] at hF
    refine Ev_iload_n d_Mod_mark_9 rfl ?_
    refine Ev_if_lt (tgt := 44) d_Mod_mark_10 rfl (fun h1 => ?_) (fun h1 => ?_)
    · rw [if_pos h1] at hF
      refine Ev_iload_n d_Mod_mark_44 rfl ?_
      refine Ev_if_ge (tgt := 50) d_Mod_mark_45 rfl (fun h2 => ?_) (fun h2 => ?_)
      · rw [if_pos h2] at hF
        refine Ev_aload_n d_Mod_mark_50 rfl ?_
        refine g_Mod_195 rfl d_Mod_mark_51 ?_
        refine Ev_aload_n d_Mod_mark_54 rfl ?_
        refine g_Mod_22 rfl d_Mod_mark_55 ?_
        refine Ev_iload_n d_Mod_mark_58 rfl ?_
        obtain ⟨j3, hij3, hjj3, hF⟩ := x_ix_some hF
        refine Em_iald d_Mod_mark_59 (P := 51) (by decide) rfl hij3 hjj3 ?_
        refine Ev_aload_n d_Mod_mark_60 rfl ?_
        refine g_Mod_28 rfl d_Mod_mark_61 ?_
        refine Ev_iload_n d_Mod_mark_64 rfl ?_
        obtain ⟨j4, hij4, hjj4, hF⟩ := x_ix_some hF
        refine Em_iald d_Mod_mark_65 (P := 53) (by decide) rfl hij4 hjj4 ?_
        refine Ev_isub d_Mod_mark_66 ?_
        refine Ev_icmp_lt (tgt := 90) d_Mod_mark_67 rfl (fun h5 => ?_) (fun h5 => ?_)
        · rw [if_pos h5] at hF
          exact T_Mod_mark_90 hF hQ
        · rw [if_neg h5] at hF
          refine Ev_aload_n d_Mod_mark_70 rfl ?_
          refine g_Mod_189 rfl d_Mod_mark_71 ?_
          refine Ev_aload_n d_Mod_mark_74 rfl ?_
          refine g_Mod_22 rfl d_Mod_mark_75 ?_
          refine Ev_iload_n d_Mod_mark_78 rfl ?_
          obtain ⟨j6, hij6, hjj6, hF⟩ := x_ix_some hF
          refine Em_iald d_Mod_mark_79 (P := 51) (by decide) rfl hij6 hjj6 ?_
          refine Ev_aload_n d_Mod_mark_80 rfl ?_
          refine g_Mod_28 rfl d_Mod_mark_81 ?_
          refine Ev_iload_n d_Mod_mark_84 rfl ?_
          obtain ⟨j7, hij7, hjj7, hF⟩ := x_ix_some hF
          refine Em_iald d_Mod_mark_85 (P := 53) (by decide) rfl hij7 hjj7 ?_
          refine Ev_iadd d_Mod_mark_86 ?_
          refine Ev_icmp_le (tgt := 94) d_Mod_mark_87 rfl (fun h8 => ?_) (fun h8 => ?_)
          · rw [if_pos h8] at hF
            refine Ev_iconst (v := 0) d_Mod_mark_94 (by decide) ?_
            exact T_Mod_mark_95 hF hQ
          · rw [if_neg h8] at hF
            exact T_Mod_mark_90 hF hQ
      · rw [if_neg h2] at hF
        refine Ev_iconst (v := 0) d_Mod_mark_48 (by decide) ?_
        cases hF
        exact Ev_zreturn d_Mod_mark_49 rfl (Or.inl rfl) hQ
    · rw [if_neg h1] at hF
      refine Ev_aload_n d_Mod_mark_13 rfl ?_
      refine g_Mod_31 rfl d_Mod_mark_14 ?_
      refine Ev_iload_n d_Mod_mark_17 rfl ?_
      obtain ⟨j9, hij9, hjj9, hF⟩ := x_ix_some hF
      refine Em_zald d_Mod_mark_18 (P := 54) (by decide) rfl hij9 hjj9 ?_
      refine Ev_if_ne (tgt := 36) d_Mod_mark_19 rfl (fun h10 => ?_) (fun h10 => ?_)
      · rw [if_neg h10] at hF
        exact T_Mod_mark_36 (fun h1 h2 => ih h1 h2) hF hQ
      · rw [if_pos h10] at hF
        refine Ev_aload_n d_Mod_mark_22 rfl ?_
        refine g_Mod_25 rfl d_Mod_mark_23 ?_
        refine Ev_iload_n d_Mod_mark_26 rfl ?_
        obtain ⟨j11, hij11, hjj11, hF⟩ := x_ix_some hF
        refine Em_iald d_Mod_mark_27 (P := 52) (by decide) rfl hij11 hjj11 ?_
        refine Ev_iload_n d_Mod_mark_28 rfl ?_
        refine Ev_icmp_ne (tgt := 36) d_Mod_mark_29 rfl (fun h12 => ?_) (fun h12 => ?_)
        · rw [if_neg h12] at hF
          exact T_Mod_mark_36 (fun h1 h2 => ih h1 h2) hF hQ
        · rw [if_pos h12] at hF
          refine Ev_iload_n d_Mod_mark_32 rfl ?_
          refine Ev_goto (tgt := 37) d_Mod_mark_33 rfl ?_
          exact T_Mod_mark_37 (fun h1 h2 => ih h1 h2) hF hQ
def F_Mod_mark (x1 : Int32) (c : x_S) : Option (Int32 × x_S) := F_Mod_mark_9 x_fuel x1 (-1 : Int32) ((c 46 19) - (1 : Int32)) c
theorem C_Mod_mark {E : x_E} {o : x_S} {Q : Int32 → x_H → Prop} {x1 : Int32} {c : x_S} {r : Int32} {s : x_S} (hF : F_Mod_mark x1 c = some (r, s)) (hQ : Q r (hpk o s)) : Call E m_Mod_mark 0 0 [.ref 46, .int x1] (hpk o c) Q := by
  refine Call_of (L := [some (.ref 46), some (.int x1), none, none, none, none]) (by decide) (by intro v hv; simp only [List.mem_cons, List.not_mem_nil, or_false] at hv; rcases hv with rfl | rfl <;> rfl) (Nat.le_of_ble_eq_true rfl) rfl ?_
  unfold F_Mod_mark at hF
  refine Ev_iconst (v := (-1)) d_Mod_mark_0 (by decide) ?_
  refine Ev_istore_n (L' := [some (.ref 46), some (.int x1), some (.int (-1 : Int32)), none, none, none]) d_Mod_mark_1 (by decide) rfl ?_
  refine Ev_aload_n d_Mod_mark_2 rfl ?_
  refine g_Mod_98 rfl d_Mod_mark_3 ?_
  refine Ev_iconst (v := 1) d_Mod_mark_6 (by decide) ?_
  refine Ev_isub d_Mod_mark_7 ?_
  refine Ev_istore_n (L' := [some (.ref 46), some (.int x1), some (.int (-1 : Int32)), some (.int ((c 46 19) - (1 : Int32))), none, none]) d_Mod_mark_8 (by decide) rfl ?_
  exact T_Mod_mark_9 x_fuel hF hQ
def F_Mod_moves_171 (c : x_S) : Option (Int32 × x_S) := some (0, c)
theorem T_Mod_moves_171 {E : x_E} {o : x_S} {Q : Int32 → x_H → Prop} {l0 : Option Value} {l1 : Option Value} {l2 : Option Value} {l3 : Option Value} {l4 : Option Value} {c : x_S} {r : Int32} {s : x_S} (hF : F_Mod_moves_171 c = some (r, s)) (hQ : Q r (hpk o s)) : Ev E m_Mod_moves 0 0 171 [l0, l1, l2, l3, l4] [] (hpk o c) Q := by
  unfold F_Mod_moves_171 at hF
  cases hF
  exact Ev_return d_Mod_moves_171 rfl hQ
def F_Mod_moves_145 (c : x_S) : Option (Int32 × x_S) := F_Mod_moves_171 c
theorem T_Mod_moves_145 {E : x_E} {o : x_S} {Q : Int32 → x_H → Prop} {l0 : Option Value} {l1 : Option Value} {l2 : Option Value} {l3 : Option Value} {l4 : Option Value} {c : x_S} {r : Int32} {s : x_S} (hF : F_Mod_moves_145 c = some (r, s)) (hQ : Q r (hpk o s)) : Ev E m_Mod_moves 0 0 145 [l0, l1, l2, l3, l4] [] (hpk o c) Q := by
  unfold F_Mod_moves_145 at hF
  refine Ev_goto (tgt := 171) d_Mod_moves_145 rfl ?_
  exact T_Mod_moves_171 hF hQ
def F_Mod_moves_141 (c : x_S) : Option (Int32 × x_S) := x_bind (F_Mod_trips c) (fun _ c1 => F_Mod_moves_145 c1)
theorem T_Mod_moves_141 {E : x_E} {o : x_S} {Q : Int32 → x_H → Prop} {l1 : Option Value} {l2 : Option Value} {l3 : Option Value} {l4 : Option Value} {c : x_S} {r : Int32} {s : x_S} (hF : F_Mod_moves_141 c = some (r, s)) (hQ : Q r (hpk o s)) : Ev E m_Mod_moves 0 0 141 [some (.ref 46), l1, l2, l3, l4] [] (hpk o c) Q := by
  unfold F_Mod_moves_141 at hF
  refine Ev_aload_n d_Mod_moves_141 rfl ?_
  obtain ⟨r1, c1, hC, hF⟩ := x_bind_some hF
  refine k_Mod_174 rfl d_Mod_moves_142 ⟨by decide, by decide⟩ (Nat.le_of_ble_eq_true rfl) ?_
  exact C_Mod_trips hC (T_Mod_moves_145 hF hQ)
def F_Mod_moves_126 (x3 : Int32) (c : x_S) : Option (Int32 × x_S) := if x3 = 0 then (if (c 46 3) ≤ (c 46 9) then (F_Mod_moves_145 c) else (F_Mod_moves_141 c)) else (F_Mod_moves_141 c)
theorem T_Mod_moves_126 {E : x_E} {o : x_S} {Q : Int32 → x_H → Prop} {l1 : Option Value} {l2 : Option Value} {l4 : Option Value} {x3 : Int32} {c : x_S} {r : Int32} {s : x_S} (hF : F_Mod_moves_126 x3 c = some (r, s)) (hQ : Q r (hpk o s)) : Ev E m_Mod_moves 0 0 126 [some (.ref 46), l1, l2, some (.int x3), l4] [] (hpk o c) Q := by
  unfold F_Mod_moves_126 at hF
  refine Ev_iload_n d_Mod_moves_126 rfl ?_
  refine Ev_if_ne (tgt := 141) d_Mod_moves_127 rfl (fun h1 => ?_) (fun h1 => ?_)
  · rw [if_neg h1] at hF
    exact T_Mod_moves_141 hF hQ
  · rw [if_pos h1] at hF
    refine Ev_aload_n d_Mod_moves_130 rfl ?_
    refine g_Mod_189 rfl d_Mod_moves_131 ?_
    refine Ev_aload_n d_Mod_moves_134 rfl ?_
    refine g_Mod_151 rfl d_Mod_moves_135 ?_
    refine Ev_icmp_le (tgt := 145) d_Mod_moves_138 rfl (fun h2 => ?_) (fun h2 => ?_)
    · rw [if_pos h2] at hF
      exact T_Mod_moves_145 hF hQ
    · rw [if_neg h2] at hF
      exact T_Mod_moves_141 hF hQ
def F_Mod_moves_108 (K : Int32 → Int32 → x_S → Option (Int32 × x_S)) (x4 s0 : Int32) (c : x_S) : Option (Int32 × x_S) := K s0 (x4 + (1 : Int32)) c
theorem T_Mod_moves_108 {E : x_E} {o : x_S} {Q : Int32 → x_H → Prop} {K : Int32 → Int32 → x_S → Option (Int32 × x_S)} (hK : ∀ {l1 : Option Value} {l2 : Option Value} {x3 x4 : Int32} {c : x_S} {r : Int32} {s : x_S}, K x3 x4 c = some (r, s) → Q r (hpk o s) → Ev E m_Mod_moves 0 0 58 [some (.ref 46), l1, l2, some (.int x3), some (.int x4)] [] (hpk o c) Q) {l1 : Option Value} {l2 : Option Value} {l3 : Option Value} {x4 s0 : Int32} {c : x_S} {r : Int32} {s : x_S} (hF : F_Mod_moves_108 K x4 s0 c = some (r, s)) (hQ : Q r (hpk o s)) : Ev E m_Mod_moves 0 0 108 [some (.ref 46), l1, l2, l3, some (.int x4)] [.int s0] (hpk o c) Q := by
  unfold F_Mod_moves_108 at hF
  refine Ev_istore_n (L' := [some (.ref 46), l1, l2, some (.int s0), some (.int x4)]) d_Mod_moves_108 (by decide) rfl ?_
  refine Ev_iinc (v := (x4 + (1 : Int32))) (L' := [some (.ref 46), l1, l2, some (.int s0), some (.int (x4 + (1 : Int32)))]) d_Mod_moves_109 rfl rfl (by decide) rfl ?_
  refine Ev_goto (tgt := 58) d_Mod_moves_112 rfl ?_
  exact hK hF hQ
def F_Mod_moves_107 (K : Int32 → Int32 → x_S → Option (Int32 × x_S)) (x4 : Int32) (c : x_S) : Option (Int32 × x_S) := F_Mod_moves_108 K x4 (0 : Int32) c
theorem T_Mod_moves_107 {E : x_E} {o : x_S} {Q : Int32 → x_H → Prop} {K : Int32 → Int32 → x_S → Option (Int32 × x_S)} (hK : ∀ {l1 : Option Value} {l2 : Option Value} {x3 x4 : Int32} {c : x_S} {r : Int32} {s : x_S}, K x3 x4 c = some (r, s) → Q r (hpk o s) → Ev E m_Mod_moves 0 0 58 [some (.ref 46), l1, l2, some (.int x3), some (.int x4)] [] (hpk o c) Q) {l1 : Option Value} {l2 : Option Value} {l3 : Option Value} {x4 : Int32} {c : x_S} {r : Int32} {s : x_S} (hF : F_Mod_moves_107 K x4 c = some (r, s)) (hQ : Q r (hpk o s)) : Ev E m_Mod_moves 0 0 107 [some (.ref 46), l1, l2, l3, some (.int x4)] [] (hpk o c) Q := by
  unfold F_Mod_moves_107 at hF
  refine Ev_iconst (v := 0) d_Mod_moves_107 (by decide) ?_
  exact T_Mod_moves_108 (fun h1 h2 => hK h1 h2) hF hQ
def F_Mod_moves_103 (K : Int32 → Int32 → x_S → Option (Int32 × x_S)) (x4 : Int32) (c : x_S) : Option (Int32 × x_S) := F_Mod_moves_108 K x4 (1 : Int32) c
theorem T_Mod_moves_103 {E : x_E} {o : x_S} {Q : Int32 → x_H → Prop} {K : Int32 → Int32 → x_S → Option (Int32 × x_S)} (hK : ∀ {l1 : Option Value} {l2 : Option Value} {x3 x4 : Int32} {c : x_S} {r : Int32} {s : x_S}, K x3 x4 c = some (r, s) → Q r (hpk o s) → Ev E m_Mod_moves 0 0 58 [some (.ref 46), l1, l2, some (.int x3), some (.int x4)] [] (hpk o c) Q) {l1 : Option Value} {l2 : Option Value} {l3 : Option Value} {x4 : Int32} {c : x_S} {r : Int32} {s : x_S} (hF : F_Mod_moves_103 K x4 c = some (r, s)) (hQ : Q r (hpk o s)) : Ev E m_Mod_moves 0 0 103 [some (.ref 46), l1, l2, l3, some (.int x4)] [] (hpk o c) Q := by
  unfold F_Mod_moves_103 at hF
  refine Ev_iconst (v := 1) d_Mod_moves_103 (by decide) ?_
  refine Ev_goto (tgt := 108) d_Mod_moves_104 rfl ?_
  exact T_Mod_moves_108 (fun h1 h2 => hK h1 h2) hF hQ
def F_Mod_moves_58 : Nat → Int32 → Int32 → x_S → Option (Int32 × x_S)
  | 0, _, _, _ => none
  | n + 1, x3, x4, c => if (c 46 19) ≤ x4 then (if x3 = 0 then (F_Mod_moves_126 x3 c) else (x_bind (F_Mod_write (6 : Int32) (0 : Int32) c) (fun _ c3 => F_Mod_moves_126 x3 c3))) else (if x3 = 0 then (x_ix x4 7 (fun j5 => if (c 54 j5) = 0 then (x_ix x4 7 (fun j7 => x_ix x4 7 (fun j8 => if (c 46 3) ≤ ((c 51 j7) + (c 53 j8)) then (F_Mod_moves_107 (F_Mod_moves_58 n) x4 c) else (F_Mod_moves_103 (F_Mod_moves_58 n) x4 c)))) else (F_Mod_moves_107 (F_Mod_moves_58 n) x4 c))) else (F_Mod_moves_103 (F_Mod_moves_58 n) x4 c))
theorem T_Mod_moves_58 {E : x_E} {o : x_S} {Q : Int32 → x_H → Prop} : ∀ (n : Nat) {l1 : Option Value} {l2 : Option Value} {x3 x4 : Int32} {c : x_S} {r : Int32} {s : x_S}, F_Mod_moves_58 n x3 x4 c = some (r, s) → Q r (hpk o s) → Ev E m_Mod_moves 0 0 58 [some (.ref 46), l1, l2, some (.int x3), some (.int x4)] [] (hpk o c) Q := by
  intro n
  induction n with
  | zero => intro l1 l2 x3 x4 c r s hF; rw [F_Mod_moves_58] at hF; cases hF
  | succ n ih =>
    intro l1 l2 x3 x4 c r s hF hQ
    rw [F_Mod_moves_58] at hF
    refine Ev_iload d_Mod_moves_58 rfl ?_
    refine Ev_aload_n d_Mod_moves_60 rfl ?_
    refine g_Mod_98 rfl d_Mod_moves_61 ?_
    refine Ev_icmp_ge (tgt := 115) d_Mod_moves_64 rfl (fun h1 => ?_) (fun h1 => ?_)
    · rw [if_pos h1] at hF
      refine Ev_iload_n d_Mod_moves_115 rfl ?_
      refine Ev_if_eq (tgt := 126) d_Mod_moves_116 rfl (fun h2 => ?_) (fun h2 => ?_)
      · rw [if_pos h2] at hF
        exact T_Mod_moves_126 hF hQ
      · rw [if_neg h2] at hF
        refine Ev_aload_n d_Mod_moves_119 rfl ?_
        refine Ev_bipush (v := (6)) d_Mod_moves_120 (by decide) ?_
        refine Ev_iconst (v := 0) d_Mod_moves_122 (by decide) ?_
        obtain ⟨r3, c3, hC, hF⟩ := x_bind_some hF
        refine k_Mod_84 rfl d_Mod_moves_123 ⟨by decide, by decide⟩ (Nat.le_of_ble_eq_true rfl) ?_
        exact C_Mod_write hC (T_Mod_moves_126 hF hQ)
    · rw [if_neg h1] at hF
      refine Ev_iload_n d_Mod_moves_67 rfl ?_
      refine Ev_if_ne (tgt := 103) d_Mod_moves_68 rfl (fun h4 => ?_) (fun h4 => ?_)
      · rw [if_neg h4] at hF
        exact T_Mod_moves_103 (fun h1 h2 => ih h1 h2) hF hQ
      · rw [if_pos h4] at hF
        refine Ev_aload_n d_Mod_moves_71 rfl ?_
        refine g_Mod_31 rfl d_Mod_moves_72 ?_
        refine Ev_iload d_Mod_moves_75 rfl ?_
        obtain ⟨j5, hij5, hjj5, hF⟩ := x_ix_some hF
        refine Em_zald d_Mod_moves_77 (P := 54) (by decide) rfl hij5 hjj5 ?_
        refine Ev_if_ne (tgt := 107) d_Mod_moves_78 rfl (fun h6 => ?_) (fun h6 => ?_)
        · rw [if_neg h6] at hF
          exact T_Mod_moves_107 (fun h1 h2 => ih h1 h2) hF hQ
        · rw [if_pos h6] at hF
          refine Ev_aload_n d_Mod_moves_81 rfl ?_
          refine g_Mod_22 rfl d_Mod_moves_82 ?_
          refine Ev_iload d_Mod_moves_85 rfl ?_
          obtain ⟨j7, hij7, hjj7, hF⟩ := x_ix_some hF
          refine Em_iald d_Mod_moves_87 (P := 51) (by decide) rfl hij7 hjj7 ?_
          refine Ev_aload_n d_Mod_moves_88 rfl ?_
          refine g_Mod_28 rfl d_Mod_moves_89 ?_
          refine Ev_iload d_Mod_moves_92 rfl ?_
          obtain ⟨j8, hij8, hjj8, hF⟩ := x_ix_some hF
          refine Em_iald d_Mod_moves_94 (P := 53) (by decide) rfl hij8 hjj8 ?_
          refine Ev_iadd d_Mod_moves_95 ?_
          refine Ev_aload_n d_Mod_moves_96 rfl ?_
          refine g_Mod_189 rfl d_Mod_moves_97 ?_
          refine Ev_icmp_ge (tgt := 107) d_Mod_moves_100 rfl (fun h9 => ?_) (fun h9 => ?_)
          · rw [if_pos h9] at hF
            exact T_Mod_moves_107 (fun h1 h2 => ih h1 h2) hF hQ
          · rw [if_neg h9] at hF
            exact T_Mod_moves_103 (fun h1 h2 => ih h1 h2) hF hQ
def F_Mod_moves_50 (s0 : Int32) (c : x_S) : Option (Int32 × x_S) := if s0 = 0 then (if (c 46 6) = (1 : Int32) then (if (c 46 3) ≤ (c 46 12) then (F_Mod_moves_171 c) else (x_bind (F_Mod_trips c) (fun _ c4 => F_Mod_moves_171 c4))) else (F_Mod_moves_171 c)) else (F_Mod_moves_58 x_fuel (0 : Int32) (0 : Int32) c)
theorem T_Mod_moves_50 {E : x_E} {o : x_S} {Q : Int32 → x_H → Prop} {l1 : Option Value} {l2 : Option Value} {l3 : Option Value} {l4 : Option Value} {s0 : Int32} {c : x_S} {r : Int32} {s : x_S} (hF : F_Mod_moves_50 s0 c = some (r, s)) (hQ : Q r (hpk o s)) : Ev E m_Mod_moves 0 0 50 [some (.ref 46), l1, l2, l3, l4] [.int s0] (hpk o c) Q := by
  unfold F_Mod_moves_50 at hF
  refine Ev_if_eq (tgt := 148) d_Mod_moves_50 rfl (fun h1 => ?_) (fun h1 => ?_)
  · rw [if_pos h1] at hF
    refine Ev_aload_n d_Mod_moves_148 rfl ?_
    refine g_Mod_81 rfl d_Mod_moves_149 ?_
    refine Ev_iconst (v := 1) d_Mod_moves_152 (by decide) ?_
    refine Ev_icmp_ne (tgt := 171) d_Mod_moves_153 rfl (fun h2 => ?_) (fun h2 => ?_)
    · rw [if_neg h2] at hF
      exact T_Mod_moves_171 hF hQ
    · rw [if_pos h2] at hF
      refine Ev_aload_n d_Mod_moves_156 rfl ?_
      refine g_Mod_189 rfl d_Mod_moves_157 ?_
      refine Ev_aload_n d_Mod_moves_160 rfl ?_
      refine g_Mod_216 rfl d_Mod_moves_161 ?_
      refine Ev_icmp_le (tgt := 171) d_Mod_moves_164 rfl (fun h3 => ?_) (fun h3 => ?_)
      · rw [if_pos h3] at hF
        exact T_Mod_moves_171 hF hQ
      · rw [if_neg h3] at hF
        refine Ev_aload_n d_Mod_moves_167 rfl ?_
        obtain ⟨r4, c4, hC, hF⟩ := x_bind_some hF
        refine k_Mod_174 rfl d_Mod_moves_168 ⟨by decide, by decide⟩ (Nat.le_of_ble_eq_true rfl) ?_
        exact C_Mod_trips hC (T_Mod_moves_171 hF hQ)
  · rw [if_neg h1] at hF
    refine Ev_iconst (v := 0) d_Mod_moves_53 (by decide) ?_
    refine Ev_istore_n (L' := [some (.ref 46), l1, l2, some (.int (0 : Int32)), l4]) d_Mod_moves_54 (by decide) rfl ?_
    refine Ev_iconst (v := 0) d_Mod_moves_55 (by decide) ?_
    refine Ev_istore (L' := [some (.ref 46), l1, l2, some (.int (0 : Int32)), some (.int (0 : Int32))]) d_Mod_moves_56 (by decide) rfl ?_
    exact T_Mod_moves_58 x_fuel hF hQ
def F_Mod_moves_46 (c : x_S) : Option (Int32 × x_S) := x_bind (F_Mod_watched c) (fun r1 c1 => F_Mod_moves_50 r1 c1)
theorem T_Mod_moves_46 {E : x_E} {o : x_S} {Q : Int32 → x_H → Prop} {l1 : Option Value} {l2 : Option Value} {l3 : Option Value} {l4 : Option Value} {c : x_S} {r : Int32} {s : x_S} (hF : F_Mod_moves_46 c = some (r, s)) (hQ : Q r (hpk o s)) : Ev E m_Mod_moves 0 0 46 [some (.ref 46), l1, l2, l3, l4] [] (hpk o c) Q := by
  unfold F_Mod_moves_46 at hF
  refine Ev_aload_n d_Mod_moves_46 rfl ?_
  obtain ⟨r1, c1, hC, hF⟩ := x_bind_some hF
  refine k_Mod_154 rfl d_Mod_moves_47 ⟨by decide, by decide⟩ (Nat.le_of_ble_eq_true rfl) ?_
  exact C_Mod_watched hC (T_Mod_moves_50 hF hQ)
def F_Mod_moves_39 (x1 x2 : Int32) (c : x_S) : Option (Int32 × x_S) := F_Mod_moves_46 (x_up c 46 5 (x1 + x2))
theorem T_Mod_moves_39 {E : x_E} {o : x_S} {Q : Int32 → x_H → Prop} {l3 : Option Value} {l4 : Option Value} {x1 x2 : Int32} {c : x_S} {r : Int32} {s : x_S} (hF : F_Mod_moves_39 x1 x2 c = some (r, s)) (hQ : Q r (hpk o s)) : Ev E m_Mod_moves 0 0 39 [some (.ref 46), some (.int x1), some (.int x2), l3, l4] [] (hpk o c) Q := by
  unfold F_Mod_moves_39 at hF
  refine Ev_aload_n d_Mod_moves_39 rfl ?_
  refine Ev_iload_n d_Mod_moves_40 rfl ?_
  refine Ev_iload_n d_Mod_moves_41 rfl ?_
  refine Ev_iadd d_Mod_moves_42 ?_
  refine q_Mod_158 rfl d_Mod_moves_43 ?_
  exact T_Mod_moves_46 hF hQ
def F_Mod_moves_27 (x1 x2 : Int32) (c : x_S) : Option (Int32 × x_S) := F_Mod_moves_39 x1 x2 (x_up c 46 3 ((c 46 3) + (x1 - x2)))
theorem T_Mod_moves_27 {E : x_E} {o : x_S} {Q : Int32 → x_H → Prop} {l3 : Option Value} {l4 : Option Value} {x1 x2 : Int32} {c : x_S} {r : Int32} {s : x_S} (hF : F_Mod_moves_27 x1 x2 c = some (r, s)) (hQ : Q r (hpk o s)) : Ev E m_Mod_moves 0 0 27 [some (.ref 46), some (.int x1), some (.int x2), l3, l4] [] (hpk o c) Q := by
  unfold F_Mod_moves_27 at hF
  refine Ev_aload_n d_Mod_moves_27 rfl ?_
  refine Ev_dup d_Mod_moves_28 rfl ?_
  refine g_Mod_189 rfl d_Mod_moves_29 ?_
  refine Ev_iload_n d_Mod_moves_32 rfl ?_
  refine Ev_iload_n d_Mod_moves_33 rfl ?_
  refine Ev_isub d_Mod_moves_34 ?_
  refine Ev_iadd d_Mod_moves_35 ?_
  refine q_Mod_189 rfl d_Mod_moves_36 ?_
  exact T_Mod_moves_39 hF hQ
def F_Mod_moves_14 (x1 s0 : Int32) (c : x_S) : Option (Int32 × x_S) := F_Mod_moves_27 x1 s0 (x_up c 46 4 ((c 46 4) + (x1 + s0)))
theorem T_Mod_moves_14 {E : x_E} {o : x_S} {Q : Int32 → x_H → Prop} {l2 : Option Value} {l3 : Option Value} {l4 : Option Value} {x1 s0 : Int32} {c : x_S} {r : Int32} {s : x_S} (hF : F_Mod_moves_14 x1 s0 c = some (r, s)) (hQ : Q r (hpk o s)) : Ev E m_Mod_moves 0 0 14 [some (.ref 46), some (.int x1), l2, l3, l4] [.int s0] (hpk o c) Q := by
  unfold F_Mod_moves_14 at hF
  refine Ev_istore_n (L' := [some (.ref 46), some (.int x1), some (.int s0), l3, l4]) d_Mod_moves_14 (by decide) rfl ?_
  refine Ev_aload_n d_Mod_moves_15 rfl ?_
  refine Ev_dup d_Mod_moves_16 rfl ?_
  refine g_Mod_195 rfl d_Mod_moves_17 ?_
  refine Ev_iload_n d_Mod_moves_20 rfl ?_
  refine Ev_iload_n d_Mod_moves_21 rfl ?_
  refine Ev_iadd d_Mod_moves_22 ?_
  refine Ev_iadd d_Mod_moves_23 ?_
  refine q_Mod_195 rfl d_Mod_moves_24 ?_
  exact T_Mod_moves_27 hF hQ
def F_Mod_moves (x1 : Int32) (c : x_S) : Option (Int32 × x_S) := if x1 = 0 then (F_Mod_moves_14 x1 (0 : Int32) c) else (F_Mod_moves_14 x1 ((1 : Int32) + (x1 / (16 : Int32))) c)
theorem C_Mod_moves {E : x_E} {o : x_S} {Q : Int32 → x_H → Prop} {x1 : Int32} {c : x_S} {r : Int32} {s : x_S} (hF : F_Mod_moves x1 c = some (r, s)) (hQ : Q r (hpk o s)) : Call E m_Mod_moves 0 0 [.ref 46, .int x1] (hpk o c) Q := by
  refine Call_of (L := [some (.ref 46), some (.int x1), none, none, none]) (by decide) (by intro v hv; simp only [List.mem_cons, List.not_mem_nil, or_false] at hv; rcases hv with rfl | rfl <;> rfl) (Nat.le_of_ble_eq_true rfl) rfl ?_
  unfold F_Mod_moves at hF
  refine Ev_iload_n d_Mod_moves_0 rfl ?_
  refine Ev_if_ne (tgt := 8) d_Mod_moves_1 rfl (fun h1 => ?_) (fun h1 => ?_)
  · rw [if_neg h1] at hF
    refine Ev_iconst (v := 1) d_Mod_moves_8 (by decide) ?_
    refine Ev_iload_n d_Mod_moves_9 rfl ?_
    refine Ev_bipush (v := (16)) d_Mod_moves_10 (by decide) ?_
    refine Ev_idiv d_Mod_moves_12 (by decide) ?_
    refine Ev_iadd d_Mod_moves_13 ?_
    exact T_Mod_moves_14 hF hQ
  · rw [if_pos h1] at hF
    refine Ev_iconst (v := 0) d_Mod_moves_4 (by decide) ?_
    refine Ev_goto (tgt := 14) d_Mod_moves_5 rfl ?_
    exact T_Mod_moves_14 hF hQ
def F_Mod_cycle_190 (c : x_S) : Option (Int32 × x_S) := some ((c 46 33), c)
theorem T_Mod_cycle_190 {E : x_E} {o : x_S} {Q : Int32 → x_H → Prop} {l1 : Option Value} {l2 : Option Value} {l3 : Option Value} {c : x_S} {r : Int32} {s : x_S} (hF : F_Mod_cycle_190 c = some (r, s)) (hQ : Q r (hpk o s)) : Ev E m_Mod_cycle 0 0 190 [some (.ref 46), l1, l2, l3] [] (hpk o c) Q := by
  unfold F_Mod_cycle_190 at hF
  refine Ev_aload_n d_Mod_cycle_190 rfl ?_
  refine g_Mod_228 rfl d_Mod_cycle_191 ?_
  cases hF
  exact Ev_ireturn d_Mod_cycle_194 rfl hQ
def F_Mod_cycle_184 (x3 : Int32) (c : x_S) : Option (Int32 × x_S) := x_bind (F_Mod_write (2 : Int32) x3 c) (fun _ c1 => F_Mod_cycle_190 c1)
theorem T_Mod_cycle_184 {E : x_E} {o : x_S} {Q : Int32 → x_H → Prop} {l1 : Option Value} {l2 : Option Value} {x3 : Int32} {c : x_S} {r : Int32} {s : x_S} (hF : F_Mod_cycle_184 x3 c = some (r, s)) (hQ : Q r (hpk o s)) : Ev E m_Mod_cycle 0 0 184 [some (.ref 46), l1, l2, some (.int x3)] [] (hpk o c) Q := by
  unfold F_Mod_cycle_184 at hF
  refine Ev_aload_n d_Mod_cycle_184 rfl ?_
  refine Ev_iconst (v := 2) d_Mod_cycle_185 (by decide) ?_
  refine Ev_iload_n d_Mod_cycle_186 rfl ?_
  obtain ⟨r1, c1, hC, hF⟩ := x_bind_some hF
  refine k_Mod_84 rfl d_Mod_cycle_187 ⟨by decide, by decide⟩ (Nat.le_of_ble_eq_true rfl) ?_
  exact C_Mod_write hC (T_Mod_cycle_190 hF hQ)
def F_Mod_cycle_170 (s0 : Int32) (c : x_S) : Option (Int32 × x_S) := if s0 = (c 46 33) then (F_Mod_cycle_190 c) else (F_Mod_cycle_184 s0 (x_up c 46 33 s0))
theorem T_Mod_cycle_170 {E : x_E} {o : x_S} {Q : Int32 → x_H → Prop} {l1 : Option Value} {l2 : Option Value} {l3 : Option Value} {s0 : Int32} {c : x_S} {r : Int32} {s : x_S} (hF : F_Mod_cycle_170 s0 c = some (r, s)) (hQ : Q r (hpk o s)) : Ev E m_Mod_cycle 0 0 170 [some (.ref 46), l1, l2, l3] [.int s0] (hpk o c) Q := by
  unfold F_Mod_cycle_170 at hF
  refine Ev_istore_n (L' := [some (.ref 46), l1, l2, some (.int s0)]) d_Mod_cycle_170 (by decide) rfl ?_
  refine Ev_iload_n d_Mod_cycle_171 rfl ?_
  refine Ev_aload_n d_Mod_cycle_172 rfl ?_
  refine g_Mod_228 rfl d_Mod_cycle_173 ?_
  refine Ev_icmp_eq (tgt := 190) d_Mod_cycle_176 rfl (fun h1 => ?_) (fun h1 => ?_)
  · rw [if_pos h1] at hF
    exact T_Mod_cycle_190 hF hQ
  · rw [if_neg h1] at hF
    refine Ev_aload_n d_Mod_cycle_179 rfl ?_
    refine Ev_iload_n d_Mod_cycle_180 rfl ?_
    refine q_Mod_228 rfl d_Mod_cycle_181 ?_
    exact T_Mod_cycle_184 hF hQ
def F_Mod_cycle_169 (c : x_S) : Option (Int32 × x_S) := F_Mod_cycle_170 (0 : Int32) c
theorem T_Mod_cycle_169 {E : x_E} {o : x_S} {Q : Int32 → x_H → Prop} {l1 : Option Value} {l2 : Option Value} {l3 : Option Value} {c : x_S} {r : Int32} {s : x_S} (hF : F_Mod_cycle_169 c = some (r, s)) (hQ : Q r (hpk o s)) : Ev E m_Mod_cycle 0 0 169 [some (.ref 46), l1, l2, l3] [] (hpk o c) Q := by
  unfold F_Mod_cycle_169 at hF
  refine Ev_iconst (v := 0) d_Mod_cycle_169 (by decide) ?_
  exact T_Mod_cycle_170 hF hQ
def F_Mod_cycle_165 (c : x_S) : Option (Int32 × x_S) := F_Mod_cycle_170 (1 : Int32) c
theorem T_Mod_cycle_165 {E : x_E} {o : x_S} {Q : Int32 → x_H → Prop} {l1 : Option Value} {l2 : Option Value} {l3 : Option Value} {c : x_S} {r : Int32} {s : x_S} (hF : F_Mod_cycle_165 c = some (r, s)) (hQ : Q r (hpk o s)) : Ev E m_Mod_cycle 0 0 165 [some (.ref 46), l1, l2, l3] [] (hpk o c) Q := by
  unfold F_Mod_cycle_165 at hF
  refine Ev_iconst (v := 1) d_Mod_cycle_165 (by decide) ?_
  refine Ev_goto (tgt := 170) d_Mod_cycle_166 rfl ?_
  exact T_Mod_cycle_170 hF hQ
def F_Mod_cycle_132 (c : x_S) : Option (Int32 × x_S) := if (c 46 31) = 0 then (if (c 46 32) = 0 then (if (c 46 29) = 0 then (F_Mod_cycle_169 c) else (if (c 46 30) < (3 : Int32) then (F_Mod_cycle_169 c) else (F_Mod_cycle_165 c))) else (F_Mod_cycle_165 c)) else (F_Mod_cycle_170 (2 : Int32) c)
theorem T_Mod_cycle_132 {E : x_E} {o : x_S} {Q : Int32 → x_H → Prop} {l1 : Option Value} {l2 : Option Value} {l3 : Option Value} {c : x_S} {r : Int32} {s : x_S} (hF : F_Mod_cycle_132 c = some (r, s)) (hQ : Q r (hpk o s)) : Ev E m_Mod_cycle 0 0 132 [some (.ref 46), l1, l2, l3] [] (hpk o c) Q := by
  unfold F_Mod_cycle_132 at hF
  refine Ev_aload_n d_Mod_cycle_132 rfl ?_
  refine g_Mod_222 rfl d_Mod_cycle_133 ?_
  refine Ev_if_eq (tgt := 143) d_Mod_cycle_136 rfl (fun h1 => ?_) (fun h1 => ?_)
  · rw [if_pos h1] at hF
    refine Ev_aload_n d_Mod_cycle_143 rfl ?_
    refine g_Mod_225 rfl d_Mod_cycle_144 ?_
    refine Ev_if_ne (tgt := 165) d_Mod_cycle_147 rfl (fun h2 => ?_) (fun h2 => ?_)
    · rw [if_neg h2] at hF
      exact T_Mod_cycle_165 hF hQ
    · rw [if_pos h2] at hF
      refine Ev_aload_n d_Mod_cycle_150 rfl ?_
      refine g_Mod_101 rfl d_Mod_cycle_151 ?_
      refine Ev_if_eq (tgt := 169) d_Mod_cycle_154 rfl (fun h3 => ?_) (fun h3 => ?_)
      · rw [if_pos h3] at hF
        exact T_Mod_cycle_169 hF hQ
      · rw [if_neg h3] at hF
        refine Ev_aload_n d_Mod_cycle_157 rfl ?_
        refine g_Mod_111 rfl d_Mod_cycle_158 ?_
        refine Ev_iconst (v := 3) d_Mod_cycle_161 (by decide) ?_
        refine Ev_icmp_lt (tgt := 169) d_Mod_cycle_162 rfl (fun h4 => ?_) (fun h4 => ?_)
        · rw [if_pos h4] at hF
          exact T_Mod_cycle_169 hF hQ
        · rw [if_neg h4] at hF
          exact T_Mod_cycle_165 hF hQ
  · rw [if_neg h1] at hF
    refine Ev_iconst (v := 2) d_Mod_cycle_139 (by decide) ?_
    refine Ev_goto (tgt := 170) d_Mod_cycle_140 rfl ?_
    exact T_Mod_cycle_170 hF hQ
def F_Mod_cycle_128 (s1 s2 : Int32) (c : x_S) : Option (Int32 × x_S) := F_Mod_cycle_132 (x_up c 46 30 (s1 + s2))
theorem T_Mod_cycle_128 {E : x_E} {o : x_S} {Q : Int32 → x_H → Prop} {l1 : Option Value} {l2 : Option Value} {l3 : Option Value} {s1 s2 : Int32} {c : x_S} {r : Int32} {s : x_S} (hF : F_Mod_cycle_128 s1 s2 c = some (r, s)) (hQ : Q r (hpk o s)) : Ev E m_Mod_cycle 0 0 128 [some (.ref 46), l1, l2, l3] [.int s2, .int s1, .ref 46] (hpk o c) Q := by
  unfold F_Mod_cycle_128 at hF
  refine Ev_iadd d_Mod_cycle_128 ?_
  refine q_Mod_111 rfl d_Mod_cycle_129 ?_
  exact T_Mod_cycle_132 hF hQ
def F_Mod_cycle_111 (c : x_S) : Option (Int32 × x_S) := if (c 46 29) = 0 then (F_Mod_cycle_128 (c 46 30) (0 : Int32) c) else (F_Mod_cycle_128 (c 46 30) (1 : Int32) c)
theorem T_Mod_cycle_111 {E : x_E} {o : x_S} {Q : Int32 → x_H → Prop} {l1 : Option Value} {l2 : Option Value} {l3 : Option Value} {c : x_S} {r : Int32} {s : x_S} (hF : F_Mod_cycle_111 c = some (r, s)) (hQ : Q r (hpk o s)) : Ev E m_Mod_cycle 0 0 111 [some (.ref 46), l1, l2, l3] [] (hpk o c) Q := by
  unfold F_Mod_cycle_111 at hF
  refine Ev_aload_n d_Mod_cycle_111 rfl ?_
  refine Ev_dup d_Mod_cycle_112 rfl ?_
  refine g_Mod_111 rfl d_Mod_cycle_113 ?_
  refine Ev_aload_n d_Mod_cycle_116 rfl ?_
  refine g_Mod_101 rfl d_Mod_cycle_117 ?_
  refine Ev_if_eq (tgt := 127) d_Mod_cycle_120 rfl (fun h1 => ?_) (fun h1 => ?_)
  · rw [if_pos h1] at hF
    refine Ev_iconst (v := 0) d_Mod_cycle_127 (by decide) ?_
    exact T_Mod_cycle_128 hF hQ
  · rw [if_neg h1] at hF
    refine Ev_iconst (v := 1) d_Mod_cycle_123 (by decide) ?_
    refine Ev_goto (tgt := 128) d_Mod_cycle_124 rfl ?_
    exact T_Mod_cycle_128 hF hQ
def F_Mod_cycle_108 (s1 : Int32) (c : x_S) : Option (Int32 × x_S) := x_b01 s1 (F_Mod_cycle_111 (x_up c 46 32 s1))
theorem T_Mod_cycle_108 {E : x_E} {o : x_S} {Q : Int32 → x_H → Prop} {l1 : Option Value} {l2 : Option Value} {l3 : Option Value} {s1 : Int32} {c : x_S} {r : Int32} {s : x_S} (hF : F_Mod_cycle_108 s1 c = some (r, s)) (hQ : Q r (hpk o s)) : Ev E m_Mod_cycle 0 0 108 [some (.ref 46), l1, l2, l3] [.int s1, .ref 46] (hpk o c) Q := by
  unfold F_Mod_cycle_108 at hF
  obtain ⟨hb1, hF⟩ := x_b01_some hF
  refine q_Mod_225 rfl d_Mod_cycle_108 hb1 ?_
  exact T_Mod_cycle_111 hF hQ
def F_Mod_cycle_107 (c : x_S) : Option (Int32 × x_S) := F_Mod_cycle_108 (0 : Int32) c
theorem T_Mod_cycle_107 {E : x_E} {o : x_S} {Q : Int32 → x_H → Prop} {l1 : Option Value} {l2 : Option Value} {l3 : Option Value} {c : x_S} {r : Int32} {s : x_S} (hF : F_Mod_cycle_107 c = some (r, s)) (hQ : Q r (hpk o s)) : Ev E m_Mod_cycle 0 0 107 [some (.ref 46), l1, l2, l3] [.ref 46] (hpk o c) Q := by
  unfold F_Mod_cycle_107 at hF
  refine Ev_iconst (v := 0) d_Mod_cycle_107 (by decide) ?_
  exact T_Mod_cycle_108 hF hQ
def F_Mod_cycle_103 (c : x_S) : Option (Int32 × x_S) := F_Mod_cycle_108 (1 : Int32) c
theorem T_Mod_cycle_103 {E : x_E} {o : x_S} {Q : Int32 → x_H → Prop} {l1 : Option Value} {l2 : Option Value} {l3 : Option Value} {c : x_S} {r : Int32} {s : x_S} (hF : F_Mod_cycle_103 c = some (r, s)) (hQ : Q r (hpk o s)) : Ev E m_Mod_cycle 0 0 103 [some (.ref 46), l1, l2, l3] [.ref 46] (hpk o c) Q := by
  unfold F_Mod_cycle_103 at hF
  refine Ev_iconst (v := 1) d_Mod_cycle_103 (by decide) ?_
  refine Ev_goto (tgt := 108) d_Mod_cycle_104 rfl ?_
  exact T_Mod_cycle_108 hF hQ
def F_Mod_cycle_82 (x1 x2 : Int32) (c : x_S) : Option (Int32 × x_S) := if (3 : Int32) ≤ x2 then (F_Mod_cycle_103 c) else (if (c 46 32) = 0 then (F_Mod_cycle_107 c) else (if x2 = 0 then (F_Mod_cycle_107 c) else (if x1 = 0 then (F_Mod_cycle_107 c) else (F_Mod_cycle_103 c))))
theorem T_Mod_cycle_82 {E : x_E} {o : x_S} {Q : Int32 → x_H → Prop} {l3 : Option Value} {x1 x2 : Int32} {c : x_S} {r : Int32} {s : x_S} (hF : F_Mod_cycle_82 x1 x2 c = some (r, s)) (hQ : Q r (hpk o s)) : Ev E m_Mod_cycle 0 0 82 [some (.ref 46), some (.int x1), some (.int x2), l3] [] (hpk o c) Q := by
  unfold F_Mod_cycle_82 at hF
  refine Ev_aload_n d_Mod_cycle_82 rfl ?_
  refine Ev_iload_n d_Mod_cycle_83 rfl ?_
  refine Ev_iconst (v := 3) d_Mod_cycle_84 (by decide) ?_
  refine Ev_icmp_ge (tgt := 103) d_Mod_cycle_85 rfl (fun h1 => ?_) (fun h1 => ?_)
  · rw [if_pos h1] at hF
    exact T_Mod_cycle_103 hF hQ
  · rw [if_neg h1] at hF
    refine Ev_aload_n d_Mod_cycle_88 rfl ?_
    refine g_Mod_225 rfl d_Mod_cycle_89 ?_
    refine Ev_if_eq (tgt := 107) d_Mod_cycle_92 rfl (fun h2 => ?_) (fun h2 => ?_)
    · rw [if_pos h2] at hF
      exact T_Mod_cycle_107 hF hQ
    · rw [if_neg h2] at hF
      refine Ev_iload_n d_Mod_cycle_95 rfl ?_
      refine Ev_if_eq (tgt := 107) d_Mod_cycle_96 rfl (fun h3 => ?_) (fun h3 => ?_)
      · rw [if_pos h3] at hF
        exact T_Mod_cycle_107 hF hQ
      · rw [if_neg h3] at hF
        refine Ev_iload_n d_Mod_cycle_99 rfl ?_
        refine Ev_if_eq (tgt := 107) d_Mod_cycle_100 rfl (fun h4 => ?_) (fun h4 => ?_)
        · rw [if_pos h4] at hF
          exact T_Mod_cycle_107 hF hQ
        · rw [if_neg h4] at hF
          exact T_Mod_cycle_103 hF hQ
def F_Mod_cycle_79 (x1 x2 s1 : Int32) (c : x_S) : Option (Int32 × x_S) := x_b01 s1 (F_Mod_cycle_82 x1 x2 (x_up c 46 31 s1))
theorem T_Mod_cycle_79 {E : x_E} {o : x_S} {Q : Int32 → x_H → Prop} {l3 : Option Value} {x1 x2 s1 : Int32} {c : x_S} {r : Int32} {s : x_S} (hF : F_Mod_cycle_79 x1 x2 s1 c = some (r, s)) (hQ : Q r (hpk o s)) : Ev E m_Mod_cycle 0 0 79 [some (.ref 46), some (.int x1), some (.int x2), l3] [.int s1, .ref 46] (hpk o c) Q := by
  unfold F_Mod_cycle_79 at hF
  obtain ⟨hb1, hF⟩ := x_b01_some hF
  refine q_Mod_222 rfl d_Mod_cycle_79 hb1 ?_
  exact T_Mod_cycle_82 hF hQ
def F_Mod_cycle_78 (x1 x2 : Int32) (c : x_S) : Option (Int32 × x_S) := F_Mod_cycle_79 x1 x2 (0 : Int32) c
theorem T_Mod_cycle_78 {E : x_E} {o : x_S} {Q : Int32 → x_H → Prop} {l3 : Option Value} {x1 x2 : Int32} {c : x_S} {r : Int32} {s : x_S} (hF : F_Mod_cycle_78 x1 x2 c = some (r, s)) (hQ : Q r (hpk o s)) : Ev E m_Mod_cycle 0 0 78 [some (.ref 46), some (.int x1), some (.int x2), l3] [.ref 46] (hpk o c) Q := by
  unfold F_Mod_cycle_78 at hF
  refine Ev_iconst (v := 0) d_Mod_cycle_78 (by decide) ?_
  exact T_Mod_cycle_79 hF hQ
def F_Mod_cycle_74 (x1 x2 : Int32) (c : x_S) : Option (Int32 × x_S) := F_Mod_cycle_79 x1 x2 (1 : Int32) c
theorem T_Mod_cycle_74 {E : x_E} {o : x_S} {Q : Int32 → x_H → Prop} {l3 : Option Value} {x1 x2 : Int32} {c : x_S} {r : Int32} {s : x_S} (hF : F_Mod_cycle_74 x1 x2 c = some (r, s)) (hQ : Q r (hpk o s)) : Ev E m_Mod_cycle 0 0 74 [some (.ref 46), some (.int x1), some (.int x2), l3] [.ref 46] (hpk o c) Q := by
  unfold F_Mod_cycle_74 at hF
  refine Ev_iconst (v := 1) d_Mod_cycle_74 (by decide) ?_
  refine Ev_goto (tgt := 79) d_Mod_cycle_75 rfl ?_
  exact T_Mod_cycle_79 hF hQ
def F_Mod_cycle_56 (x1 s0 : Int32) (c : x_S) : Option (Int32 × x_S) := if s0 = (4 : Int32) then (F_Mod_cycle_74 x1 s0 c) else (if (c 46 31) = 0 then (F_Mod_cycle_78 x1 s0 c) else (if x1 = 0 then (F_Mod_cycle_78 x1 s0 c) else (F_Mod_cycle_74 x1 s0 c)))
theorem T_Mod_cycle_56 {E : x_E} {o : x_S} {Q : Int32 → x_H → Prop} {l2 : Option Value} {l3 : Option Value} {x1 s0 : Int32} {c : x_S} {r : Int32} {s : x_S} (hF : F_Mod_cycle_56 x1 s0 c = some (r, s)) (hQ : Q r (hpk o s)) : Ev E m_Mod_cycle 0 0 56 [some (.ref 46), some (.int x1), l2, l3] [.int s0] (hpk o c) Q := by
  unfold F_Mod_cycle_56 at hF
  refine Ev_istore_n (L' := [some (.ref 46), some (.int x1), some (.int s0), l3]) d_Mod_cycle_56 (by decide) rfl ?_
  refine Ev_aload_n d_Mod_cycle_57 rfl ?_
  refine Ev_iload_n d_Mod_cycle_58 rfl ?_
  refine Ev_iconst (v := 4) d_Mod_cycle_59 (by decide) ?_
  refine Ev_icmp_eq (tgt := 74) d_Mod_cycle_60 rfl (fun h1 => ?_) (fun h1 => ?_)
  · rw [if_pos h1] at hF
    exact T_Mod_cycle_74 hF hQ
  · rw [if_neg h1] at hF
    refine Ev_aload_n d_Mod_cycle_63 rfl ?_
    refine g_Mod_222 rfl d_Mod_cycle_64 ?_
    refine Ev_if_eq (tgt := 78) d_Mod_cycle_67 rfl (fun h2 => ?_) (fun h2 => ?_)
    · rw [if_pos h2] at hF
      exact T_Mod_cycle_78 hF hQ
    · rw [if_neg h2] at hF
      refine Ev_iload_n d_Mod_cycle_70 rfl ?_
      refine Ev_if_eq (tgt := 78) d_Mod_cycle_71 rfl (fun h3 => ?_) (fun h3 => ?_)
      · rw [if_pos h3] at hF
        exact T_Mod_cycle_78 hF hQ
      · rw [if_neg h3] at hF
        exact T_Mod_cycle_74 hF hQ
def F_Mod_cycle_44 (x1 : Int32) (c : x_S) : Option (Int32 × x_S) := x_bind (F_Mod_grade (c 46 5) (c 46 9) c) (fun r1 c1 => F_Mod_cycle_56 x1 r1 c1)
theorem T_Mod_cycle_44 {E : x_E} {o : x_S} {Q : Int32 → x_H → Prop} {l2 : Option Value} {l3 : Option Value} {x1 : Int32} {c : x_S} {r : Int32} {s : x_S} (hF : F_Mod_cycle_44 x1 c = some (r, s)) (hQ : Q r (hpk o s)) : Ev E m_Mod_cycle 0 0 44 [some (.ref 46), some (.int x1), l2, l3] [] (hpk o c) Q := by
  unfold F_Mod_cycle_44 at hF
  refine Ev_aload_n d_Mod_cycle_44 rfl ?_
  refine Ev_aload_n d_Mod_cycle_45 rfl ?_
  refine g_Mod_158 rfl d_Mod_cycle_46 ?_
  refine Ev_aload_n d_Mod_cycle_49 rfl ?_
  refine g_Mod_151 rfl d_Mod_cycle_50 ?_
  obtain ⟨r1, c1, hC, hF⟩ := x_bind_some hF
  refine k_Mod_161 rfl d_Mod_cycle_53 ⟨by decide, by decide⟩ (Nat.le_of_ble_eq_true rfl) ?_
  exact C_Mod_grade hC (T_Mod_cycle_56 hF hQ)
def F_Mod_cycle_36 (x1 : Int32) (c : x_S) : Option (Int32 × x_S) := F_Mod_cycle_44 x1 c
theorem T_Mod_cycle_36 {E : x_E} {o : x_S} {Q : Int32 → x_H → Prop} {l2 : Option Value} {l3 : Option Value} {x1 : Int32} {c : x_S} {r : Int32} {s : x_S} (hF : F_Mod_cycle_36 x1 c = some (r, s)) (hQ : Q r (hpk o s)) : Ev E m_Mod_cycle 0 0 36 [some (.ref 46), some (.int x1), l2, l3] [] (hpk o c) Q := by
  unfold F_Mod_cycle_36 at hF
  refine Ev_goto (tgt := 44) d_Mod_cycle_36 rfl ?_
  exact T_Mod_cycle_44 hF hQ
def F_Mod_cycle_30 (x1 : Int32) (c : x_S) : Option (Int32 × x_S) := x_bind (F_Mod_become (6 : Int32) c) (fun _ c1 => F_Mod_cycle_36 x1 c1)
theorem T_Mod_cycle_30 {E : x_E} {o : x_S} {Q : Int32 → x_H → Prop} {l2 : Option Value} {l3 : Option Value} {x1 : Int32} {c : x_S} {r : Int32} {s : x_S} (hF : F_Mod_cycle_30 x1 c = some (r, s)) (hQ : Q r (hpk o s)) : Ev E m_Mod_cycle 0 0 30 [some (.ref 46), some (.int x1), l2, l3] [] (hpk o c) Q := by
  unfold F_Mod_cycle_30 at hF
  refine Ev_aload_n d_Mod_cycle_30 rfl ?_
  refine Ev_bipush (v := (6)) d_Mod_cycle_31 (by decide) ?_
  obtain ⟨r1, c1, hC, hF⟩ := x_bind_some hF
  refine k_Mod_104 rfl d_Mod_cycle_33 ⟨by decide, by decide⟩ (Nat.le_of_ble_eq_true rfl) ?_
  exact C_Mod_become hC (T_Mod_cycle_36 hF hQ)
def F_Mod_cycle_10 (x1 : Int32) (c : x_S) : Option (Int32 × x_S) := if (c 46 6) = (6 : Int32) then (F_Mod_cycle_30 x1 c) else (if x1 < 0 then (F_Mod_cycle_30 x1 c) else (if x1 ≤ (500 : Int32) then (x_bind (F_Mod_moves x1 c) (fun _ c4 => F_Mod_cycle_44 x1 c4)) else (F_Mod_cycle_30 x1 c)))
theorem T_Mod_cycle_10 {E : x_E} {o : x_S} {Q : Int32 → x_H → Prop} {l2 : Option Value} {l3 : Option Value} {x1 : Int32} {c : x_S} {r : Int32} {s : x_S} (hF : F_Mod_cycle_10 x1 c = some (r, s)) (hQ : Q r (hpk o s)) : Ev E m_Mod_cycle 0 0 10 [some (.ref 46), some (.int x1), l2, l3] [] (hpk o c) Q := by
  unfold F_Mod_cycle_10 at hF
  refine Ev_aload_n d_Mod_cycle_10 rfl ?_
  refine g_Mod_81 rfl d_Mod_cycle_11 ?_
  refine Ev_bipush (v := (6)) d_Mod_cycle_14 (by decide) ?_
  refine Ev_icmp_eq (tgt := 30) d_Mod_cycle_16 rfl (fun h1 => ?_) (fun h1 => ?_)
  · rw [if_pos h1] at hF
    exact T_Mod_cycle_30 hF hQ
  · rw [if_neg h1] at hF
    refine Ev_iload_n d_Mod_cycle_19 rfl ?_
    refine Ev_if_lt (tgt := 30) d_Mod_cycle_20 rfl (fun h2 => ?_) (fun h2 => ?_)
    · rw [if_pos h2] at hF
      exact T_Mod_cycle_30 hF hQ
    · rw [if_neg h2] at hF
      refine Ev_iload_n d_Mod_cycle_23 rfl ?_
      refine Ev_sipush (v := (500)) d_Mod_cycle_24 (by decide) ?_
      refine Ev_icmp_le (tgt := 39) d_Mod_cycle_27 rfl (fun h3 => ?_) (fun h3 => ?_)
      · rw [if_pos h3] at hF
        refine Ev_aload_n d_Mod_cycle_39 rfl ?_
        refine Ev_iload_n d_Mod_cycle_40 rfl ?_
        obtain ⟨r4, c4, hC, hF⟩ := x_bind_some hF
        refine k_Mod_219 rfl d_Mod_cycle_41 ⟨by decide, by decide⟩ (Nat.le_of_ble_eq_true rfl) ?_
        exact C_Mod_moves hC (T_Mod_cycle_44 hF hQ)
      · rw [if_neg h3] at hF
        exact T_Mod_cycle_30 hF hQ
def F_Mod_cycle (x1 : Int32) (c : x_S) : Option (Int32 × x_S) := F_Mod_cycle_10 x1 (x_up c 46 7 ((c 46 7) + (1 : Int32)))
theorem C_Mod_cycle {E : x_E} {o : x_S} {Q : Int32 → x_H → Prop} {x1 : Int32} {c : x_S} {r : Int32} {s : x_S} (hF : F_Mod_cycle x1 c = some (r, s)) (hQ : Q r (hpk o s)) : Call E m_Mod_cycle 0 0 [.ref 46, .int x1] (hpk o c) Q := by
  refine Call_of (L := [some (.ref 46), some (.int x1), none, none]) (by decide) (by intro v hv; simp only [List.mem_cons, List.not_mem_nil, or_false] at hv; rcases hv with rfl | rfl <;> rfl) (Nat.le_of_ble_eq_true rfl) rfl ?_
  unfold F_Mod_cycle at hF
  refine Ev_aload_n d_Mod_cycle_0 rfl ?_
  refine Ev_dup d_Mod_cycle_1 rfl ?_
  refine g_Mod_75 rfl d_Mod_cycle_2 ?_
  refine Ev_iconst (v := 1) d_Mod_cycle_5 (by decide) ?_
  refine Ev_iadd d_Mod_cycle_6 ?_
  refine q_Mod_75 rfl d_Mod_cycle_7 ?_
  exact T_Mod_cycle_10 hF hQ
