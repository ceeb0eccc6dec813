/-! printed by wip/gen/gen4.py: TrainGuardModel -/
def F_Mod_lists_259 (K : Int32 → x_S → Option (Int32 × x_S)) (x1 : Int32) (c : x_S) : Option (Int32 × x_S) := K (x1 + (1 : Int32)) c
theorem T_Mod_lists_259 {E : x_E} {o : x_S} {Q : Int32 → x_H → Prop} {K : Int32 → x_S → Option (Int32 × x_S)} (hK : ∀ {x1 : Int32} {c : x_S} {r : Int32} {s : x_S}, K x1 c = some (r, s) → Q r (hpk o s) → Ev E m_Mod_lists 0 0 80 [some (.ref 46), some (.int x1)] [] (hpk o c) Q) {x1 : Int32} {c : x_S} {r : Int32} {s : x_S} (hF : F_Mod_lists_259 K x1 c = some (r, s)) (hQ : Q r (hpk o s)) : Ev E m_Mod_lists 0 0 259 [some (.ref 46), some (.int x1)] [] (hpk o c) Q := by
  unfold F_Mod_lists_259 at hF
  refine Ev_iinc (v := (x1 + (1 : Int32))) (L' := [some (.ref 46), some (.int (x1 + (1 : Int32)))]) d_Mod_lists_259 rfl rfl (by decide) rfl ?_
  refine Ev_goto (tgt := 80) d_Mod_lists_262 rfl ?_
  exact hK hF hQ
def F_Mod_lists_258 (K : Int32 → x_S → Option (Int32 × x_S)) (x1 s1 s2 : Int32) (c : x_S) : Option (Int32 × x_S) := x_ix s1 7 (fun j1 => F_Mod_lists_259 K x1 (x_up c 48 j1 s2))
theorem T_Mod_lists_258 {E : x_E} {o : x_S} {Q : Int32 → x_H → Prop} {K : Int32 → x_S → Option (Int32 × x_S)} (hK : ∀ {x1 : Int32} {c : x_S} {r : Int32} {s : x_S}, K x1 c = some (r, s) → Q r (hpk o s) → Ev E m_Mod_lists 0 0 80 [some (.ref 46), some (.int x1)] [] (hpk o c) Q) {x1 s1 s2 : Int32} {c : x_S} {r : Int32} {s : x_S} (hF : F_Mod_lists_258 K x1 s1 s2 c = some (r, s)) (hQ : Q r (hpk o s)) : Ev E m_Mod_lists 0 0 258 [some (.ref 46), some (.int x1)] [.int s2, .int s1, .ref 48] (hpk o c) Q := by
  unfold F_Mod_lists_258 at hF
  obtain ⟨j1, hij1, hjj1, hF⟩ := x_ix_some hF
  refine Em_iast d_Mod_lists_258 (P := 48) (by decide) rfl hij1 hjj1 ?_
  exact T_Mod_lists_259 (fun h1 h2 => hK h1 h2) hF hQ
def F_Mod_lists_246 (K : Int32 → x_S → Option (Int32 × x_S)) (x1 : Int32) (c : x_S) : Option (Int32 × x_S) := x_bind (F_Mod_told (3 : Int32) x1 (1 : Int32) c) (fun r1 c1 => F_Mod_lists_258 K x1 x1 r1 c1)
theorem T_Mod_lists_246 {E : x_E} {o : x_S} {Q : Int32 → x_H → Prop} {K : Int32 → x_S → Option (Int32 × x_S)} (hK : ∀ {x1 : Int32} {c : x_S} {r : Int32} {s : x_S}, K x1 c = some (r, s) → Q r (hpk o s) → Ev E m_Mod_lists 0 0 80 [some (.ref 46), some (.int x1)] [] (hpk o c) Q) {x1 : Int32} {c : x_S} {r : Int32} {s : x_S} (hF : F_Mod_lists_246 K x1 c = some (r, s)) (hQ : Q r (hpk o s)) : Ev E m_Mod_lists 0 0 246 [some (.ref 46), some (.int x1)] [] (hpk o c) Q := by
  unfold F_Mod_lists_246 at hF
  refine Ev_aload_n d_Mod_lists_246 rfl ?_
  refine g_Mod_13 rfl d_Mod_lists_247 ?_
  refine Ev_iload_n d_Mod_lists_250 rfl ?_
  refine Ev_aload_n d_Mod_lists_251 rfl ?_
  refine Ev_iconst (v := 3) d_Mod_lists_252 (by decide) ?_
  refine Ev_iload_n d_Mod_lists_253 rfl ?_
  refine Ev_iconst (v := 1) d_Mod_lists_254 (by decide) ?_
  obtain ⟨r1, c1, hC, hF⟩ := x_bind_some hF
  refine k_Mod_141 rfl d_Mod_lists_255 ⟨by decide, by decide⟩ (Nat.le_of_ble_eq_true rfl) ?_
  exact C_Mod_told hC (T_Mod_lists_258 (fun h1 h2 => hK h1 h2) hF hQ)
def F_Mod_lists_245 (K : Int32 → x_S → Option (Int32 × x_S)) (x1 s1 s2 : Int32) (c : x_S) : Option (Int32 × x_S) := x_ix s1 7 (fun j1 => F_Mod_lists_246 K x1 (x_up c 47 j1 s2))
theorem T_Mod_lists_245 {E : x_E} {o : x_S} {Q : Int32 → x_H → Prop} {K : Int32 → x_S → Option (Int32 × x_S)} (hK : ∀ {x1 : Int32} {c : x_S} {r : Int32} {s : x_S}, K x1 c = some (r, s) → Q r (hpk o s) → Ev E m_Mod_lists 0 0 80 [some (.ref 46), some (.int x1)] [] (hpk o c) Q) {x1 s1 s2 : Int32} {c : x_S} {r : Int32} {s : x_S} (hF : F_Mod_lists_245 K x1 s1 s2 c = some (r, s)) (hQ : Q r (hpk o s)) : Ev E m_Mod_lists 0 0 245 [some (.ref 46), some (.int x1)] [.int s2, .int s1, .ref 47] (hpk o c) Q := by
  unfold F_Mod_lists_245 at hF
  obtain ⟨j1, hij1, hjj1, hF⟩ := x_ix_some hF
  refine Em_iast d_Mod_lists_245 (P := 47) (by decide) rfl hij1 hjj1 ?_
  exact T_Mod_lists_246 (fun h1 h2 => hK h1 h2) hF hQ
def F_Mod_lists_216 (K : Int32 → x_S → Option (Int32 × x_S)) (x1 : Int32) (c : x_S) : Option (Int32 × x_S) := x_ix (3 : Int32) 6 (fun j1 => if (c 60 j1) = 0 then (F_Mod_lists_259 K x1 c) else (if (c 46 13) ≤ x1 then (F_Mod_lists_259 K x1 c) else (x_bind (F_Mod_told (3 : Int32) x1 (0 : Int32) c) (fun r4 c4 => F_Mod_lists_245 K x1 x1 r4 c4))))
theorem T_Mod_lists_216 {E : x_E} {o : x_S} {Q : Int32 → x_H → Prop} {K : Int32 → x_S → Option (Int32 × x_S)} (hK : ∀ {x1 : Int32} {c : x_S} {r : Int32} {s : x_S}, K x1 c = some (r, s) → Q r (hpk o s) → Ev E m_Mod_lists 0 0 80 [some (.ref 46), some (.int x1)] [] (hpk o c) Q) {x1 : Int32} {c : x_S} {r : Int32} {s : x_S} (hF : F_Mod_lists_216 K x1 c = some (r, s)) (hQ : Q r (hpk o s)) : Ev E m_Mod_lists 0 0 216 [some (.ref 46), some (.int x1)] [] (hpk o c) Q := by
  unfold F_Mod_lists_216 at hF
  refine Ev_aload_n d_Mod_lists_216 rfl ?_
  refine g_Mod_54 rfl d_Mod_lists_217 ?_
  refine Ev_iconst (v := 3) d_Mod_lists_220 (by decide) ?_
  obtain ⟨j1, hij1, hjj1, hF⟩ := x_ix_some hF
  refine Em_zald d_Mod_lists_221 (P := 60) (by decide) rfl hij1 hjj1 ?_
  refine Ev_if_eq (tgt := 259) d_Mod_lists_222 rfl (fun h2 => ?_) (fun h2 => ?_)
  · rw [if_pos h2] at hF
    exact T_Mod_lists_259 (fun h1 h2 => hK h1 h2) hF hQ
  · rw [if_neg h2] at hF
    refine Ev_iload_n d_Mod_lists_225 rfl ?_
    refine Ev_aload_n d_Mod_lists_226 rfl ?_
    refine g_Mod_92 rfl d_Mod_lists_227 ?_
    refine Ev_icmp_ge (tgt := 259) d_Mod_lists_230 rfl (fun h3 => ?_) (fun h3 => ?_)
    · rw [if_pos h3] at hF
      exact T_Mod_lists_259 (fun h1 h2 => hK h1 h2) hF hQ
    · rw [if_neg h3] at hF
      refine Ev_aload_n d_Mod_lists_233 rfl ?_
      refine g_Mod_7 rfl d_Mod_lists_234 ?_
      refine Ev_iload_n d_Mod_lists_237 rfl ?_
      refine Ev_aload_n d_Mod_lists_238 rfl ?_
      refine Ev_iconst (v := 3) d_Mod_lists_239 (by decide) ?_
      refine Ev_iload_n d_Mod_lists_240 rfl ?_
      refine Ev_iconst (v := 0) d_Mod_lists_241 (by decide) ?_
      obtain ⟨r4, c4, hC, hF⟩ := x_bind_some hF
      refine k_Mod_141 rfl d_Mod_lists_242 ⟨by decide, by decide⟩ (Nat.le_of_ble_eq_true rfl) ?_
      exact C_Mod_told hC (T_Mod_lists_245 (fun h1 h2 => hK h1 h2) hF hQ)
def F_Mod_lists_215 (K : Int32 → x_S → Option (Int32 × x_S)) (x1 s1 s2 : Int32) (c : x_S) : Option (Int32 × x_S) := x_ix s1 7 (fun j1 => F_Mod_lists_216 K x1 (x_up c 50 j1 s2))
theorem T_Mod_lists_215 {E : x_E} {o : x_S} {Q : Int32 → x_H → Prop} {K : Int32 → x_S → Option (Int32 × x_S)} (hK : ∀ {x1 : Int32} {c : x_S} {r : Int32} {s : x_S}, K x1 c = some (r, s) → Q r (hpk o s) → Ev E m_Mod_lists 0 0 80 [some (.ref 46), some (.int x1)] [] (hpk o c) Q) {x1 s1 s2 : Int32} {c : x_S} {r : Int32} {s : x_S} (hF : F_Mod_lists_215 K x1 s1 s2 c = some (r, s)) (hQ : Q r (hpk o s)) : Ev E m_Mod_lists 0 0 215 [some (.ref 46), some (.int x1)] [.int s2, .int s1, .ref 50] (hpk o c) Q := by
  unfold F_Mod_lists_215 at hF
  obtain ⟨j1, hij1, hjj1, hF⟩ := x_ix_some hF
  refine Em_iast d_Mod_lists_215 (P := 50) (by decide) rfl hij1 hjj1 ?_
  exact T_Mod_lists_216 (fun h1 h2 => hK h1 h2) hF hQ
def F_Mod_lists_203 (K : Int32 → x_S → Option (Int32 × x_S)) (x1 : Int32) (c : x_S) : Option (Int32 × x_S) := x_bind (F_Mod_told (2 : Int32) x1 (1 : Int32) c) (fun r1 c1 => F_Mod_lists_215 K x1 x1 r1 c1)
theorem T_Mod_lists_203 {E : x_E} {o : x_S} {Q : Int32 → x_H → Prop} {K : Int32 → x_S → Option (Int32 × x_S)} (hK : ∀ {x1 : Int32} {c : x_S} {r : Int32} {s : x_S}, K x1 c = some (r, s) → Q r (hpk o s) → Ev E m_Mod_lists 0 0 80 [some (.ref 46), some (.int x1)] [] (hpk o c) Q) {x1 : Int32} {c : x_S} {r : Int32} {s : x_S} (hF : F_Mod_lists_203 K x1 c = some (r, s)) (hQ : Q r (hpk o s)) : Ev E m_Mod_lists 0 0 203 [some (.ref 46), some (.int x1)] [] (hpk o c) Q := by
  unfold F_Mod_lists_203 at hF
  refine Ev_aload_n d_Mod_lists_203 rfl ?_
  refine g_Mod_19 rfl d_Mod_lists_204 ?_
  refine Ev_iload_n d_Mod_lists_207 rfl ?_
  refine Ev_aload_n d_Mod_lists_208 rfl ?_
  refine Ev_iconst (v := 2) d_Mod_lists_209 (by decide) ?_
  refine Ev_iload_n d_Mod_lists_210 rfl ?_
  refine Ev_iconst (v := 1) d_Mod_lists_211 (by decide) ?_
  obtain ⟨r1, c1, hC, hF⟩ := x_bind_some hF
  refine k_Mod_141 rfl d_Mod_lists_212 ⟨by decide, by decide⟩ (Nat.le_of_ble_eq_true rfl) ?_
  exact C_Mod_told hC (T_Mod_lists_215 (fun h1 h2 => hK h1 h2) hF hQ)
def F_Mod_lists_202 (K : Int32 → x_S → Option (Int32 × x_S)) (x1 s1 s2 : Int32) (c : x_S) : Option (Int32 × x_S) := x_ix s1 7 (fun j1 => F_Mod_lists_203 K x1 (x_up c 49 j1 s2))
theorem T_Mod_lists_202 {E : x_E} {o : x_S} {Q : Int32 → x_H → Prop} {K : Int32 → x_S → Option (Int32 × x_S)} (hK : ∀ {x1 : Int32} {c : x_S} {r : Int32} {s : x_S}, K x1 c = some (r, s) → Q r (hpk o s) → Ev E m_Mod_lists 0 0 80 [some (.ref 46), some (.int x1)] [] (hpk o c) Q) {x1 s1 s2 : Int32} {c : x_S} {r : Int32} {s : x_S} (hF : F_Mod_lists_202 K x1 s1 s2 c = some (r, s)) (hQ : Q r (hpk o s)) : Ev E m_Mod_lists 0 0 202 [some (.ref 46), some (.int x1)] [.int s2, .int s1, .ref 49] (hpk o c) Q := by
  unfold F_Mod_lists_202 at hF
  obtain ⟨j1, hij1, hjj1, hF⟩ := x_ix_some hF
  refine Em_iast d_Mod_lists_202 (P := 49) (by decide) rfl hij1 hjj1 ?_
  exact T_Mod_lists_203 (fun h1 h2 => hK h1 h2) hF hQ
def F_Mod_lists_173 (K : Int32 → x_S → Option (Int32 × x_S)) (x1 : Int32) (c : x_S) : Option (Int32 × x_S) := x_ix (2 : Int32) 6 (fun j1 => if (c 60 j1) = 0 then (F_Mod_lists_216 K x1 c) else (if (c 46 16) ≤ x1 then (F_Mod_lists_216 K x1 c) else (x_bind (F_Mod_told (2 : Int32) x1 (0 : Int32) c) (fun r4 c4 => F_Mod_lists_202 K x1 x1 r4 c4))))
theorem T_Mod_lists_173 {E : x_E} {o : x_S} {Q : Int32 → x_H → Prop} {K : Int32 → x_S → Option (Int32 × x_S)} (hK : ∀ {x1 : Int32} {c : x_S} {r : Int32} {s : x_S}, K x1 c = some (r, s) → Q r (hpk o s) → Ev E m_Mod_lists 0 0 80 [some (.ref 46), some (.int x1)] [] (hpk o c) Q) {x1 : Int32} {c : x_S} {r : Int32} {s : x_S} (hF : F_Mod_lists_173 K x1 c = some (r, s)) (hQ : Q r (hpk o s)) : Ev E m_Mod_lists 0 0 173 [some (.ref 46), some (.int x1)] [] (hpk o c) Q := by
  unfold F_Mod_lists_173 at hF
  refine Ev_aload_n d_Mod_lists_173 rfl ?_
  refine g_Mod_54 rfl d_Mod_lists_174 ?_
  refine Ev_iconst (v := 2) d_Mod_lists_177 (by decide) ?_
  obtain ⟨j1, hij1, hjj1, hF⟩ := x_ix_some hF
  refine Em_zald d_Mod_lists_178 (P := 60) (by decide) rfl hij1 hjj1 ?_
  refine Ev_if_eq (tgt := 216) d_Mod_lists_179 rfl (fun h2 => ?_) (fun h2 => ?_)
  · rw [if_pos h2] at hF
    exact T_Mod_lists_216 (fun h1 h2 => hK h1 h2) hF hQ
  · rw [if_neg h2] at hF
    refine Ev_iload_n d_Mod_lists_182 rfl ?_
    refine Ev_aload_n d_Mod_lists_183 rfl ?_
    refine g_Mod_95 rfl d_Mod_lists_184 ?_
    refine Ev_icmp_ge (tgt := 216) d_Mod_lists_187 rfl (fun h3 => ?_) (fun h3 => ?_)
    · rw [if_pos h3] at hF
      exact T_Mod_lists_216 (fun h1 h2 => hK h1 h2) hF hQ
    · rw [if_neg h3] at hF
      refine Ev_aload_n d_Mod_lists_190 rfl ?_
      refine g_Mod_16 rfl d_Mod_lists_191 ?_
      refine Ev_iload_n d_Mod_lists_194 rfl ?_
      refine Ev_aload_n d_Mod_lists_195 rfl ?_
      refine Ev_iconst (v := 2) d_Mod_lists_196 (by decide) ?_
      refine Ev_iload_n d_Mod_lists_197 rfl ?_
      refine Ev_iconst (v := 0) d_Mod_lists_198 (by decide) ?_
      obtain ⟨r4, c4, hC, hF⟩ := x_bind_some hF
      refine k_Mod_141 rfl d_Mod_lists_199 ⟨by decide, by decide⟩ (Nat.le_of_ble_eq_true rfl) ?_
      exact C_Mod_told hC (T_Mod_lists_202 (fun h1 h2 => hK h1 h2) hF hQ)
def F_Mod_lists_172 (K : Int32 → x_S → Option (Int32 × x_S)) (x1 s1 s2 : Int32) (c : x_S) : Option (Int32 × x_S) := x_ix s1 7 (fun j1 => x_b01 s2 (F_Mod_lists_173 K x1 (x_up c 54 j1 s2)))
theorem T_Mod_lists_172 {E : x_E} {o : x_S} {Q : Int32 → x_H → Prop} {K : Int32 → x_S → Option (Int32 × x_S)} (hK : ∀ {x1 : Int32} {c : x_S} {r : Int32} {s : x_S}, K x1 c = some (r, s) → Q r (hpk o s) → Ev E m_Mod_lists 0 0 80 [some (.ref 46), some (.int x1)] [] (hpk o c) Q) {x1 s1 s2 : Int32} {c : x_S} {r : Int32} {s : x_S} (hF : F_Mod_lists_172 K x1 s1 s2 c = some (r, s)) (hQ : Q r (hpk o s)) : Ev E m_Mod_lists 0 0 172 [some (.ref 46), some (.int x1)] [.int s2, .int s1, .ref 54] (hpk o c) Q := by
  unfold F_Mod_lists_172 at hF
  obtain ⟨j1, hij1, hjj1, hF⟩ := x_ix_some hF
  obtain ⟨hb2, hF⟩ := x_b01_some hF
  refine Em_zast d_Mod_lists_172 (P := 54) (by decide) rfl hij1 hjj1 hb2 ?_
  exact T_Mod_lists_173 (fun h1 h2 => hK h1 h2) hF hQ
def F_Mod_lists_142 (K : Int32 → x_S → Option (Int32 × x_S)) (x1 : Int32) (c : x_S) : Option (Int32 × x_S) := x_ix x1 7 (fun j1 => x_ix x1 7 (fun j2 => if (c 46 3) ≤ ((c 51 j1) + (c 53 j2)) then (F_Mod_lists_172 K x1 x1 (0 : Int32) c) else (F_Mod_lists_172 K x1 x1 (1 : Int32) c)))
theorem T_Mod_lists_142 {E : x_E} {o : x_S} {Q : Int32 → x_H → Prop} {K : Int32 → x_S → Option (Int32 × x_S)} (hK : ∀ {x1 : Int32} {c : x_S} {r : Int32} {s : x_S}, K x1 c = some (r, s) → Q r (hpk o s) → Ev E m_Mod_lists 0 0 80 [some (.ref 46), some (.int x1)] [] (hpk o c) Q) {x1 : Int32} {c : x_S} {r : Int32} {s : x_S} (hF : F_Mod_lists_142 K x1 c = some (r, s)) (hQ : Q r (hpk o s)) : Ev E m_Mod_lists 0 0 142 [some (.ref 46), some (.int x1)] [] (hpk o c) Q := by
  unfold F_Mod_lists_142 at hF
  refine Ev_aload_n d_Mod_lists_142 rfl ?_
  refine g_Mod_31 rfl d_Mod_lists_143 ?_
  refine Ev_iload_n d_Mod_lists_146 rfl ?_
  refine Ev_aload_n d_Mod_lists_147 rfl ?_
  refine g_Mod_22 rfl d_Mod_lists_148 ?_
  refine Ev_iload_n d_Mod_lists_151 rfl ?_
  obtain ⟨j1, hij1, hjj1, hF⟩ := x_ix_some hF
  refine Em_iald d_Mod_lists_152 (P := 51) (by decide) rfl hij1 hjj1 ?_
  refine Ev_aload_n d_Mod_lists_153 rfl ?_
  refine g_Mod_28 rfl d_Mod_lists_154 ?_
  refine Ev_iload_n d_Mod_lists_157 rfl ?_
  obtain ⟨j2, hij2, hjj2, hF⟩ := x_ix_some hF
  refine Em_iald d_Mod_lists_158 (P := 53) (by decide) rfl hij2 hjj2 ?_
  refine Ev_iadd d_Mod_lists_159 ?_
  refine Ev_aload_n d_Mod_lists_160 rfl ?_
  refine g_Mod_189 rfl d_Mod_lists_161 ?_
  refine Ev_icmp_ge (tgt := 171) d_Mod_lists_164 rfl (fun h3 => ?_) (fun h3 => ?_)
  · rw [if_pos h3] at hF
    refine Ev_iconst (v := 0) d_Mod_lists_171 (by decide) ?_
    exact T_Mod_lists_172 (fun h1 h2 => hK h1 h2) hF hQ
  · rw [if_neg h3] at hF
    refine Ev_iconst (v := 1) d_Mod_lists_167 (by decide) ?_
    refine Ev_goto (tgt := 172) d_Mod_lists_168 rfl ?_
    exact T_Mod_lists_172 (fun h1 h2 => hK h1 h2) hF hQ
def F_Mod_lists_141 (K : Int32 → x_S → Option (Int32 × x_S)) (x1 s1 s2 : Int32) (c : x_S) : Option (Int32 × x_S) := x_ix s1 7 (fun j1 => F_Mod_lists_142 K x1 (x_up c 53 j1 s2))
theorem T_Mod_lists_141 {E : x_E} {o : x_S} {Q : Int32 → x_H → Prop} {K : Int32 → x_S → Option (Int32 × x_S)} (hK : ∀ {x1 : Int32} {c : x_S} {r : Int32} {s : x_S}, K x1 c = some (r, s) → Q r (hpk o s) → Ev E m_Mod_lists 0 0 80 [some (.ref 46), some (.int x1)] [] (hpk o c) Q) {x1 s1 s2 : Int32} {c : x_S} {r : Int32} {s : x_S} (hF : F_Mod_lists_141 K x1 s1 s2 c = some (r, s)) (hQ : Q r (hpk o s)) : Ev E m_Mod_lists 0 0 141 [some (.ref 46), some (.int x1)] [.int s2, .int s1, .ref 53] (hpk o c) Q := by
  unfold F_Mod_lists_141 at hF
  obtain ⟨j1, hij1, hjj1, hF⟩ := x_ix_some hF
  refine Em_iast d_Mod_lists_141 (P := 53) (by decide) rfl hij1 hjj1 ?_
  exact T_Mod_lists_142 (fun h1 h2 => hK h1 h2) hF hQ
def F_Mod_lists_129 (K : Int32 → x_S → Option (Int32 × x_S)) (x1 : Int32) (c : x_S) : Option (Int32 × x_S) := x_bind (F_Mod_told (0 : Int32) x1 (2 : Int32) c) (fun r1 c1 => F_Mod_lists_141 K x1 x1 r1 c1)
theorem T_Mod_lists_129 {E : x_E} {o : x_S} {Q : Int32 → x_H → Prop} {K : Int32 → x_S → Option (Int32 × x_S)} (hK : ∀ {x1 : Int32} {c : x_S} {r : Int32} {s : x_S}, K x1 c = some (r, s) → Q r (hpk o s) → Ev E m_Mod_lists 0 0 80 [some (.ref 46), some (.int x1)] [] (hpk o c) Q) {x1 : Int32} {c : x_S} {r : Int32} {s : x_S} (hF : F_Mod_lists_129 K x1 c = some (r, s)) (hQ : Q r (hpk o s)) : Ev E m_Mod_lists 0 0 129 [some (.ref 46), some (.int x1)] [] (hpk o c) Q := by
  unfold F_Mod_lists_129 at hF
  refine Ev_aload_n d_Mod_lists_129 rfl ?_
  refine g_Mod_28 rfl d_Mod_lists_130 ?_
  refine Ev_iload_n d_Mod_lists_133 rfl ?_
  refine Ev_aload_n d_Mod_lists_134 rfl ?_
  refine Ev_iconst (v := 0) d_Mod_lists_135 (by decide) ?_
  refine Ev_iload_n d_Mod_lists_136 rfl ?_
  refine Ev_iconst (v := 2) d_Mod_lists_137 (by decide) ?_
  obtain ⟨r1, c1, hC, hF⟩ := x_bind_some hF
  refine k_Mod_141 rfl d_Mod_lists_138 ⟨by decide, by decide⟩ (Nat.le_of_ble_eq_true rfl) ?_
  exact C_Mod_told hC (T_Mod_lists_141 (fun h1 h2 => hK h1 h2) hF hQ)
def F_Mod_lists_128 (K : Int32 → x_S → Option (Int32 × x_S)) (x1 s1 s2 : Int32) (c : x_S) : Option (Int32 × x_S) := x_ix s1 7 (fun j1 => F_Mod_lists_129 K x1 (x_up c 52 j1 s2))
theorem T_Mod_lists_128 {E : x_E} {o : x_S} {Q : Int32 → x_H → Prop} {K : Int32 → x_S → Option (Int32 × x_S)} (hK : ∀ {x1 : Int32} {c : x_S} {r : Int32} {s : x_S}, K x1 c = some (r, s) → Q r (hpk o s) → Ev E m_Mod_lists 0 0 80 [some (.ref 46), some (.int x1)] [] (hpk o c) Q) {x1 s1 s2 : Int32} {c : x_S} {r : Int32} {s : x_S} (hF : F_Mod_lists_128 K x1 s1 s2 c = some (r, s)) (hQ : Q r (hpk o s)) : Ev E m_Mod_lists 0 0 128 [some (.ref 46), some (.int x1)] [.int s2, .int s1, .ref 52] (hpk o c) Q := by
  unfold F_Mod_lists_128 at hF
  obtain ⟨j1, hij1, hjj1, hF⟩ := x_ix_some hF
  refine Em_iast d_Mod_lists_128 (P := 52) (by decide) rfl hij1 hjj1 ?_
  exact T_Mod_lists_129 (fun h1 h2 => hK h1 h2) hF hQ
def F_Mod_lists_116 (K : Int32 → x_S → Option (Int32 × x_S)) (x1 : Int32) (c : x_S) : Option (Int32 × x_S) := x_bind (F_Mod_told (0 : Int32) x1 (1 : Int32) c) (fun r1 c1 => F_Mod_lists_128 K x1 x1 r1 c1)
theorem T_Mod_lists_116 {E : x_E} {o : x_S} {Q : Int32 → x_H → Prop} {K : Int32 → x_S → Option (Int32 × x_S)} (hK : ∀ {x1 : Int32} {c : x_S} {r : Int32} {s : x_S}, K x1 c = some (r, s) → Q r (hpk o s) → Ev E m_Mod_lists 0 0 80 [some (.ref 46), some (.int x1)] [] (hpk o c) Q) {x1 : Int32} {c : x_S} {r : Int32} {s : x_S} (hF : F_Mod_lists_116 K x1 c = some (r, s)) (hQ : Q r (hpk o s)) : Ev E m_Mod_lists 0 0 116 [some (.ref 46), some (.int x1)] [] (hpk o c) Q := by
  unfold F_Mod_lists_116 at hF
  refine Ev_aload_n d_Mod_lists_116 rfl ?_
  refine g_Mod_25 rfl d_Mod_lists_117 ?_
  refine Ev_iload_n d_Mod_lists_120 rfl ?_
  refine Ev_aload_n d_Mod_lists_121 rfl ?_
  refine Ev_iconst (v := 0) d_Mod_lists_122 (by decide) ?_
  refine Ev_iload_n d_Mod_lists_123 rfl ?_
  refine Ev_iconst (v := 1) d_Mod_lists_124 (by decide) ?_
  obtain ⟨r1, c1, hC, hF⟩ := x_bind_some hF
  refine k_Mod_141 rfl d_Mod_lists_125 ⟨by decide, by decide⟩ (Nat.le_of_ble_eq_true rfl) ?_
  exact C_Mod_told hC (T_Mod_lists_128 (fun h1 h2 => hK h1 h2) hF hQ)
def F_Mod_lists_115 (K : Int32 → x_S → Option (Int32 × x_S)) (x1 s1 s2 : Int32) (c : x_S) : Option (Int32 × x_S) := x_ix s1 7 (fun j1 => F_Mod_lists_116 K x1 (x_up c 51 j1 s2))
theorem T_Mod_lists_115 {E : x_E} {o : x_S} {Q : Int32 → x_H → Prop} {K : Int32 → x_S → Option (Int32 × x_S)} (hK : ∀ {x1 : Int32} {c : x_S} {r : Int32} {s : x_S}, K x1 c = some (r, s) → Q r (hpk o s) → Ev E m_Mod_lists 0 0 80 [some (.ref 46), some (.int x1)] [] (hpk o c) Q) {x1 s1 s2 : Int32} {c : x_S} {r : Int32} {s : x_S} (hF : F_Mod_lists_115 K x1 s1 s2 c = some (r, s)) (hQ : Q r (hpk o s)) : Ev E m_Mod_lists 0 0 115 [some (.ref 46), some (.int x1)] [.int s2, .int s1, .ref 51] (hpk o c) Q := by
  unfold F_Mod_lists_115 at hF
  obtain ⟨j1, hij1, hjj1, hF⟩ := x_ix_some hF
  refine Em_iast d_Mod_lists_115 (P := 51) (by decide) rfl hij1 hjj1 ?_
  exact T_Mod_lists_116 (fun h1 h2 => hK h1 h2) hF hQ
def F_Mod_lists_80 : Nat → Int32 → x_S → Option (Int32 × x_S)
  | 0, _, _ => none
  | n + 1, x1, c => if (7 : Int32) ≤ x1 then (some (0, c)) else (x_ix (0 : Int32) 6 (fun j2 => if (c 60 j2) = 0 then (F_Mod_lists_173 (F_Mod_lists_80 n) x1 c) else (if (c 46 19) ≤ x1 then (F_Mod_lists_173 (F_Mod_lists_80 n) x1 c) else (x_bind (F_Mod_told (0 : Int32) x1 (0 : Int32) c) (fun r5 c5 => F_Mod_lists_115 (F_Mod_lists_80 n) x1 x1 r5 c5)))))
theorem T_Mod_lists_80 {E : x_E} {o : x_S} {Q : Int32 → x_H → Prop} : ∀ (n : Nat) {x1 : Int32} {c : x_S} {r : Int32} {s : x_S}, F_Mod_lists_80 n x1 c = some (r, s) → Q r (hpk o s) → Ev E m_Mod_lists 0 0 80 [some (.ref 46), some (.int x1)] [] (hpk o c) Q := by
  intro n
  induction n with
  | zero => intro x1 c r s hF; rw [F_Mod_lists_80] at hF; cases hF
  | succ n ih =>
    intro x1 c r s hF hQ
    rw [F_Mod_lists_80] at hF
    refine Ev_iload_n d_Mod_lists_80 rfl ?_
    refine Ev_bipush (v := (7)) d_Mod_lists_81 (by decide) ?_
    refine Ev_icmp_ge (tgt := 265) d_Mod_lists_83 rfl (fun h1 => ?_) (fun h1 => ?_)
    · rw [if_pos h1] at hF
      cases hF
      exact Ev_return d_Mod_lists_265 rfl hQ
    · rw [if_neg h1] at hF
      refine Ev_aload_n d_Mod_lists_86 rfl ?_
      refine g_Mod_54 rfl d_Mod_lists_87 ?_
      refine Ev_iconst (v := 0) d_Mod_lists_90 (by decide) ?_
      obtain ⟨j2, hij2, hjj2, hF⟩ := x_ix_some hF
      refine Em_zald d_Mod_lists_91 (P := 60) (by decide) rfl hij2 hjj2 ?_
      refine Ev_if_eq (tgt := 173) d_Mod_lists_92 rfl (fun h3 => ?_) (fun h3 => ?_)
      · rw [if_pos h3] at hF
        exact T_Mod_lists_173 (fun h1 h2 => ih h1 h2) hF hQ
      · rw [if_neg h3] at hF
        refine Ev_iload_n d_Mod_lists_95 rfl ?_
        refine Ev_aload_n d_Mod_lists_96 rfl ?_
        refine g_Mod_98 rfl d_Mod_lists_97 ?_
        refine Ev_icmp_ge (tgt := 173) d_Mod_lists_100 rfl (fun h4 => ?_) (fun h4 => ?_)
        · rw [if_pos h4] at hF
          exact T_Mod_lists_173 (fun h1 h2 => ih h1 h2) hF hQ
        · rw [if_neg h4] at hF
          refine Ev_aload_n d_Mod_lists_103 rfl ?_
          refine g_Mod_22 rfl d_Mod_lists_104 ?_
          refine Ev_iload_n d_Mod_lists_107 rfl ?_
          refine Ev_aload_n d_Mod_lists_108 rfl ?_
          refine Ev_iconst (v := 0) d_Mod_lists_109 (by decide) ?_
          refine Ev_iload_n d_Mod_lists_110 rfl ?_
          refine Ev_iconst (v := 0) d_Mod_lists_111 (by decide) ?_
          obtain ⟨r5, c5, hC, hF⟩ := x_bind_some hF
          refine k_Mod_141 rfl d_Mod_lists_112 ⟨by decide, by decide⟩ (Nat.le_of_ble_eq_true rfl) ?_
          exact C_Mod_told hC (T_Mod_lists_115 (fun h1 h2 => ih h1 h2) hF hQ)
def F_Mod_lists_78 (c : x_S) : Option (Int32 × x_S) := F_Mod_lists_80 x_fuel (0 : Int32) c
theorem T_Mod_lists_78 {E : x_E} {o : x_S} {Q : Int32 → x_H → Prop} {l1 : Option Value} {c : x_S} {r : Int32} {s : x_S} (hF : F_Mod_lists_78 c = some (r, s)) (hQ : Q r (hpk o s)) : Ev E m_Mod_lists 0 0 78 [some (.ref 46), l1] [] (hpk o c) Q := by
  unfold F_Mod_lists_78 at hF
  refine Ev_iconst (v := 0) d_Mod_lists_78 (by decide) ?_
  refine Ev_istore_n (L' := [some (.ref 46), some (.int (0 : Int32))]) d_Mod_lists_79 (by decide) rfl ?_
  exact T_Mod_lists_80 x_fuel hF hQ
def F_Mod_lists_75 (s1 : Int32) (c : x_S) : Option (Int32 × x_S) := F_Mod_lists_78 (x_up c 46 13 s1)
theorem T_Mod_lists_75 {E : x_E} {o : x_S} {Q : Int32 → x_H → Prop} {l1 : Option Value} {s1 : Int32} {c : x_S} {r : Int32} {s : x_S} (hF : F_Mod_lists_75 s1 c = some (r, s)) (hQ : Q r (hpk o s)) : Ev E m_Mod_lists 0 0 75 [some (.ref 46), l1] [.int s1, .ref 46] (hpk o c) Q := by
  unfold F_Mod_lists_75 at hF
  refine q_Mod_92 rfl d_Mod_lists_75 ?_
  exact T_Mod_lists_78 hF hQ
def F_Mod_lists_52 (c : x_S) : Option (Int32 × x_S) := x_ix (3 : Int32) 6 (fun j1 => if (c 60 j1) = 0 then (F_Mod_lists_75 (c 46 13) c) else (x_ix (3 : Int32) 6 (fun j3 => F_Mod_lists_75 (c 61 j3) c)))
theorem T_Mod_lists_52 {E : x_E} {o : x_S} {Q : Int32 → x_H → Prop} {l1 : Option Value} {c : x_S} {r : Int32} {s : x_S} (hF : F_Mod_lists_52 c = some (r, s)) (hQ : Q r (hpk o s)) : Ev E m_Mod_lists 0 0 52 [some (.ref 46), l1] [] (hpk o c) Q := by
  unfold F_Mod_lists_52 at hF
  refine Ev_aload_n d_Mod_lists_52 rfl ?_
  refine Ev_aload_n d_Mod_lists_53 rfl ?_
  refine g_Mod_54 rfl d_Mod_lists_54 ?_
  refine Ev_iconst (v := 3) d_Mod_lists_57 (by decide) ?_
  obtain ⟨j1, hij1, hjj1, hF⟩ := x_ix_some hF
  refine Em_zald d_Mod_lists_58 (P := 60) (by decide) rfl hij1 hjj1 ?_
  refine Ev_if_eq (tgt := 71) d_Mod_lists_59 rfl (fun h2 => ?_) (fun h2 => ?_)
  · rw [if_pos h2] at hF
    refine Ev_aload_n d_Mod_lists_71 rfl ?_
    refine g_Mod_92 rfl d_Mod_lists_72 ?_
    exact T_Mod_lists_75 hF hQ
  · rw [if_neg h2] at hF
    refine Ev_aload_n d_Mod_lists_62 rfl ?_
    refine g_Mod_57 rfl d_Mod_lists_63 ?_
    refine Ev_iconst (v := 3) d_Mod_lists_66 (by decide) ?_
    obtain ⟨j3, hij3, hjj3, hF⟩ := x_ix_some hF
    refine Em_iald d_Mod_lists_67 (P := 61) (by decide) rfl hij3 hjj3 ?_
    refine Ev_goto (tgt := 75) d_Mod_lists_68 rfl ?_
    exact T_Mod_lists_75 hF hQ
def F_Mod_lists_49 (s1 : Int32) (c : x_S) : Option (Int32 × x_S) := F_Mod_lists_52 (x_up c 46 16 s1)
theorem T_Mod_lists_49 {E : x_E} {o : x_S} {Q : Int32 → x_H → Prop} {l1 : Option Value} {s1 : Int32} {c : x_S} {r : Int32} {s : x_S} (hF : F_Mod_lists_49 s1 c = some (r, s)) (hQ : Q r (hpk o s)) : Ev E m_Mod_lists 0 0 49 [some (.ref 46), l1] [.int s1, .ref 46] (hpk o c) Q := by
  unfold F_Mod_lists_49 at hF
  refine q_Mod_95 rfl d_Mod_lists_49 ?_
  exact T_Mod_lists_52 hF hQ
def F_Mod_lists_26 (c : x_S) : Option (Int32 × x_S) := x_ix (2 : Int32) 6 (fun j1 => if (c 60 j1) = 0 then (F_Mod_lists_49 (c 46 16) c) else (x_ix (2 : Int32) 6 (fun j3 => F_Mod_lists_49 (c 61 j3) c)))
theorem T_Mod_lists_26 {E : x_E} {o : x_S} {Q : Int32 → x_H → Prop} {l1 : Option Value} {c : x_S} {r : Int32} {s : x_S} (hF : F_Mod_lists_26 c = some (r, s)) (hQ : Q r (hpk o s)) : Ev E m_Mod_lists 0 0 26 [some (.ref 46), l1] [] (hpk o c) Q := by
  unfold F_Mod_lists_26 at hF
  refine Ev_aload_n d_Mod_lists_26 rfl ?_
  refine Ev_aload_n d_Mod_lists_27 rfl ?_
  refine g_Mod_54 rfl d_Mod_lists_28 ?_
  refine Ev_iconst (v := 2) d_Mod_lists_31 (by decide) ?_
  obtain ⟨j1, hij1, hjj1, hF⟩ := x_ix_some hF
  refine Em_zald d_Mod_lists_32 (P := 60) (by decide) rfl hij1 hjj1 ?_
  refine Ev_if_eq (tgt := 45) d_Mod_lists_33 rfl (fun h2 => ?_) (fun h2 => ?_)
  · rw [if_pos h2] at hF
    refine Ev_aload_n d_Mod_lists_45 rfl ?_
    refine g_Mod_95 rfl d_Mod_lists_46 ?_
    exact T_Mod_lists_49 hF hQ
  · rw [if_neg h2] at hF
    refine Ev_aload_n d_Mod_lists_36 rfl ?_
    refine g_Mod_57 rfl d_Mod_lists_37 ?_
    refine Ev_iconst (v := 2) d_Mod_lists_40 (by decide) ?_
    obtain ⟨j3, hij3, hjj3, hF⟩ := x_ix_some hF
    refine Em_iald d_Mod_lists_41 (P := 61) (by decide) rfl hij3 hjj3 ?_
    refine Ev_goto (tgt := 49) d_Mod_lists_42 rfl ?_
    exact T_Mod_lists_49 hF hQ
def F_Mod_lists_23 (s1 : Int32) (c : x_S) : Option (Int32 × x_S) := F_Mod_lists_26 (x_up c 46 19 s1)
theorem T_Mod_lists_23 {E : x_E} {o : x_S} {Q : Int32 → x_H → Prop} {l1 : Option Value} {s1 : Int32} {c : x_S} {r : Int32} {s : x_S} (hF : F_Mod_lists_23 s1 c = some (r, s)) (hQ : Q r (hpk o s)) : Ev E m_Mod_lists 0 0 23 [some (.ref 46), l1] [.int s1, .ref 46] (hpk o c) Q := by
  unfold F_Mod_lists_23 at hF
  refine q_Mod_98 rfl d_Mod_lists_23 ?_
  exact T_Mod_lists_26 hF hQ
def F_Mod_lists (c : x_S) : Option (Int32 × x_S) := x_ix (0 : Int32) 6 (fun j1 => if (c 60 j1) = 0 then (F_Mod_lists_23 (c 46 19) c) else (x_ix (0 : Int32) 6 (fun j3 => F_Mod_lists_23 (c 61 j3) c)))
theorem C_Mod_lists {E : x_E} {o : x_S} {Q : Int32 → x_H → Prop} {c : x_S} {r : Int32} {s : x_S} (hF : F_Mod_lists c = some (r, s)) (hQ : Q r (hpk o s)) : Call E m_Mod_lists 0 0 [.ref 46] (hpk o c) Q := by
  refine Call_of (L := [some (.ref 46), none]) (by decide) (by intro v hv; simp only [List.mem_cons, List.not_mem_nil, or_false] at hv; rw [hv]; rfl) (Nat.le_of_ble_eq_true rfl) rfl ?_
  unfold F_Mod_lists at hF
  refine Ev_aload_n d_Mod_lists_0 rfl ?_
  refine Ev_aload_n d_Mod_lists_1 rfl ?_
  refine g_Mod_54 rfl d_Mod_lists_2 ?_
  refine Ev_iconst (v := 0) d_Mod_lists_5 (by decide) ?_
  obtain ⟨j1, hij1, hjj1, hF⟩ := x_ix_some hF
  refine Em_zald d_Mod_lists_6 (P := 60) (by decide) rfl hij1 hjj1 ?_
  refine Ev_if_eq (tgt := 19) d_Mod_lists_7 rfl (fun h2 => ?_) (fun h2 => ?_)
  · rw [if_pos h2] at hF
    refine Ev_aload_n d_Mod_lists_19 rfl ?_
    refine g_Mod_98 rfl d_Mod_lists_20 ?_
    exact T_Mod_lists_23 hF hQ
  · rw [if_neg h2] at hF
    refine Ev_aload_n d_Mod_lists_10 rfl ?_
    refine g_Mod_57 rfl d_Mod_lists_11 ?_
    refine Ev_iconst (v := 0) d_Mod_lists_14 (by decide) ?_
    obtain ⟨j3, hij3, hjj3, hF⟩ := x_ix_some hF
    refine Em_iald d_Mod_lists_15 (P := 61) (by decide) rfl hij3 hjj3 ?_
    refine Ev_goto (tgt := 23) d_Mod_lists_16 rfl ?_
    exact T_Mod_lists_23 hF hQ
def F_Mod_take_219 (c : x_S) : Option (Int32 × x_S) := some (0, c)
theorem T_Mod_take_219 {E : x_E} {o : x_S} {Q : Int32 → x_H → Prop} {l0 : Option Value} {l1 : Option Value} {l2 : Option Value} {c : x_S} {r : Int32} {s : x_S} (hF : F_Mod_take_219 c = some (r, s)) (hQ : Q r (hpk o s)) : Ev E m_Mod_take 0 0 219 [l0, l1, l2] [] (hpk o c) Q := by
  unfold F_Mod_take_219 at hF
  cases hF
  exact Ev_return d_Mod_take_219 rfl hQ
def F_Mod_take_215 (c : x_S) : Option (Int32 × x_S) := x_bind (F_Mod_enters c) (fun _ c1 => F_Mod_take_219 c1)
theorem T_Mod_take_215 {E : x_E} {o : x_S} {Q : Int32 → x_H → Prop} {l1 : Option Value} {l2 : Option Value} {c : x_S} {r : Int32} {s : x_S} (hF : F_Mod_take_215 c = some (r, s)) (hQ : Q r (hpk o s)) : Ev E m_Mod_take 0 0 215 [some (.ref 46), l1, l2] [] (hpk o c) Q := by
  unfold F_Mod_take_215 at hF
  refine Ev_aload_n d_Mod_take_215 rfl ?_
  obtain ⟨r1, c1, hC, hF⟩ := x_bind_some hF
  refine k_Mod_186 rfl d_Mod_take_216 ⟨by decide, by decide⟩ (Nat.le_of_ble_eq_true rfl) ?_
  exact C_Mod_enters hC (T_Mod_take_219 hF hQ)
def F_Mod_take_212 (s0 : Int32) (c : x_S) : Option (Int32 × x_S) := if s0 = 0 then (F_Mod_take_219 c) else (F_Mod_take_215 c)
theorem T_Mod_take_212 {E : x_E} {o : x_S} {Q : Int32 → x_H → Prop} {l1 : Option Value} {l2 : Option Value} {s0 : Int32} {c : x_S} {r : Int32} {s : x_S} (hF : F_Mod_take_212 s0 c = some (r, s)) (hQ : Q r (hpk o s)) : Ev E m_Mod_take 0 0 212 [some (.ref 46), l1, l2] [.int s0] (hpk o c) Q := by
  unfold F_Mod_take_212 at hF
  refine Ev_if_eq (tgt := 219) d_Mod_take_212 rfl (fun h1 => ?_) (fun h1 => ?_)
  · rw [if_pos h1] at hF
    exact T_Mod_take_219 hF hQ
  · rw [if_neg h1] at hF
    exact T_Mod_take_215 hF hQ
def F_Mod_take_188 (x1 : Int32) (c : x_S) : Option (Int32 × x_S) := if x1 = (3 : Int32) then (if (c 46 13) ≤ 0 then (F_Mod_take_219 c) else (if (c 46 6) = (1 : Int32) then (F_Mod_take_215 c) else (x_bind (F_Mod_watched c) (fun r4 c4 => F_Mod_take_212 r4 c4)))) else (F_Mod_take_219 c)
theorem T_Mod_take_188 {E : x_E} {o : x_S} {Q : Int32 → x_H → Prop} {l2 : Option Value} {x1 : Int32} {c : x_S} {r : Int32} {s : x_S} (hF : F_Mod_take_188 x1 c = some (r, s)) (hQ : Q r (hpk o s)) : Ev E m_Mod_take 0 0 188 [some (.ref 46), some (.int x1), l2] [] (hpk o c) Q := by
  unfold F_Mod_take_188 at hF
  refine Ev_iload_n d_Mod_take_188 rfl ?_
  refine Ev_iconst (v := 3) d_Mod_take_189 (by decide) ?_
  refine Ev_icmp_ne (tgt := 219) d_Mod_take_190 rfl (fun h1 => ?_) (fun h1 => ?_)
  · rw [if_neg h1] at hF
    exact T_Mod_take_219 hF hQ
  · rw [if_pos h1] at hF
    refine Ev_aload_n d_Mod_take_193 rfl ?_
    refine g_Mod_92 rfl d_Mod_take_194 ?_
    refine Ev_if_le (tgt := 219) d_Mod_take_197 rfl (fun h2 => ?_) (fun h2 => ?_)
    · rw [if_pos h2] at hF
      exact T_Mod_take_219 hF hQ
    · rw [if_neg h2] at hF
      refine Ev_aload_n d_Mod_take_200 rfl ?_
      refine g_Mod_81 rfl d_Mod_take_201 ?_
      refine Ev_iconst (v := 1) d_Mod_take_204 (by decide) ?_
      refine Ev_icmp_eq (tgt := 215) d_Mod_take_205 rfl (fun h3 => ?_) (fun h3 => ?_)
      · rw [if_pos h3] at hF
        exact T_Mod_take_215 hF hQ
      · rw [if_neg h3] at hF
        refine Ev_aload_n d_Mod_take_208 rfl ?_
        obtain ⟨r4, c4, hC, hF⟩ := x_bind_some hF
        refine k_Mod_154 rfl d_Mod_take_209 ⟨by decide, by decide⟩ (Nat.le_of_ble_eq_true rfl) ?_
        exact C_Mod_watched hC (T_Mod_take_212 hF hQ)
def F_Mod_take_185 (x1 s1 : Int32) (c : x_S) : Option (Int32 × x_S) := F_Mod_take_188 x1 (x_up c 46 11 s1)
theorem T_Mod_take_185 {E : x_E} {o : x_S} {Q : Int32 → x_H → Prop} {l2 : Option Value} {x1 s1 : Int32} {c : x_S} {r : Int32} {s : x_S} (hF : F_Mod_take_185 x1 s1 c = some (r, s)) (hQ : Q r (hpk o s)) : Ev E m_Mod_take 0 0 185 [some (.ref 46), some (.int x1), l2] [.int s1, .ref 46] (hpk o c) Q := by
  unfold F_Mod_take_185 at hF
  refine q_Mod_108 rfl d_Mod_take_185 ?_
  exact T_Mod_take_188 hF hQ
def F_Mod_take_177 (x1 : Int32) (c : x_S) : Option (Int32 × x_S) := x_bind (F_Mod_told (1 : Int32) (0 : Int32) (2 : Int32) c) (fun r1 c1 => F_Mod_take_185 x1 r1 c1)
theorem T_Mod_take_177 {E : x_E} {o : x_S} {Q : Int32 → x_H → Prop} {l2 : Option Value} {x1 : Int32} {c : x_S} {r : Int32} {s : x_S} (hF : F_Mod_take_177 x1 c = some (r, s)) (hQ : Q r (hpk o s)) : Ev E m_Mod_take 0 0 177 [some (.ref 46), some (.int x1), l2] [] (hpk o c) Q := by
  unfold F_Mod_take_177 at hF
  refine Ev_aload_n d_Mod_take_177 rfl ?_
  refine Ev_aload_n d_Mod_take_178 rfl ?_
  refine Ev_iconst (v := 1) d_Mod_take_179 (by decide) ?_
  refine Ev_iconst (v := 0) d_Mod_take_180 (by decide) ?_
  refine Ev_iconst (v := 2) d_Mod_take_181 (by decide) ?_
  obtain ⟨r1, c1, hC, hF⟩ := x_bind_some hF
  refine k_Mod_141 rfl d_Mod_take_182 ⟨by decide, by decide⟩ (Nat.le_of_ble_eq_true rfl) ?_
  exact C_Mod_told hC (T_Mod_take_185 hF hQ)
def F_Mod_take_174 (x1 s1 : Int32) (c : x_S) : Option (Int32 × x_S) := F_Mod_take_177 x1 (x_up c 46 10 s1)
theorem T_Mod_take_174 {E : x_E} {o : x_S} {Q : Int32 → x_H → Prop} {l2 : Option Value} {x1 s1 : Int32} {c : x_S} {r : Int32} {s : x_S} (hF : F_Mod_take_174 x1 s1 c = some (r, s)) (hQ : Q r (hpk o s)) : Ev E m_Mod_take 0 0 174 [some (.ref 46), some (.int x1), l2] [.int s1, .ref 46] (hpk o c) Q := by
  unfold F_Mod_take_174 at hF
  refine q_Mod_183 rfl d_Mod_take_174 ?_
  exact T_Mod_take_177 hF hQ
def F_Mod_take_166 (x1 : Int32) (c : x_S) : Option (Int32 × x_S) := x_bind (F_Mod_told (1 : Int32) (0 : Int32) (1 : Int32) c) (fun r1 c1 => F_Mod_take_174 x1 r1 c1)
theorem T_Mod_take_166 {E : x_E} {o : x_S} {Q : Int32 → x_H → Prop} {l2 : Option Value} {x1 : Int32} {c : x_S} {r : Int32} {s : x_S} (hF : F_Mod_take_166 x1 c = some (r, s)) (hQ : Q r (hpk o s)) : Ev E m_Mod_take 0 0 166 [some (.ref 46), some (.int x1), l2] [] (hpk o c) Q := by
  unfold F_Mod_take_166 at hF
  refine Ev_aload_n d_Mod_take_166 rfl ?_
  refine Ev_aload_n d_Mod_take_167 rfl ?_
  refine Ev_iconst (v := 1) d_Mod_take_168 (by decide) ?_
  refine Ev_iconst (v := 0) d_Mod_take_169 (by decide) ?_
  refine Ev_iconst (v := 1) d_Mod_take_170 (by decide) ?_
  obtain ⟨r1, c1, hC, hF⟩ := x_bind_some hF
  refine k_Mod_141 rfl d_Mod_take_171 ⟨by decide, by decide⟩ (Nat.le_of_ble_eq_true rfl) ?_
  exact C_Mod_told hC (T_Mod_take_174 hF hQ)
def F_Mod_take_163 (x1 s1 : Int32) (c : x_S) : Option (Int32 × x_S) := F_Mod_take_166 x1 (x_up c 46 9 s1)
theorem T_Mod_take_163 {E : x_E} {o : x_S} {Q : Int32 → x_H → Prop} {l2 : Option Value} {x1 s1 : Int32} {c : x_S} {r : Int32} {s : x_S} (hF : F_Mod_take_163 x1 s1 c = some (r, s)) (hQ : Q r (hpk o s)) : Ev E m_Mod_take 0 0 163 [some (.ref 46), some (.int x1), l2] [.int s1, .ref 46] (hpk o c) Q := by
  unfold F_Mod_take_163 at hF
  refine q_Mod_151 rfl d_Mod_take_163 ?_
  exact T_Mod_take_166 hF hQ
def F_Mod_take_155 (x1 : Int32) (c : x_S) : Option (Int32 × x_S) := x_bind (F_Mod_told (1 : Int32) (0 : Int32) (0 : Int32) c) (fun r1 c1 => F_Mod_take_163 x1 r1 c1)
theorem T_Mod_take_155 {E : x_E} {o : x_S} {Q : Int32 → x_H → Prop} {l2 : Option Value} {x1 : Int32} {c : x_S} {r : Int32} {s : x_S} (hF : F_Mod_take_155 x1 c = some (r, s)) (hQ : Q r (hpk o s)) : Ev E m_Mod_take 0 0 155 [some (.ref 46), some (.int x1), l2] [] (hpk o c) Q := by
  unfold F_Mod_take_155 at hF
  refine Ev_aload_n d_Mod_take_155 rfl ?_
  refine Ev_aload_n d_Mod_take_156 rfl ?_
  refine Ev_iconst (v := 1) d_Mod_take_157 (by decide) ?_
  refine Ev_iconst (v := 0) d_Mod_take_158 (by decide) ?_
  refine Ev_iconst (v := 0) d_Mod_take_159 (by decide) ?_
  obtain ⟨r1, c1, hC, hF⟩ := x_bind_some hF
  refine k_Mod_141 rfl d_Mod_take_160 ⟨by decide, by decide⟩ (Nat.le_of_ble_eq_true rfl) ?_
  exact C_Mod_told hC (T_Mod_take_163 hF hQ)
def F_Mod_take_141 (x1 : Int32) (c : x_S) : Option (Int32 × x_S) := x_ix (1 : Int32) 6 (fun j1 => if (c 60 j1) = 0 then (F_Mod_take_188 x1 c) else (F_Mod_take_155 x1 (x_up c 46 8 (1 : Int32))))
theorem T_Mod_take_141 {E : x_E} {o : x_S} {Q : Int32 → x_H → Prop} {l2 : Option Value} {x1 : Int32} {c : x_S} {r : Int32} {s : x_S} (hF : F_Mod_take_141 x1 c = some (r, s)) (hQ : Q r (hpk o s)) : Ev E m_Mod_take 0 0 141 [some (.ref 46), some (.int x1), l2] [] (hpk o c) Q := by
  unfold F_Mod_take_141 at hF
  refine Ev_aload_n d_Mod_take_141 rfl ?_
  refine g_Mod_54 rfl d_Mod_take_142 ?_
  refine Ev_iconst (v := 1) d_Mod_take_145 (by decide) ?_
  obtain ⟨j1, hij1, hjj1, hF⟩ := x_ix_some hF
  refine Em_zald d_Mod_take_146 (P := 60) (by decide) rfl hij1 hjj1 ?_
  refine Ev_if_eq (tgt := 188) d_Mod_take_147 rfl (fun h2 => ?_) (fun h2 => ?_)
  · rw [if_pos h2] at hF
    exact T_Mod_take_188 hF hQ
  · rw [if_neg h2] at hF
    refine Ev_aload_n d_Mod_take_150 rfl ?_
    refine Ev_iconst (v := 1) d_Mod_take_151 (by decide) ?_
    refine q_Mod_88 rfl d_Mod_take_152 (Or.inr rfl) ?_
    exact T_Mod_take_155 hF hQ
def F_Mod_take_137 (x1 : Int32) (c : x_S) : Option (Int32 × x_S) := x_bind (F_Mod_lists c) (fun _ c1 => F_Mod_take_141 x1 c1)
theorem T_Mod_take_137 {E : x_E} {o : x_S} {Q : Int32 → x_H → Prop} {l2 : Option Value} {x1 : Int32} {c : x_S} {r : Int32} {s : x_S} (hF : F_Mod_take_137 x1 c = some (r, s)) (hQ : Q r (hpk o s)) : Ev E m_Mod_take 0 0 137 [some (.ref 46), some (.int x1), l2] [] (hpk o c) Q := by
  unfold F_Mod_take_137 at hF
  refine Ev_aload_n d_Mod_take_137 rfl ?_
  obtain ⟨r1, c1, hC, hF⟩ := x_bind_some hF
  refine k_Mod_180 rfl d_Mod_take_138 ⟨by decide, by decide⟩ (Nat.le_of_ble_eq_true rfl) ?_
  exact C_Mod_lists hC (T_Mod_take_141 hF hQ)
def F_Mod_take_127 (x1 : Int32) (c : x_S) : Option (Int32 × x_S) := F_Mod_take_137 x1 (x_up c 46 24 ((c 46 24) + (1 : Int32)))
theorem T_Mod_take_127 {E : x_E} {o : x_S} {Q : Int32 → x_H → Prop} {l2 : Option Value} {x1 : Int32} {c : x_S} {r : Int32} {s : x_S} (hF : F_Mod_take_127 x1 c = some (r, s)) (hQ : Q r (hpk o s)) : Ev E m_Mod_take 0 0 127 [some (.ref 46), some (.int x1), l2] [] (hpk o c) Q := by
  unfold F_Mod_take_127 at hF
  refine Ev_aload_n d_Mod_take_127 rfl ?_
  refine Ev_dup d_Mod_take_128 rfl ?_
  refine g_Mod_171 rfl d_Mod_take_129 ?_
  refine Ev_iconst (v := 1) d_Mod_take_132 (by decide) ?_
  refine Ev_iadd d_Mod_take_133 ?_
  refine q_Mod_171 rfl d_Mod_take_134 ?_
  exact T_Mod_take_137 hF hQ
def F_Mod_take_126 (x1 s1 s2 : Int32) (c : x_S) : Option (Int32 × x_S) := x_ix s1 6 (fun j1 => F_Mod_take_127 x1 (x_up c 58 j1 s2))
theorem T_Mod_take_126 {E : x_E} {o : x_S} {Q : Int32 → x_H → Prop} {l2 : Option Value} {x1 s1 s2 : Int32} {c : x_S} {r : Int32} {s : x_S} (hF : F_Mod_take_126 x1 s1 s2 c = some (r, s)) (hQ : Q r (hpk o s)) : Ev E m_Mod_take 0 0 126 [some (.ref 46), some (.int x1), l2] [.int s2, .int s1, .ref 58] (hpk o c) Q := by
  unfold F_Mod_take_126 at hF
  obtain ⟨j1, hij1, hjj1, hF⟩ := x_ix_some hF
  refine Em_iast d_Mod_take_126 (P := 58) (by decide) rfl hij1 hjj1 ?_
  exact T_Mod_take_127 hF hQ
def F_Mod_take_111 (x1 : Int32) (c : x_S) : Option (Int32 × x_S) := x_bind (F_Mod_told (4 : Int32) (1 : Int32) (0 : Int32) c) (fun r1 c1 => F_Mod_take_126 x1 (c 46 24) r1 c1)
theorem T_Mod_take_111 {E : x_E} {o : x_S} {Q : Int32 → x_H → Prop} {l2 : Option Value} {x1 : Int32} {c : x_S} {r : Int32} {s : x_S} (hF : F_Mod_take_111 x1 c = some (r, s)) (hQ : Q r (hpk o s)) : Ev E m_Mod_take 0 0 111 [some (.ref 46), some (.int x1), l2] [] (hpk o c) Q := by
  unfold F_Mod_take_111 at hF
  refine Ev_aload_n d_Mod_take_111 rfl ?_
  refine g_Mod_44 rfl d_Mod_take_112 ?_
  refine Ev_aload_n d_Mod_take_115 rfl ?_
  refine g_Mod_171 rfl d_Mod_take_116 ?_
  refine Ev_aload_n d_Mod_take_119 rfl ?_
  refine Ev_iconst (v := 4) d_Mod_take_120 (by decide) ?_
  refine Ev_iconst (v := 1) d_Mod_take_121 (by decide) ?_
  refine Ev_iconst (v := 0) d_Mod_take_122 (by decide) ?_
  obtain ⟨r1, c1, hC, hF⟩ := x_bind_some hF
  refine k_Mod_141 rfl d_Mod_take_123 ⟨by decide, by decide⟩ (Nat.le_of_ble_eq_true rfl) ?_
  exact C_Mod_told hC (T_Mod_take_126 hF hQ)
def F_Mod_take_110 (x1 s1 s2 : Int32) (c : x_S) : Option (Int32 × x_S) := x_ix s1 6 (fun j1 => F_Mod_take_111 x1 (x_up c 57 j1 s2))
theorem T_Mod_take_110 {E : x_E} {o : x_S} {Q : Int32 → x_H → Prop} {l2 : Option Value} {x1 s1 s2 : Int32} {c : x_S} {r : Int32} {s : x_S} (hF : F_Mod_take_110 x1 s1 s2 c = some (r, s)) (hQ : Q r (hpk o s)) : Ev E m_Mod_take 0 0 110 [some (.ref 46), some (.int x1), l2] [.int s2, .int s1, .ref 57] (hpk o c) Q := by
  unfold F_Mod_take_110 at hF
  obtain ⟨j1, hij1, hjj1, hF⟩ := x_ix_some hF
  refine Em_iast d_Mod_take_110 (P := 57) (by decide) rfl hij1 hjj1 ?_
  exact T_Mod_take_111 hF hQ
def F_Mod_take_95 (x1 : Int32) (c : x_S) : Option (Int32 × x_S) := x_bind (F_Mod_told (4 : Int32) (0 : Int32) (2 : Int32) c) (fun r1 c1 => F_Mod_take_110 x1 (c 46 24) r1 c1)
theorem T_Mod_take_95 {E : x_E} {o : x_S} {Q : Int32 → x_H → Prop} {l2 : Option Value} {x1 : Int32} {c : x_S} {r : Int32} {s : x_S} (hF : F_Mod_take_95 x1 c = some (r, s)) (hQ : Q r (hpk o s)) : Ev E m_Mod_take 0 0 95 [some (.ref 46), some (.int x1), l2] [] (hpk o c) Q := by
  unfold F_Mod_take_95 at hF
  refine Ev_aload_n d_Mod_take_95 rfl ?_
  refine g_Mod_41 rfl d_Mod_take_96 ?_
  refine Ev_aload_n d_Mod_take_99 rfl ?_
  refine g_Mod_171 rfl d_Mod_take_100 ?_
  refine Ev_aload_n d_Mod_take_103 rfl ?_
  refine Ev_iconst (v := 4) d_Mod_take_104 (by decide) ?_
  refine Ev_iconst (v := 0) d_Mod_take_105 (by decide) ?_
  refine Ev_iconst (v := 2) d_Mod_take_106 (by decide) ?_
  obtain ⟨r1, c1, hC, hF⟩ := x_bind_some hF
  refine k_Mod_141 rfl d_Mod_take_107 ⟨by decide, by decide⟩ (Nat.le_of_ble_eq_true rfl) ?_
  exact C_Mod_told hC (T_Mod_take_110 hF hQ)
def F_Mod_take_94 (x1 s1 s2 : Int32) (c : x_S) : Option (Int32 × x_S) := x_ix s1 6 (fun j1 => F_Mod_take_95 x1 (x_up c 56 j1 s2))
theorem T_Mod_take_94 {E : x_E} {o : x_S} {Q : Int32 → x_H → Prop} {l2 : Option Value} {x1 s1 s2 : Int32} {c : x_S} {r : Int32} {s : x_S} (hF : F_Mod_take_94 x1 s1 s2 c = some (r, s)) (hQ : Q r (hpk o s)) : Ev E m_Mod_take 0 0 94 [some (.ref 46), some (.int x1), l2] [.int s2, .int s1, .ref 56] (hpk o c) Q := by
  unfold F_Mod_take_94 at hF
  obtain ⟨j1, hij1, hjj1, hF⟩ := x_ix_some hF
  refine Em_iast d_Mod_take_94 (P := 56) (by decide) rfl hij1 hjj1 ?_
  exact T_Mod_take_95 hF hQ
def F_Mod_take_79 (x1 : Int32) (c : x_S) : Option (Int32 × x_S) := x_bind (F_Mod_told (4 : Int32) (0 : Int32) (1 : Int32) c) (fun r1 c1 => F_Mod_take_94 x1 (c 46 24) r1 c1)
theorem T_Mod_take_79 {E : x_E} {o : x_S} {Q : Int32 → x_H → Prop} {l2 : Option Value} {x1 : Int32} {c : x_S} {r : Int32} {s : x_S} (hF : F_Mod_take_79 x1 c = some (r, s)) (hQ : Q r (hpk o s)) : Ev E m_Mod_take 0 0 79 [some (.ref 46), some (.int x1), l2] [] (hpk o c) Q := by
  unfold F_Mod_take_79 at hF
  refine Ev_aload_n d_Mod_take_79 rfl ?_
  refine g_Mod_38 rfl d_Mod_take_80 ?_
  refine Ev_aload_n d_Mod_take_83 rfl ?_
  refine g_Mod_171 rfl d_Mod_take_84 ?_
  refine Ev_aload_n d_Mod_take_87 rfl ?_
  refine Ev_iconst (v := 4) d_Mod_take_88 (by decide) ?_
  refine Ev_iconst (v := 0) d_Mod_take_89 (by decide) ?_
  refine Ev_iconst (v := 1) d_Mod_take_90 (by decide) ?_
  obtain ⟨r1, c1, hC, hF⟩ := x_bind_some hF
  refine k_Mod_141 rfl d_Mod_take_91 ⟨by decide, by decide⟩ (Nat.le_of_ble_eq_true rfl) ?_
  exact C_Mod_told hC (T_Mod_take_94 hF hQ)
def F_Mod_take_78 (x1 s1 s2 : Int32) (c : x_S) : Option (Int32 × x_S) := x_ix s1 6 (fun j1 => F_Mod_take_79 x1 (x_up c 55 j1 s2))
theorem T_Mod_take_78 {E : x_E} {o : x_S} {Q : Int32 → x_H → Prop} {l2 : Option Value} {x1 s1 s2 : Int32} {c : x_S} {r : Int32} {s : x_S} (hF : F_Mod_take_78 x1 s1 s2 c = some (r, s)) (hQ : Q r (hpk o s)) : Ev E m_Mod_take 0 0 78 [some (.ref 46), some (.int x1), l2] [.int s2, .int s1, .ref 55] (hpk o c) Q := by
  unfold F_Mod_take_78 at hF
  obtain ⟨j1, hij1, hjj1, hF⟩ := x_ix_some hF
  refine Em_iast d_Mod_take_78 (P := 55) (by decide) rfl hij1 hjj1 ?_
  exact T_Mod_take_79 hF hQ
def F_Mod_take_63 (x1 : Int32) (c : x_S) : Option (Int32 × x_S) := x_bind (F_Mod_told (4 : Int32) (0 : Int32) (0 : Int32) c) (fun r1 c1 => F_Mod_take_78 x1 (c 46 24) r1 c1)
theorem T_Mod_take_63 {E : x_E} {o : x_S} {Q : Int32 → x_H → Prop} {l2 : Option Value} {x1 : Int32} {c : x_S} {r : Int32} {s : x_S} (hF : F_Mod_take_63 x1 c = some (r, s)) (hQ : Q r (hpk o s)) : Ev E m_Mod_take 0 0 63 [some (.ref 46), some (.int x1), l2] [] (hpk o c) Q := by
  unfold F_Mod_take_63 at hF
  refine Ev_aload_n d_Mod_take_63 rfl ?_
  refine g_Mod_35 rfl d_Mod_take_64 ?_
  refine Ev_aload_n d_Mod_take_67 rfl ?_
  refine g_Mod_171 rfl d_Mod_take_68 ?_
  refine Ev_aload_n d_Mod_take_71 rfl ?_
  refine Ev_iconst (v := 4) d_Mod_take_72 (by decide) ?_
  refine Ev_iconst (v := 0) d_Mod_take_73 (by decide) ?_
  refine Ev_iconst (v := 0) d_Mod_take_74 (by decide) ?_
  obtain ⟨r1, c1, hC, hF⟩ := x_bind_some hF
  refine k_Mod_141 rfl d_Mod_take_75 ⟨by decide, by decide⟩ (Nat.le_of_ble_eq_true rfl) ?_
  exact C_Mod_told hC (T_Mod_take_78 hF hQ)
def F_Mod_take_60 (x1 s1 : Int32) (c : x_S) : Option (Int32 × x_S) := x_bind (F_Mod_drop s1 c) (fun _ c1 => F_Mod_take_63 x1 c1)
theorem T_Mod_take_60 {E : x_E} {o : x_S} {Q : Int32 → x_H → Prop} {l2 : Option Value} {x1 s1 : Int32} {c : x_S} {r : Int32} {s : x_S} (hF : F_Mod_take_60 x1 s1 c = some (r, s)) (hQ : Q r (hpk o s)) : Ev E m_Mod_take 0 0 60 [some (.ref 46), some (.int x1), l2] [.int s1, .ref 46] (hpk o c) Q := by
  unfold F_Mod_take_60 at hF
  obtain ⟨r1, c1, hC, hF⟩ := x_bind_some hF
  refine k_Mod_177 rfl d_Mod_take_60 ⟨by decide, by decide⟩ (Nat.le_of_ble_eq_true rfl) ?_
  exact C_Mod_drop hC (T_Mod_take_63 hF hQ)
def F_Mod_take_43 (x1 : Int32) (c : x_S) : Option (Int32 × x_S) := x_ix (4 : Int32) 6 (fun j1 => if (c 60 j1) = 0 then (F_Mod_take_137 x1 c) else (x_bind (F_Mod_told (4 : Int32) (0 : Int32) (0 : Int32) c) (fun r3 c3 => F_Mod_take_60 x1 r3 c3)))
theorem T_Mod_take_43 {E : x_E} {o : x_S} {Q : Int32 → x_H → Prop} {l2 : Option Value} {x1 : Int32} {c : x_S} {r : Int32} {s : x_S} (hF : F_Mod_take_43 x1 c = some (r, s)) (hQ : Q r (hpk o s)) : Ev E m_Mod_take 0 0 43 [some (.ref 46), some (.int x1), l2] [] (hpk o c) Q := by
  unfold F_Mod_take_43 at hF
  refine Ev_aload_n d_Mod_take_43 rfl ?_
  refine g_Mod_54 rfl d_Mod_take_44 ?_
  refine Ev_iconst (v := 4) d_Mod_take_47 (by decide) ?_
  obtain ⟨j1, hij1, hjj1, hF⟩ := x_ix_some hF
  refine Em_zald d_Mod_take_48 (P := 60) (by decide) rfl hij1 hjj1 ?_
  refine Ev_if_eq (tgt := 137) d_Mod_take_49 rfl (fun h2 => ?_) (fun h2 => ?_)
  · rw [if_pos h2] at hF
    exact T_Mod_take_137 hF hQ
  · rw [if_neg h2] at hF
    refine Ev_aload_n d_Mod_take_52 rfl ?_
    refine Ev_aload_n d_Mod_take_53 rfl ?_
    refine Ev_iconst (v := 4) d_Mod_take_54 (by decide) ?_
    refine Ev_iconst (v := 0) d_Mod_take_55 (by decide) ?_
    refine Ev_iconst (v := 0) d_Mod_take_56 (by decide) ?_
    obtain ⟨r3, c3, hC, hF⟩ := x_bind_some hF
    refine k_Mod_141 rfl d_Mod_take_57 ⟨by decide, by decide⟩ (Nat.le_of_ble_eq_true rfl) ?_
    exact C_Mod_told hC (T_Mod_take_60 hF hQ)
def F_Mod_take_40 (x1 s1 : Int32) (c : x_S) : Option (Int32 × x_S) := x_bind (F_Mod_drop s1 c) (fun _ c1 => F_Mod_take_43 x1 c1)
theorem T_Mod_take_40 {E : x_E} {o : x_S} {Q : Int32 → x_H → Prop} {l2 : Option Value} {x1 s1 : Int32} {c : x_S} {r : Int32} {s : x_S} (hF : F_Mod_take_40 x1 s1 c = some (r, s)) (hQ : Q r (hpk o s)) : Ev E m_Mod_take 0 0 40 [some (.ref 46), some (.int x1), l2] [.int s1, .ref 46] (hpk o c) Q := by
  unfold F_Mod_take_40 at hF
  obtain ⟨r1, c1, hC, hF⟩ := x_bind_some hF
  refine k_Mod_177 rfl d_Mod_take_40 ⟨by decide, by decide⟩ (Nat.le_of_ble_eq_true rfl) ?_
  exact C_Mod_drop hC (T_Mod_take_43 hF hQ)
def F_Mod_take_22 (c : x_S) : Option (Int32 × x_S) := some (0, c)
theorem T_Mod_take_22 {E : x_E} {o : x_S} {Q : Int32 → x_H → Prop} {l0 : Option Value} {l1 : Option Value} {l2 : Option Value} {c : x_S} {r : Int32} {s : x_S} (hF : F_Mod_take_22 c = some (r, s)) (hQ : Q r (hpk o s)) : Ev E m_Mod_take 0 0 22 [l0, l1, l2] [] (hpk o c) Q := by
  unfold F_Mod_take_22 at hF
  cases hF
  exact Ev_return d_Mod_take_22 rfl hQ
def F_Mod_take_10 (c : x_S) : Option (Int32 × x_S) := some (0, c)
theorem T_Mod_take_10 {E : x_E} {o : x_S} {Q : Int32 → x_H → Prop} {l0 : Option Value} {l1 : Option Value} {l2 : Option Value} {c : x_S} {r : Int32} {s : x_S} (hF : F_Mod_take_10 c = some (r, s)) (hQ : Q r (hpk o s)) : Ev E m_Mod_take 0 0 10 [l0, l1, l2] [] (hpk o c) Q := by
  unfold F_Mod_take_10 at hF
  cases hF
  exact Ev_return d_Mod_take_10 rfl hQ
def F_Mod_take (x1 x2 : Int32) (c : x_S) : Option (Int32 × x_S) := if x1 = (16 : Int32) then (x_bind (F_Mod_trips c) (fun _ c6 => F_Mod_take_10 c6)) else (if x1 = (9 : Int32) then (F_Mod_take_22 (x_up c 46 9 x2)) else (x_ix (5 : Int32) 6 (fun j3 => if (c 60 j3) = 0 then (F_Mod_take_43 x1 c) else (x_bind (F_Mod_told (5 : Int32) (0 : Int32) (0 : Int32) c) (fun r5 c5 => F_Mod_take_40 x1 r5 c5)))))
theorem C_Mod_take {E : x_E} {o : x_S} {Q : Int32 → x_H → Prop} {x1 x2 : Int32} {c : x_S} {r : Int32} {s : x_S} (hF : F_Mod_take x1 x2 c = some (r, s)) (hQ : Q r (hpk o s)) : Call E m_Mod_take 0 0 [.ref 46, .int x1, .int x2] (hpk o c) Q := by
  refine Call_of (L := [some (.ref 46), some (.int x1), some (.int x2)]) (by decide) (by intro v hv; simp only [List.mem_cons, List.not_mem_nil, or_false] at hv; rcases hv with rfl | rfl | rfl <;> rfl) (Nat.le_of_ble_eq_true rfl) rfl ?_
  unfold F_Mod_take at hF
  refine Ev_iload_n d_Mod_take_0 rfl ?_
  refine Ev_bipush (v := (16)) d_Mod_take_1 (by decide) ?_
  refine Ev_icmp_ne (tgt := 11) d_Mod_take_3 rfl (fun h1 => ?_) (fun h1 => ?_)
  · rw [if_neg h1] at hF
    refine Ev_iload_n d_Mod_take_11 rfl ?_
    refine Ev_bipush (v := (9)) d_Mod_take_12 (by decide) ?_
    refine Ev_icmp_ne (tgt := 23) d_Mod_take_14 rfl (fun h2 => ?_) (fun h2 => ?_)
    · rw [if_neg h2] at hF
      refine Ev_aload_n d_Mod_take_23 rfl ?_
      refine g_Mod_54 rfl d_Mod_take_24 ?_
      refine Ev_iconst (v := 5) d_Mod_take_27 (by decide) ?_
      obtain ⟨j3, hij3, hjj3, hF⟩ := x_ix_some hF
      refine Em_zald d_Mod_take_28 (P := 60) (by decide) rfl hij3 hjj3 ?_
      refine Ev_if_eq (tgt := 43) d_Mod_take_29 rfl (fun h4 => ?_) (fun h4 => ?_)
      · rw [if_pos h4] at hF
        exact T_Mod_take_43 hF hQ
      · rw [if_neg h4] at hF
        refine Ev_aload_n d_Mod_take_32 rfl ?_
        refine Ev_aload_n d_Mod_take_33 rfl ?_
        refine Ev_iconst (v := 5) d_Mod_take_34 (by decide) ?_
        refine Ev_iconst (v := 0) d_Mod_take_35 (by decide) ?_
        refine Ev_iconst (v := 0) d_Mod_take_36 (by decide) ?_
        obtain ⟨r5, c5, hC, hF⟩ := x_bind_some hF
        refine k_Mod_141 rfl d_Mod_take_37 ⟨by decide, by decide⟩ (Nat.le_of_ble_eq_true rfl) ?_
        exact C_Mod_told hC (T_Mod_take_40 hF hQ)
    · rw [if_pos h2] at hF
      refine Ev_aload_n d_Mod_take_17 rfl ?_
      refine Ev_iload_n d_Mod_take_18 rfl ?_
      refine q_Mod_151 rfl d_Mod_take_19 ?_
      exact T_Mod_take_22 hF hQ
  · rw [if_pos h1] at hF
    refine Ev_aload_n d_Mod_take_6 rfl ?_
    obtain ⟨r6, c6, hC, hF⟩ := x_bind_some hF
    refine k_Mod_174 rfl d_Mod_take_7 ⟨by decide, by decide⟩ (Nat.le_of_ble_eq_true rfl) ?_
    exact C_Mod_trips hC (T_Mod_take_10 hF hQ)
def F_Mod_message_429 (c : x_S) : Option (Int32 × x_S) := some ((c 46 38), c)
theorem T_Mod_message_429 {E : x_E} {o : x_S} {Q : Int32 → x_H → Prop} {l1 : Option Value} {l2 : Option Value} {l3 : Option Value} {l4 : Option Value} {c : x_S} {r : Int32} {s : x_S} (hF : F_Mod_message_429 c = some (r, s)) (hQ : Q r (hpk o s)) : Ev E m_Mod_message 0 0 429 [some (.ref 46), l1, l2, l3, l4] [] (hpk o c) Q := by
  unfold F_Mod_message_429 at hF
  refine Ev_aload_n d_Mod_message_429 rfl ?_
  refine g_Mod_117 rfl d_Mod_message_430 ?_
  cases hF
  exact Ev_ireturn d_Mod_message_433 rfl hQ
def F_Mod_message_422 (x1 x4 : Int32) (c : x_S) : Option (Int32 × x_S) := x_bind (F_Mod_take x1 x4 c) (fun _ c1 => F_Mod_message_429 c1)
theorem T_Mod_message_422 {E : x_E} {o : x_S} {Q : Int32 → x_H → Prop} {l2 : Option Value} {l3 : Option Value} {x1 x4 : Int32} {c : x_S} {r : Int32} {s : x_S} (hF : F_Mod_message_422 x1 x4 c = some (r, s)) (hQ : Q r (hpk o s)) : Ev E m_Mod_message 0 0 422 [some (.ref 46), some (.int x1), l2, l3, some (.int x4)] [] (hpk o c) Q := by
  unfold F_Mod_message_422 at hF
  refine Ev_aload_n d_Mod_message_422 rfl ?_
  refine Ev_iload_n d_Mod_message_423 rfl ?_
  refine Ev_iload d_Mod_message_424 rfl ?_
  obtain ⟨r1, c1, hC, hF⟩ := x_bind_some hF
  refine k_Mod_168 rfl d_Mod_message_426 ⟨by decide, by decide⟩ (Nat.le_of_ble_eq_true rfl) ?_
  exact C_Mod_take hC (T_Mod_message_429 hF hQ)
def F_Mod_message_417 (x1 x3 x4 : Int32) (c : x_S) : Option (Int32 × x_S) := F_Mod_message_422 x1 x4 (x_up c 46 34 x3)
theorem T_Mod_message_417 {E : x_E} {o : x_S} {Q : Int32 → x_H → Prop} {l2 : Option Value} {x1 x3 x4 : Int32} {c : x_S} {r : Int32} {s : x_S} (hF : F_Mod_message_417 x1 x3 x4 c = some (r, s)) (hQ : Q r (hpk o s)) : Ev E m_Mod_message 0 0 417 [some (.ref 46), some (.int x1), l2, some (.int x3), some (.int x4)] [] (hpk o c) Q := by
  unfold F_Mod_message_417 at hF
  refine Ev_aload_n d_Mod_message_417 rfl ?_
  refine Ev_iload_n d_Mod_message_418 rfl ?_
  refine q_Mod_47 rfl d_Mod_message_419 ?_
  exact T_Mod_message_422 hF hQ
def F_Mod_message_408 (c : x_S) : Option (Int32 × x_S) := F_Mod_message_429 c
theorem T_Mod_message_408 {E : x_E} {o : x_S} {Q : Int32 → x_H → Prop} {l1 : Option Value} {l2 : Option Value} {l3 : Option Value} {l4 : Option Value} {c : x_S} {r : Int32} {s : x_S} (hF : F_Mod_message_408 c = some (r, s)) (hQ : Q r (hpk o s)) : Ev E m_Mod_message 0 0 408 [some (.ref 46), l1, l2, l3, l4] [] (hpk o c) Q := by
  unfold F_Mod_message_408 at hF
  refine Ev_goto (tgt := 429) d_Mod_message_408 rfl ?_
  exact T_Mod_message_429 hF hQ
def F_Mod_message_392 (x1 x3 x4 : Int32) (c : x_S) : Option (Int32 × x_S) := if (c 46 38) = 0 then (x_bind (F_Mod_write (3 : Int32) x1 c) (fun _ c2 => F_Mod_message_417 x1 x3 x4 c2)) else (x_bind (F_Mod_write (4 : Int32) (c 46 38) c) (fun _ c3 => F_Mod_message_408 c3))
theorem T_Mod_message_392 {E : x_E} {o : x_S} {Q : Int32 → x_H → Prop} {l2 : Option Value} {x1 x3 x4 : Int32} {c : x_S} {r : Int32} {s : x_S} (hF : F_Mod_message_392 x1 x3 x4 c = some (r, s)) (hQ : Q r (hpk o s)) : Ev E m_Mod_message 0 0 392 [some (.ref 46), some (.int x1), l2, some (.int x3), some (.int x4)] [] (hpk o c) Q := by
  unfold F_Mod_message_392 at hF
  refine Ev_aload_n d_Mod_message_392 rfl ?_
  refine g_Mod_117 rfl d_Mod_message_393 ?_
  refine Ev_if_eq (tgt := 411) d_Mod_message_396 rfl (fun h1 => ?_) (fun h1 => ?_)
  · rw [if_pos h1] at hF
    refine Ev_aload_n d_Mod_message_411 rfl ?_
    refine Ev_iconst (v := 3) d_Mod_message_412 (by decide) ?_
    refine Ev_iload_n d_Mod_message_413 rfl ?_
    obtain ⟨r2, c2, hC, hF⟩ := x_bind_some hF
    refine k_Mod_84 rfl d_Mod_message_414 ⟨by decide, by decide⟩ (Nat.le_of_ble_eq_true rfl) ?_
    exact C_Mod_write hC (T_Mod_message_417 hF hQ)
  · rw [if_neg h1] at hF
    refine Ev_aload_n d_Mod_message_399 rfl ?_
    refine Ev_iconst (v := 4) d_Mod_message_400 (by decide) ?_
    refine Ev_aload_n d_Mod_message_401 rfl ?_
    refine g_Mod_117 rfl d_Mod_message_402 ?_
    obtain ⟨r3, c3, hC, hF⟩ := x_bind_some hF
    refine k_Mod_84 rfl d_Mod_message_405 ⟨by decide, by decide⟩ (Nat.le_of_ble_eq_true rfl) ?_
    exact C_Mod_write hC (T_Mod_message_408 hF hQ)
def F_Mod_message_387 (x1 x3 x4 : Int32) (c : x_S) : Option (Int32 × x_S) := F_Mod_message_392 x1 x3 x4 (x_up c 46 35 (0 : Int32))
theorem T_Mod_message_387 {E : x_E} {o : x_S} {Q : Int32 → x_H → Prop} {l2 : Option Value} {x1 x3 x4 : Int32} {c : x_S} {r : Int32} {s : x_S} (hF : F_Mod_message_387 x1 x3 x4 c = some (r, s)) (hQ : Q r (hpk o s)) : Ev E m_Mod_message 0 0 387 [some (.ref 46), some (.int x1), l2, some (.int x3), some (.int x4)] [] (hpk o c) Q := by
  unfold F_Mod_message_387 at hF
  refine Ev_aload_n d_Mod_message_387 rfl ?_
  refine Ev_iconst (v := 0) d_Mod_message_388 (by decide) ?_
  refine q_Mod_114 rfl d_Mod_message_389 ?_
  exact T_Mod_message_392 hF hQ
def F_Mod_message_382 (x1 x3 x4 s1 : Int32) (c : x_S) : Option (Int32 × x_S) := x_bind (F_Mod_check s1 (12 : Int32) c) (fun _ c1 => F_Mod_message_387 x1 x3 x4 c1)
theorem T_Mod_message_382 {E : x_E} {o : x_S} {Q : Int32 → x_H → Prop} {l2 : Option Value} {x1 x3 x4 s1 : Int32} {c : x_S} {r : Int32} {s : x_S} (hF : F_Mod_message_382 x1 x3 x4 s1 c = some (r, s)) (hQ : Q r (hpk o s)) : Ev E m_Mod_message 0 0 382 [some (.ref 46), some (.int x1), l2, some (.int x3), some (.int x4)] [.int s1, .ref 46] (hpk o c) Q := by
  unfold F_Mod_message_382 at hF
  refine Ev_bipush (v := (12)) d_Mod_message_382 (by decide) ?_
  obtain ⟨r1, c1, hC, hF⟩ := x_bind_some hF
  refine k_Mod_130 rfl d_Mod_message_384 ⟨by decide, by decide⟩ (Nat.le_of_ble_eq_true rfl) ?_
  exact C_Mod_check hC (T_Mod_message_387 hF hQ)
def F_Mod_message_361 (x1 x3 x4 : Int32) (c : x_S) : Option (Int32 × x_S) := if (c 46 38) = 0 then (x_ix (4 : Int32) 6 (fun j2 => if (c 60 j2) = 0 then (F_Mod_message_387 x1 x3 x4 c) else (x_bind (F_Mod_fits c) (fun r4 c4 => F_Mod_message_382 x1 x3 x4 r4 c4)))) else (F_Mod_message_387 x1 x3 x4 c)
theorem T_Mod_message_361 {E : x_E} {o : x_S} {Q : Int32 → x_H → Prop} {l2 : Option Value} {x1 x3 x4 : Int32} {c : x_S} {r : Int32} {s : x_S} (hF : F_Mod_message_361 x1 x3 x4 c = some (r, s)) (hQ : Q r (hpk o s)) : Ev E m_Mod_message 0 0 361 [some (.ref 46), some (.int x1), l2, some (.int x3), some (.int x4)] [] (hpk o c) Q := by
  unfold F_Mod_message_361 at hF
  refine Ev_aload_n d_Mod_message_361 rfl ?_
  refine g_Mod_117 rfl d_Mod_message_362 ?_
  refine Ev_if_ne (tgt := 387) d_Mod_message_365 rfl (fun h1 => ?_) (fun h1 => ?_)
  · rw [if_neg h1] at hF
    exact T_Mod_message_387 hF hQ
  · rw [if_pos h1] at hF
    refine Ev_aload_n d_Mod_message_368 rfl ?_
    refine g_Mod_54 rfl d_Mod_message_369 ?_
    refine Ev_iconst (v := 4) d_Mod_message_372 (by decide) ?_
    obtain ⟨j2, hij2, hjj2, hF⟩ := x_ix_some hF
    refine Em_zald d_Mod_message_373 (P := 60) (by decide) rfl hij2 hjj2 ?_
    refine Ev_if_eq (tgt := 387) d_Mod_message_374 rfl (fun h3 => ?_) (fun h3 => ?_)
    · rw [if_pos h3] at hF
      exact T_Mod_message_387 hF hQ
    · rw [if_neg h3] at hF
      refine Ev_aload_n d_Mod_message_377 rfl ?_
      refine Ev_aload_n d_Mod_message_378 rfl ?_
      obtain ⟨r4, c4, hC, hF⟩ := x_bind_some hF
      refine k_Mod_165 rfl d_Mod_message_379 ⟨by decide, by decide⟩ (Nat.le_of_ble_eq_true rfl) ?_
      exact C_Mod_fits hC (T_Mod_message_382 hF hQ)
def F_Mod_message_356 (x1 x3 x4 s1 : Int32) (c : x_S) : Option (Int32 × x_S) := x_bind (F_Mod_check s1 (11 : Int32) c) (fun _ c1 => F_Mod_message_361 x1 x3 x4 c1)
theorem T_Mod_message_356 {E : x_E} {o : x_S} {Q : Int32 → x_H → Prop} {l2 : Option Value} {x1 x3 x4 s1 : Int32} {c : x_S} {r : Int32} {s : x_S} (hF : F_Mod_message_356 x1 x3 x4 s1 c = some (r, s)) (hQ : Q r (hpk o s)) : Ev E m_Mod_message 0 0 356 [some (.ref 46), some (.int x1), l2, some (.int x3), some (.int x4)] [.int s1, .ref 46] (hpk o c) Q := by
  unfold F_Mod_message_356 at hF
  refine Ev_bipush (v := (11)) d_Mod_message_356 (by decide) ?_
  obtain ⟨r1, c1, hC, hF⟩ := x_bind_some hF
  refine k_Mod_130 rfl d_Mod_message_358 ⟨by decide, by decide⟩ (Nat.le_of_ble_eq_true rfl) ?_
  exact C_Mod_check hC (T_Mod_message_361 hF hQ)
def F_Mod_message_351 (x1 x3 x4 : Int32) (c : x_S) : Option (Int32 × x_S) := F_Mod_message_356 x1 x3 x4 (1 : Int32) c
theorem T_Mod_message_351 {E : x_E} {o : x_S} {Q : Int32 → x_H → Prop} {l2 : Option Value} {x1 x3 x4 : Int32} {c : x_S} {r : Int32} {s : x_S} (hF : F_Mod_message_351 x1 x3 x4 c = some (r, s)) (hQ : Q r (hpk o s)) : Ev E m_Mod_message 0 0 351 [some (.ref 46), some (.int x1), l2, some (.int x3), some (.int x4)] [.ref 46] (hpk o c) Q := by
  unfold F_Mod_message_351 at hF
  refine Ev_iconst (v := 1) d_Mod_message_351 (by decide) ?_
  refine Ev_goto (tgt := 356) d_Mod_message_352 rfl ?_
  exact T_Mod_message_356 hF hQ
def F_Mod_message_347 (x1 x3 x4 s1 : Int32) (c : x_S) : Option (Int32 × x_S) := if (3 : Int32) ≤ s1 then (F_Mod_message_356 x1 x3 x4 (0 : Int32) c) else (F_Mod_message_351 x1 x3 x4 c)
theorem T_Mod_message_347 {E : x_E} {o : x_S} {Q : Int32 → x_H → Prop} {l2 : Option Value} {x1 x3 x4 s1 : Int32} {c : x_S} {r : Int32} {s : x_S} (hF : F_Mod_message_347 x1 x3 x4 s1 c = some (r, s)) (hQ : Q r (hpk o s)) : Ev E m_Mod_message 0 0 347 [some (.ref 46), some (.int x1), l2, some (.int x3), some (.int x4)] [.int s1, .ref 46] (hpk o c) Q := by
  unfold F_Mod_message_347 at hF
  refine Ev_iconst (v := 3) d_Mod_message_347 (by decide) ?_
  refine Ev_icmp_ge (tgt := 355) d_Mod_message_348 rfl (fun h1 => ?_) (fun h1 => ?_)
  · rw [if_pos h1] at hF
    refine Ev_iconst (v := 0) d_Mod_message_355 (by decide) ?_
    exact T_Mod_message_356 hF hQ
  · rw [if_neg h1] at hF
    exact T_Mod_message_351 hF hQ
def F_Mod_message_334 (x1 x3 x4 s1 : Int32) (c : x_S) : Option (Int32 × x_S) := if s1 = 0 then (F_Mod_message_351 x1 x3 x4 c) else (x_bind (F_Mod_grade (c 46 5) x4 c) (fun r2 c2 => F_Mod_message_347 x1 x3 x4 r2 c2))
theorem T_Mod_message_334 {E : x_E} {o : x_S} {Q : Int32 → x_H → Prop} {l2 : Option Value} {x1 x3 x4 s1 : Int32} {c : x_S} {r : Int32} {s : x_S} (hF : F_Mod_message_334 x1 x3 x4 s1 c = some (r, s)) (hQ : Q r (hpk o s)) : Ev E m_Mod_message 0 0 334 [some (.ref 46), some (.int x1), l2, some (.int x3), some (.int x4)] [.int s1, .ref 46] (hpk o c) Q := by
  unfold F_Mod_message_334 at hF
  refine Ev_if_eq (tgt := 351) d_Mod_message_334 rfl (fun h1 => ?_) (fun h1 => ?_)
  · rw [if_pos h1] at hF
    exact T_Mod_message_351 hF hQ
  · rw [if_neg h1] at hF
    refine Ev_aload_n d_Mod_message_337 rfl ?_
    refine Ev_aload_n d_Mod_message_338 rfl ?_
    refine g_Mod_158 rfl d_Mod_message_339 ?_
    refine Ev_iload d_Mod_message_342 rfl ?_
    obtain ⟨r2, c2, hC, hF⟩ := x_bind_some hF
    refine k_Mod_161 rfl d_Mod_message_344 ⟨by decide, by decide⟩ (Nat.le_of_ble_eq_true rfl) ?_
    exact C_Mod_grade hC (T_Mod_message_347 hF hQ)
def F_Mod_message_329 (x1 x3 x4 : Int32) (c : x_S) : Option (Int32 × x_S) := x_bind (F_Mod_watched c) (fun r1 c1 => F_Mod_message_334 x1 x3 x4 r1 c1)
theorem T_Mod_message_329 {E : x_E} {o : x_S} {Q : Int32 → x_H → Prop} {l2 : Option Value} {x1 x3 x4 : Int32} {c : x_S} {r : Int32} {s : x_S} (hF : F_Mod_message_329 x1 x3 x4 c = some (r, s)) (hQ : Q r (hpk o s)) : Ev E m_Mod_message 0 0 329 [some (.ref 46), some (.int x1), l2, some (.int x3), some (.int x4)] [] (hpk o c) Q := by
  unfold F_Mod_message_329 at hF
  refine Ev_aload_n d_Mod_message_329 rfl ?_
  refine Ev_aload_n d_Mod_message_330 rfl ?_
  obtain ⟨r1, c1, hC, hF⟩ := x_bind_some hF
  refine k_Mod_154 rfl d_Mod_message_331 ⟨by decide, by decide⟩ (Nat.le_of_ble_eq_true rfl) ?_
  exact C_Mod_watched hC (T_Mod_message_334 hF hQ)
def F_Mod_message_324 (x1 x3 x4 s1 : Int32) (c : x_S) : Option (Int32 × x_S) := x_bind (F_Mod_check s1 (11 : Int32) c) (fun _ c1 => F_Mod_message_329 x1 x3 x4 c1)
theorem T_Mod_message_324 {E : x_E} {o : x_S} {Q : Int32 → x_H → Prop} {l2 : Option Value} {x1 x3 x4 s1 : Int32} {c : x_S} {r : Int32} {s : x_S} (hF : F_Mod_message_324 x1 x3 x4 s1 c = some (r, s)) (hQ : Q r (hpk o s)) : Ev E m_Mod_message 0 0 324 [some (.ref 46), some (.int x1), l2, some (.int x3), some (.int x4)] [.int s1, .ref 46] (hpk o c) Q := by
  unfold F_Mod_message_324 at hF
  refine Ev_bipush (v := (11)) d_Mod_message_324 (by decide) ?_
  obtain ⟨r1, c1, hC, hF⟩ := x_bind_some hF
  refine k_Mod_130 rfl d_Mod_message_326 ⟨by decide, by decide⟩ (Nat.le_of_ble_eq_true rfl) ?_
  exact C_Mod_check hC (T_Mod_message_329 hF hQ)
def F_Mod_message_296 (x1 x3 x4 : Int32) (c : x_S) : Option (Int32 × x_S) := if (c 46 38) = 0 then (if x1 = (9 : Int32) then (if (c 46 9) < x4 then (F_Mod_message_324 x1 x3 x4 (0 : Int32) c) else (F_Mod_message_324 x1 x3 x4 (1 : Int32) c)) else (F_Mod_message_361 x1 x3 x4 c)) else (F_Mod_message_361 x1 x3 x4 c)
theorem T_Mod_message_296 {E : x_E} {o : x_S} {Q : Int32 → x_H → Prop} {l2 : Option Value} {x1 x3 x4 : Int32} {c : x_S} {r : Int32} {s : x_S} (hF : F_Mod_message_296 x1 x3 x4 c = some (r, s)) (hQ : Q r (hpk o s)) : Ev E m_Mod_message 0 0 296 [some (.ref 46), some (.int x1), l2, some (.int x3), some (.int x4)] [] (hpk o c) Q := by
  unfold F_Mod_message_296 at hF
  refine Ev_aload_n d_Mod_message_296 rfl ?_
  refine g_Mod_117 rfl d_Mod_message_297 ?_
  refine Ev_if_ne (tgt := 361) d_Mod_message_300 rfl (fun h1 => ?_) (fun h1 => ?_)
  · rw [if_neg h1] at hF
    exact T_Mod_message_361 hF hQ
  · rw [if_pos h1] at hF
    refine Ev_iload_n d_Mod_message_303 rfl ?_
    refine Ev_bipush (v := (9)) d_Mod_message_304 (by decide) ?_
    refine Ev_icmp_ne (tgt := 361) d_Mod_message_306 rfl (fun h2 => ?_) (fun h2 => ?_)
    · rw [if_neg h2] at hF
      exact T_Mod_message_361 hF hQ
    · rw [if_pos h2] at hF
      refine Ev_aload_n d_Mod_message_309 rfl ?_
      refine Ev_iload d_Mod_message_310 rfl ?_
      refine Ev_aload_n d_Mod_message_312 rfl ?_
      refine g_Mod_151 rfl d_Mod_message_313 ?_
      refine Ev_icmp_gt (tgt := 323) d_Mod_message_316 rfl (fun h3 => ?_) (fun h3 => ?_)
      · rw [if_pos h3] at hF
        refine Ev_iconst (v := 0) d_Mod_message_323 (by decide) ?_
        exact T_Mod_message_324 hF hQ
      · rw [if_neg h3] at hF
        refine Ev_iconst (v := 1) d_Mod_message_319 (by decide) ?_
        refine Ev_goto (tgt := 324) d_Mod_message_320 rfl ?_
        exact T_Mod_message_324 hF hQ
def F_Mod_message_291 (x1 x3 x4 s1 : Int32) (c : x_S) : Option (Int32 × x_S) := x_bind (F_Mod_check s1 (10 : Int32) c) (fun _ c1 => F_Mod_message_296 x1 x3 x4 c1)
theorem T_Mod_message_291 {E : x_E} {o : x_S} {Q : Int32 → x_H → Prop} {l2 : Option Value} {x1 x3 x4 s1 : Int32} {c : x_S} {r : Int32} {s : x_S} (hF : F_Mod_message_291 x1 x3 x4 s1 c = some (r, s)) (hQ : Q r (hpk o s)) : Ev E m_Mod_message 0 0 291 [some (.ref 46), some (.int x1), l2, some (.int x3), some (.int x4)] [.int s1, .ref 46] (hpk o c) Q := by
  unfold F_Mod_message_291 at hF
  refine Ev_bipush (v := (10)) d_Mod_message_291 (by decide) ?_
  obtain ⟨r1, c1, hC, hF⟩ := x_bind_some hF
  refine k_Mod_130 rfl d_Mod_message_293 ⟨by decide, by decide⟩ (Nat.le_of_ble_eq_true rfl) ?_
  exact C_Mod_check hC (T_Mod_message_296 hF hQ)
def F_Mod_message_286 (x1 x3 x4 : Int32) (c : x_S) : Option (Int32 × x_S) := F_Mod_message_291 x1 x3 x4 (1 : Int32) c
theorem T_Mod_message_286 {E : x_E} {o : x_S} {Q : Int32 → x_H → Prop} {l2 : Option Value} {x1 x3 x4 : Int32} {c : x_S} {r : Int32} {s : x_S} (hF : F_Mod_message_286 x1 x3 x4 c = some (r, s)) (hQ : Q r (hpk o s)) : Ev E m_Mod_message 0 0 286 [some (.ref 46), some (.int x1), l2, some (.int x3), some (.int x4)] [.ref 46] (hpk o c) Q := by
  unfold F_Mod_message_286 at hF
  refine Ev_iconst (v := 1) d_Mod_message_286 (by decide) ?_
  refine Ev_goto (tgt := 291) d_Mod_message_287 rfl ?_
  exact T_Mod_message_291 hF hQ
def F_Mod_message_272 (x1 x3 x4 : Int32) (c : x_S) : Option (Int32 × x_S) := if x1 = (9 : Int32) then (if (c 46 8) = 0 then (F_Mod_message_291 x1 x3 x4 (0 : Int32) c) else (F_Mod_message_286 x1 x3 x4 c)) else (F_Mod_message_286 x1 x3 x4 c)
theorem T_Mod_message_272 {E : x_E} {o : x_S} {Q : Int32 → x_H → Prop} {l2 : Option Value} {x1 x3 x4 : Int32} {c : x_S} {r : Int32} {s : x_S} (hF : F_Mod_message_272 x1 x3 x4 c = some (r, s)) (hQ : Q r (hpk o s)) : Ev E m_Mod_message 0 0 272 [some (.ref 46), some (.int x1), l2, some (.int x3), some (.int x4)] [] (hpk o c) Q := by
  unfold F_Mod_message_272 at hF
  refine Ev_aload_n d_Mod_message_272 rfl ?_
  refine Ev_iload_n d_Mod_message_273 rfl ?_
  refine Ev_bipush (v := (9)) d_Mod_message_274 (by decide) ?_
  refine Ev_icmp_ne (tgt := 286) d_Mod_message_276 rfl (fun h1 => ?_) (fun h1 => ?_)
  · rw [if_neg h1] at hF
    exact T_Mod_message_286 hF hQ
  · rw [if_pos h1] at hF
    refine Ev_aload_n d_Mod_message_279 rfl ?_
    refine g_Mod_88 rfl d_Mod_message_280 ?_
    refine Ev_if_eq (tgt := 290) d_Mod_message_283 rfl (fun h2 => ?_) (fun h2 => ?_)
    · rw [if_pos h2] at hF
      refine Ev_iconst (v := 0) d_Mod_message_290 (by decide) ?_
      exact T_Mod_message_291 hF hQ
    · rw [if_neg h2] at hF
      exact T_Mod_message_286 hF hQ
def F_Mod_message_267 (x1 x3 x4 s1 : Int32) (c : x_S) : Option (Int32 × x_S) := x_bind (F_Mod_check s1 (9 : Int32) c) (fun _ c1 => F_Mod_message_272 x1 x3 x4 c1)
theorem T_Mod_message_267 {E : x_E} {o : x_S} {Q : Int32 → x_H → Prop} {l2 : Option Value} {x1 x3 x4 s1 : Int32} {c : x_S} {r : Int32} {s : x_S} (hF : F_Mod_message_267 x1 x3 x4 s1 c = some (r, s)) (hQ : Q r (hpk o s)) : Ev E m_Mod_message 0 0 267 [some (.ref 46), some (.int x1), l2, some (.int x3), some (.int x4)] [.int s1, .ref 46] (hpk o c) Q := by
  unfold F_Mod_message_267 at hF
  refine Ev_bipush (v := (9)) d_Mod_message_267 (by decide) ?_
  obtain ⟨r1, c1, hC, hF⟩ := x_bind_some hF
  refine k_Mod_130 rfl d_Mod_message_269 ⟨by decide, by decide⟩ (Nat.le_of_ble_eq_true rfl) ?_
  exact C_Mod_check hC (T_Mod_message_272 hF hQ)
def F_Mod_message_266 (x1 x3 x4 : Int32) (c : x_S) : Option (Int32 × x_S) := F_Mod_message_267 x1 x3 x4 (0 : Int32) c
theorem T_Mod_message_266 {E : x_E} {o : x_S} {Q : Int32 → x_H → Prop} {l2 : Option Value} {x1 x3 x4 : Int32} {c : x_S} {r : Int32} {s : x_S} (hF : F_Mod_message_266 x1 x3 x4 c = some (r, s)) (hQ : Q r (hpk o s)) : Ev E m_Mod_message 0 0 266 [some (.ref 46), some (.int x1), l2, some (.int x3), some (.int x4)] [.ref 46] (hpk o c) Q := by
  unfold F_Mod_message_266 at hF
  refine Ev_iconst (v := 0) d_Mod_message_266 (by decide) ?_
  exact T_Mod_message_267 hF hQ
def F_Mod_message_262 (x1 x3 x4 : Int32) (c : x_S) : Option (Int32 × x_S) := F_Mod_message_267 x1 x3 x4 (1 : Int32) c
theorem T_Mod_message_262 {E : x_E} {o : x_S} {Q : Int32 → x_H → Prop} {l2 : Option Value} {x1 x3 x4 : Int32} {c : x_S} {r : Int32} {s : x_S} (hF : F_Mod_message_262 x1 x3 x4 c = some (r, s)) (hQ : Q r (hpk o s)) : Ev E m_Mod_message 0 0 262 [some (.ref 46), some (.int x1), l2, some (.int x3), some (.int x4)] [.ref 46] (hpk o c) Q := by
  unfold F_Mod_message_262 at hF
  refine Ev_iconst (v := 1) d_Mod_message_262 (by decide) ?_
  refine Ev_goto (tgt := 267) d_Mod_message_263 rfl ?_
  exact T_Mod_message_267 hF hQ
def F_Mod_message_238 (x1 x3 x4 : Int32) (c : x_S) : Option (Int32 × x_S) := if (c 46 6) = (6 : Int32) then (F_Mod_message_266 x1 x3 x4 c) else (if (c 46 6) = (4 : Int32) then (if x1 = (16 : Int32) then (F_Mod_message_262 x1 x3 x4 c) else (F_Mod_message_266 x1 x3 x4 c)) else (F_Mod_message_262 x1 x3 x4 c))
theorem T_Mod_message_238 {E : x_E} {o : x_S} {Q : Int32 → x_H → Prop} {l2 : Option Value} {x1 x3 x4 : Int32} {c : x_S} {r : Int32} {s : x_S} (hF : F_Mod_message_238 x1 x3 x4 c = some (r, s)) (hQ : Q r (hpk o s)) : Ev E m_Mod_message 0 0 238 [some (.ref 46), some (.int x1), l2, some (.int x3), some (.int x4)] [] (hpk o c) Q := by
  unfold F_Mod_message_238 at hF
  refine Ev_aload_n d_Mod_message_238 rfl ?_
  refine Ev_aload_n d_Mod_message_239 rfl ?_
  refine g_Mod_81 rfl d_Mod_message_240 ?_
  refine Ev_bipush (v := (6)) d_Mod_message_243 (by decide) ?_
  refine Ev_icmp_eq (tgt := 266) d_Mod_message_245 rfl (fun h1 => ?_) (fun h1 => ?_)
  · rw [if_pos h1] at hF
    exact T_Mod_message_266 hF hQ
  · rw [if_neg h1] at hF
    refine Ev_aload_n d_Mod_message_248 rfl ?_
    refine g_Mod_81 rfl d_Mod_message_249 ?_
    refine Ev_iconst (v := 4) d_Mod_message_252 (by decide) ?_
    refine Ev_icmp_ne (tgt := 262) d_Mod_message_253 rfl (fun h2 => ?_) (fun h2 => ?_)
    · rw [if_neg h2] at hF
      exact T_Mod_message_262 hF hQ
    · rw [if_pos h2] at hF
      refine Ev_iload_n d_Mod_message_256 rfl ?_
      refine Ev_bipush (v := (16)) d_Mod_message_257 (by decide) ?_
      refine Ev_icmp_ne (tgt := 266) d_Mod_message_259 rfl (fun h3 => ?_) (fun h3 => ?_)
      · rw [if_neg h3] at hF
        exact T_Mod_message_266 hF hQ
      · rw [if_pos h3] at hF
        exact T_Mod_message_262 hF hQ
def F_Mod_message_233 (x1 x3 x4 s1 : Int32) (c : x_S) : Option (Int32 × x_S) := x_bind (F_Mod_check s1 (8 : Int32) c) (fun _ c1 => F_Mod_message_238 x1 x3 x4 c1)
theorem T_Mod_message_233 {E : x_E} {o : x_S} {Q : Int32 → x_H → Prop} {l2 : Option Value} {x1 x3 x4 s1 : Int32} {c : x_S} {r : Int32} {s : x_S} (hF : F_Mod_message_233 x1 x3 x4 s1 c = some (r, s)) (hQ : Q r (hpk o s)) : Ev E m_Mod_message 0 0 233 [some (.ref 46), some (.int x1), l2, some (.int x3), some (.int x4)] [.int s1, .ref 46] (hpk o c) Q := by
  unfold F_Mod_message_233 at hF
  refine Ev_bipush (v := (8)) d_Mod_message_233 (by decide) ?_
  obtain ⟨r1, c1, hC, hF⟩ := x_bind_some hF
  refine k_Mod_130 rfl d_Mod_message_235 ⟨by decide, by decide⟩ (Nat.le_of_ble_eq_true rfl) ?_
  exact C_Mod_check hC (T_Mod_message_238 hF hQ)
def F_Mod_message_228 (x1 x3 x4 : Int32) (c : x_S) : Option (Int32 × x_S) := F_Mod_message_233 x1 x3 x4 (1 : Int32) c
theorem T_Mod_message_228 {E : x_E} {o : x_S} {Q : Int32 → x_H → Prop} {l2 : Option Value} {x1 x3 x4 : Int32} {c : x_S} {r : Int32} {s : x_S} (hF : F_Mod_message_228 x1 x3 x4 c = some (r, s)) (hQ : Q r (hpk o s)) : Ev E m_Mod_message 0 0 228 [some (.ref 46), some (.int x1), l2, some (.int x3), some (.int x4)] [.ref 46] (hpk o c) Q := by
  unfold F_Mod_message_228 at hF
  refine Ev_iconst (v := 1) d_Mod_message_228 (by decide) ?_
  refine Ev_goto (tgt := 233) d_Mod_message_229 rfl ?_
  exact T_Mod_message_233 hF hQ
def F_Mod_message_212 (x1 x3 x4 : Int32) (c : x_S) : Option (Int32 × x_S) := if x1 = (24 : Int32) then (x_ix (1 : Int32) 6 (fun j2 => if (c 60 j2) = 0 then (F_Mod_message_228 x1 x3 x4 c) else (F_Mod_message_233 x1 x3 x4 (0 : Int32) c))) else (F_Mod_message_228 x1 x3 x4 c)
theorem T_Mod_message_212 {E : x_E} {o : x_S} {Q : Int32 → x_H → Prop} {l2 : Option Value} {x1 x3 x4 : Int32} {c : x_S} {r : Int32} {s : x_S} (hF : F_Mod_message_212 x1 x3 x4 c = some (r, s)) (hQ : Q r (hpk o s)) : Ev E m_Mod_message 0 0 212 [some (.ref 46), some (.int x1), l2, some (.int x3), some (.int x4)] [] (hpk o c) Q := by
  unfold F_Mod_message_212 at hF
  refine Ev_aload_n d_Mod_message_212 rfl ?_
  refine Ev_iload_n d_Mod_message_213 rfl ?_
  refine Ev_bipush (v := (24)) d_Mod_message_214 (by decide) ?_
  refine Ev_icmp_ne (tgt := 228) d_Mod_message_216 rfl (fun h1 => ?_) (fun h1 => ?_)
  · rw [if_neg h1] at hF
    exact T_Mod_message_228 hF hQ
  · rw [if_pos h1] at hF
    refine Ev_aload_n d_Mod_message_219 rfl ?_
    refine g_Mod_54 rfl d_Mod_message_220 ?_
    refine Ev_iconst (v := 1) d_Mod_message_223 (by decide) ?_
    obtain ⟨j2, hij2, hjj2, hF⟩ := x_ix_some hF
    refine Em_zald d_Mod_message_224 (P := 60) (by decide) rfl hij2 hjj2 ?_
    refine Ev_if_ne (tgt := 232) d_Mod_message_225 rfl (fun h3 => ?_) (fun h3 => ?_)
    · rw [if_neg h3] at hF
      refine Ev_iconst (v := 0) d_Mod_message_232 (by decide) ?_
      exact T_Mod_message_233 hF hQ
    · rw [if_pos h3] at hF
      exact T_Mod_message_228 hF hQ
def F_Mod_message_207 (x1 x3 x4 s1 : Int32) (c : x_S) : Option (Int32 × x_S) := x_bind (F_Mod_check s1 (8 : Int32) c) (fun _ c1 => F_Mod_message_212 x1 x3 x4 c1)
theorem T_Mod_message_207 {E : x_E} {o : x_S} {Q : Int32 → x_H → Prop} {l2 : Option Value} {x1 x3 x4 s1 : Int32} {c : x_S} {r : Int32} {s : x_S} (hF : F_Mod_message_207 x1 x3 x4 s1 c = some (r, s)) (hQ : Q r (hpk o s)) : Ev E m_Mod_message 0 0 207 [some (.ref 46), some (.int x1), l2, some (.int x3), some (.int x4)] [.int s1, .ref 46] (hpk o c) Q := by
  unfold F_Mod_message_207 at hF
  refine Ev_bipush (v := (8)) d_Mod_message_207 (by decide) ?_
  obtain ⟨r1, c1, hC, hF⟩ := x_bind_some hF
  refine k_Mod_130 rfl d_Mod_message_209 ⟨by decide, by decide⟩ (Nat.le_of_ble_eq_true rfl) ?_
  exact C_Mod_check hC (T_Mod_message_212 hF hQ)
def F_Mod_message_202 (x1 x3 x4 : Int32) (c : x_S) : Option (Int32 × x_S) := F_Mod_message_207 x1 x3 x4 (1 : Int32) c
theorem T_Mod_message_202 {E : x_E} {o : x_S} {Q : Int32 → x_H → Prop} {l2 : Option Value} {x1 x3 x4 : Int32} {c : x_S} {r : Int32} {s : x_S} (hF : F_Mod_message_202 x1 x3 x4 c = some (r, s)) (hQ : Q r (hpk o s)) : Ev E m_Mod_message 0 0 202 [some (.ref 46), some (.int x1), l2, some (.int x3), some (.int x4)] [.ref 46] (hpk o c) Q := by
  unfold F_Mod_message_202 at hF
  refine Ev_iconst (v := 1) d_Mod_message_202 (by decide) ?_
  refine Ev_goto (tgt := 207) d_Mod_message_203 rfl ?_
  exact T_Mod_message_207 hF hQ
def F_Mod_message_187 (x1 x3 x4 : Int32) (c : x_S) : Option (Int32 × x_S) := if x1 = (3 : Int32) then (x_ix (1 : Int32) 6 (fun j2 => if (c 60 j2) = 0 then (F_Mod_message_207 x1 x3 x4 (0 : Int32) c) else (F_Mod_message_202 x1 x3 x4 c))) else (F_Mod_message_202 x1 x3 x4 c)
theorem T_Mod_message_187 {E : x_E} {o : x_S} {Q : Int32 → x_H → Prop} {l2 : Option Value} {x1 x3 x4 : Int32} {c : x_S} {r : Int32} {s : x_S} (hF : F_Mod_message_187 x1 x3 x4 c = some (r, s)) (hQ : Q r (hpk o s)) : Ev E m_Mod_message 0 0 187 [some (.ref 46), some (.int x1), l2, some (.int x3), some (.int x4)] [] (hpk o c) Q := by
  unfold F_Mod_message_187 at hF
  refine Ev_aload_n d_Mod_message_187 rfl ?_
  refine Ev_iload_n d_Mod_message_188 rfl ?_
  refine Ev_iconst (v := 3) d_Mod_message_189 (by decide) ?_
  refine Ev_icmp_ne (tgt := 202) d_Mod_message_190 rfl (fun h1 => ?_) (fun h1 => ?_)
  · rw [if_neg h1] at hF
    exact T_Mod_message_202 hF hQ
  · rw [if_pos h1] at hF
    refine Ev_aload_n d_Mod_message_193 rfl ?_
    refine g_Mod_54 rfl d_Mod_message_194 ?_
    refine Ev_iconst (v := 1) d_Mod_message_197 (by decide) ?_
    obtain ⟨j2, hij2, hjj2, hF⟩ := x_ix_some hF
    refine Em_zald d_Mod_message_198 (P := 60) (by decide) rfl hij2 hjj2 ?_
    refine Ev_if_eq (tgt := 206) d_Mod_message_199 rfl (fun h3 => ?_) (fun h3 => ?_)
    · rw [if_pos h3] at hF
      refine Ev_iconst (v := 0) d_Mod_message_206 (by decide) ?_
      exact T_Mod_message_207 hF hQ
    · rw [if_neg h3] at hF
      exact T_Mod_message_202 hF hQ
def F_Mod_message_183 (x1 x3 x4 s1 : Int32) (c : x_S) : Option (Int32 × x_S) := x_bind (F_Mod_check s1 (2 : Int32) c) (fun _ c1 => F_Mod_message_187 x1 x3 x4 c1)
theorem T_Mod_message_183 {E : x_E} {o : x_S} {Q : Int32 → x_H → Prop} {l2 : Option Value} {x1 x3 x4 s1 : Int32} {c : x_S} {r : Int32} {s : x_S} (hF : F_Mod_message_183 x1 x3 x4 s1 c = some (r, s)) (hQ : Q r (hpk o s)) : Ev E m_Mod_message 0 0 183 [some (.ref 46), some (.int x1), l2, some (.int x3), some (.int x4)] [.int s1, .ref 46] (hpk o c) Q := by
  unfold F_Mod_message_183 at hF
  refine Ev_iconst (v := 2) d_Mod_message_183 (by decide) ?_
  obtain ⟨r1, c1, hC, hF⟩ := x_bind_some hF
  refine k_Mod_130 rfl d_Mod_message_184 ⟨by decide, by decide⟩ (Nat.le_of_ble_eq_true rfl) ?_
  exact C_Mod_check hC (T_Mod_message_187 hF hQ)
def F_Mod_message_163 (x1 x3 x4 : Int32) (c : x_S) : Option (Int32 × x_S) := F_Mod_message_187 x1 x3 x4 c
theorem T_Mod_message_163 {E : x_E} {o : x_S} {Q : Int32 → x_H → Prop} {l2 : Option Value} {x1 x3 x4 : Int32} {c : x_S} {r : Int32} {s : x_S} (hF : F_Mod_message_163 x1 x3 x4 c = some (r, s)) (hQ : Q r (hpk o s)) : Ev E m_Mod_message 0 0 163 [some (.ref 46), some (.int x1), l2, some (.int x3), some (.int x4)] [] (hpk o c) Q := by
  unfold F_Mod_message_163 at hF
  refine Ev_goto (tgt := 187) d_Mod_message_163 rfl ?_
  exact T_Mod_message_187 hF hQ
def F_Mod_message_159 (x1 x3 x4 : Int32) (c : x_S) : Option (Int32 × x_S) := x_bind (F_Mod_packets c) (fun _ c1 => F_Mod_message_163 x1 x3 x4 c1)
theorem T_Mod_message_159 {E : x_E} {o : x_S} {Q : Int32 → x_H → Prop} {l2 : Option Value} {x1 x3 x4 : Int32} {c : x_S} {r : Int32} {s : x_S} (hF : F_Mod_message_159 x1 x3 x4 c = some (r, s)) (hQ : Q r (hpk o s)) : Ev E m_Mod_message 0 0 159 [some (.ref 46), some (.int x1), l2, some (.int x3), some (.int x4)] [] (hpk o c) Q := by
  unfold F_Mod_message_159 at hF
  refine Ev_aload_n d_Mod_message_159 rfl ?_
  obtain ⟨r1, c1, hC, hF⟩ := x_bind_some hF
  refine k_Mod_148 rfl d_Mod_message_160 ⟨by decide, by decide⟩ (Nat.le_of_ble_eq_true rfl) ?_
  exact C_Mod_packets hC (T_Mod_message_163 hF hQ)
def F_Mod_message_148 (x1 x3 x4 : Int32) (c : x_S) : Option (Int32 × x_S) := if x1 = (3 : Int32) then (F_Mod_message_159 x1 x3 x4 c) else (if x1 = (24 : Int32) then (F_Mod_message_159 x1 x3 x4 c) else (if (c 46 37) = (c 46 35) then (F_Mod_message_183 x1 x3 x4 (1 : Int32) c) else (F_Mod_message_183 x1 x3 x4 (0 : Int32) c)))
theorem T_Mod_message_148 {E : x_E} {o : x_S} {Q : Int32 → x_H → Prop} {l2 : Option Value} {x1 x3 x4 : Int32} {c : x_S} {r : Int32} {s : x_S} (hF : F_Mod_message_148 x1 x3 x4 c = some (r, s)) (hQ : Q r (hpk o s)) : Ev E m_Mod_message 0 0 148 [some (.ref 46), some (.int x1), l2, some (.int x3), some (.int x4)] [] (hpk o c) Q := by
  unfold F_Mod_message_148 at hF
  refine Ev_iload_n d_Mod_message_148 rfl ?_
  refine Ev_iconst (v := 3) d_Mod_message_149 (by decide) ?_
  refine Ev_icmp_eq (tgt := 159) d_Mod_message_150 rfl (fun h1 => ?_) (fun h1 => ?_)
  · rw [if_pos h1] at hF
    exact T_Mod_message_159 hF hQ
  · rw [if_neg h1] at hF
    refine Ev_iload_n d_Mod_message_153 rfl ?_
    refine Ev_bipush (v := (24)) d_Mod_message_154 (by decide) ?_
    refine Ev_icmp_ne (tgt := 166) d_Mod_message_156 rfl (fun h2 => ?_) (fun h2 => ?_)
    · rw [if_neg h2] at hF
      refine Ev_aload_n d_Mod_message_166 rfl ?_
      refine Ev_aload_n d_Mod_message_167 rfl ?_
      refine g_Mod_120 rfl d_Mod_message_168 ?_
      refine Ev_aload_n d_Mod_message_171 rfl ?_
      refine g_Mod_114 rfl d_Mod_message_172 ?_
      refine Ev_icmp_ne (tgt := 182) d_Mod_message_175 rfl (fun h3 => ?_) (fun h3 => ?_)
      · rw [if_neg h3] at hF
        refine Ev_iconst (v := 0) d_Mod_message_182 (by decide) ?_
        exact T_Mod_message_183 hF hQ
      · rw [if_pos h3] at hF
        refine Ev_iconst (v := 1) d_Mod_message_178 (by decide) ?_
        refine Ev_goto (tgt := 183) d_Mod_message_179 rfl ?_
        exact T_Mod_message_183 hF hQ
    · rw [if_pos h2] at hF
      exact T_Mod_message_159 hF hQ
def F_Mod_message_145 (x1 x3 s0 s1 : Int32) (c : x_S) : Option (Int32 × x_S) := F_Mod_message_148 x1 x3 (s0 * s1) c
theorem T_Mod_message_145 {E : x_E} {o : x_S} {Q : Int32 → x_H → Prop} {l2 : Option Value} {l4 : Option Value} {x1 x3 s0 s1 : Int32} {c : x_S} {r : Int32} {s : x_S} (hF : F_Mod_message_145 x1 x3 s0 s1 c = some (r, s)) (hQ : Q r (hpk o s)) : Ev E m_Mod_message 0 0 145 [some (.ref 46), some (.int x1), l2, some (.int x3), l4] [.int s1, .int s0] (hpk o c) Q := by
  unfold F_Mod_message_145 at hF
  refine Ev_imul d_Mod_message_145 ?_
  refine Ev_istore (L' := [some (.ref 46), some (.int x1), l2, some (.int x3), some (.int (s0 * s1))]) d_Mod_message_146 (by decide) rfl ?_
  exact T_Mod_message_148 hF hQ
def F_Mod_message_128 (x1 x3 : Int32) (c : x_S) : Option (Int32 × x_S) := if x1 = (9 : Int32) then (x_bind (F_Mod_read (15 : Int32) c) (fun r2 c2 => F_Mod_message_145 x1 x3 (10 : Int32) r2 c2)) else (F_Mod_message_148 x1 x3 (0 : Int32) c)
theorem T_Mod_message_128 {E : x_E} {o : x_S} {Q : Int32 → x_H → Prop} {l2 : Option Value} {l4 : Option Value} {x1 x3 : Int32} {c : x_S} {r : Int32} {s : x_S} (hF : F_Mod_message_128 x1 x3 c = some (r, s)) (hQ : Q r (hpk o s)) : Ev E m_Mod_message 0 0 128 [some (.ref 46), some (.int x1), l2, some (.int x3), l4] [] (hpk o c) Q := by
  unfold F_Mod_message_128 at hF
  refine Ev_iconst (v := 0) d_Mod_message_128 (by decide) ?_
  refine Ev_istore (L' := [some (.ref 46), some (.int x1), l2, some (.int x3), some (.int (0 : Int32))]) d_Mod_message_129 (by decide) rfl ?_
  refine Ev_iload_n d_Mod_message_131 rfl ?_
  refine Ev_bipush (v := (9)) d_Mod_message_132 (by decide) ?_
  refine Ev_icmp_ne (tgt := 148) d_Mod_message_134 rfl (fun h1 => ?_) (fun h1 => ?_)
  · rw [if_neg h1] at hF
    exact T_Mod_message_148 hF hQ
  · rw [if_pos h1] at hF
    refine Ev_bipush (v := (10)) d_Mod_message_137 (by decide) ?_
    refine Ev_aload_n d_Mod_message_139 rfl ?_
    refine Ev_bipush (v := (15)) d_Mod_message_140 (by decide) ?_
    obtain ⟨r2, c2, hC, hF⟩ := x_bind_some hF
    refine k_Mod_123 rfl d_Mod_message_142 ⟨by decide, by decide⟩ (Nat.le_of_ble_eq_true rfl) ?_
    exact C_Mod_read hC (T_Mod_message_145 hF hQ)
def F_Mod_message_124 (x1 x3 s1 : Int32) (c : x_S) : Option (Int32 × x_S) := x_bind (F_Mod_check s1 (3 : Int32) c) (fun _ c1 => F_Mod_message_128 x1 x3 c1)
theorem T_Mod_message_124 {E : x_E} {o : x_S} {Q : Int32 → x_H → Prop} {l2 : Option Value} {l4 : Option Value} {x1 x3 s1 : Int32} {c : x_S} {r : Int32} {s : x_S} (hF : F_Mod_message_124 x1 x3 s1 c = some (r, s)) (hQ : Q r (hpk o s)) : Ev E m_Mod_message 0 0 124 [some (.ref 46), some (.int x1), l2, some (.int x3), l4] [.int s1, .ref 46] (hpk o c) Q := by
  unfold F_Mod_message_124 at hF
  refine Ev_iconst (v := 3) d_Mod_message_124 (by decide) ?_
  obtain ⟨r1, c1, hC, hF⟩ := x_bind_some hF
  refine k_Mod_130 rfl d_Mod_message_125 ⟨by decide, by decide⟩ (Nat.le_of_ble_eq_true rfl) ?_
  exact C_Mod_check hC (T_Mod_message_128 hF hQ)
def F_Mod_message_109 (x1 s0 : Int32) (c : x_S) : Option (Int32 × x_S) := if s0 ≤ (c 46 34) then (F_Mod_message_124 x1 s0 (0 : Int32) c) else (F_Mod_message_124 x1 s0 (1 : Int32) c)
theorem T_Mod_message_109 {E : x_E} {o : x_S} {Q : Int32 → x_H → Prop} {l2 : Option Value} {l3 : Option Value} {l4 : Option Value} {x1 s0 : Int32} {c : x_S} {r : Int32} {s : x_S} (hF : F_Mod_message_109 x1 s0 c = some (r, s)) (hQ : Q r (hpk o s)) : Ev E m_Mod_message 0 0 109 [some (.ref 46), some (.int x1), l2, l3, l4] [.int s0] (hpk o c) Q := by
  unfold F_Mod_message_109 at hF
  refine Ev_istore_n (L' := [some (.ref 46), some (.int x1), l2, some (.int s0), l4]) d_Mod_message_109 (by decide) rfl ?_
  refine Ev_aload_n d_Mod_message_110 rfl ?_
  refine Ev_iload_n d_Mod_message_111 rfl ?_
  refine Ev_aload_n d_Mod_message_112 rfl ?_
  refine g_Mod_47 rfl d_Mod_message_113 ?_
  refine Ev_icmp_le (tgt := 123) d_Mod_message_116 rfl (fun h1 => ?_) (fun h1 => ?_)
  · rw [if_pos h1] at hF
    refine Ev_iconst (v := 0) d_Mod_message_123 (by decide) ?_
    exact T_Mod_message_124 hF hQ
  · rw [if_neg h1] at hF
    refine Ev_iconst (v := 1) d_Mod_message_119 (by decide) ?_
    refine Ev_goto (tgt := 124) d_Mod_message_120 rfl ?_
    exact T_Mod_message_124 hF hQ
def F_Mod_message_103 (x1 : Int32) (c : x_S) : Option (Int32 × x_S) := x_bind (F_Mod_read (16 : Int32) c) (fun r1 c1 => F_Mod_message_109 x1 r1 c1)
theorem T_Mod_message_103 {E : x_E} {o : x_S} {Q : Int32 → x_H → Prop} {l2 : Option Value} {l3 : Option Value} {l4 : Option Value} {x1 : Int32} {c : x_S} {r : Int32} {s : x_S} (hF : F_Mod_message_103 x1 c = some (r, s)) (hQ : Q r (hpk o s)) : Ev E m_Mod_message 0 0 103 [some (.ref 46), some (.int x1), l2, l3, l4] [] (hpk o c) Q := by
  unfold F_Mod_message_103 at hF
  refine Ev_aload_n d_Mod_message_103 rfl ?_
  refine Ev_bipush (v := (16)) d_Mod_message_104 (by decide) ?_
  obtain ⟨r1, c1, hC, hF⟩ := x_bind_some hF
  refine k_Mod_123 rfl d_Mod_message_106 ⟨by decide, by decide⟩ (Nat.le_of_ble_eq_true rfl) ?_
  exact C_Mod_read hC (T_Mod_message_109 hF hQ)
def F_Mod_message_99 (x1 s1 : Int32) (c : x_S) : Option (Int32 × x_S) := x_bind (F_Mod_check s1 (2 : Int32) c) (fun _ c1 => F_Mod_message_103 x1 c1)
theorem T_Mod_message_99 {E : x_E} {o : x_S} {Q : Int32 → x_H → Prop} {l2 : Option Value} {l3 : Option Value} {l4 : Option Value} {x1 s1 : Int32} {c : x_S} {r : Int32} {s : x_S} (hF : F_Mod_message_99 x1 s1 c = some (r, s)) (hQ : Q r (hpk o s)) : Ev E m_Mod_message 0 0 99 [some (.ref 46), some (.int x1), l2, l3, l4] [.int s1, .ref 46] (hpk o c) Q := by
  unfold F_Mod_message_99 at hF
  refine Ev_iconst (v := 2) d_Mod_message_99 (by decide) ?_
  obtain ⟨r1, c1, hC, hF⟩ := x_bind_some hF
  refine k_Mod_130 rfl d_Mod_message_100 ⟨by decide, by decide⟩ (Nat.le_of_ble_eq_true rfl) ?_
  exact C_Mod_check hC (T_Mod_message_103 hF hQ)
def F_Mod_message_84 (x1 s0 : Int32) (c : x_S) : Option (Int32 × x_S) := if s0 = (c 46 35) then (F_Mod_message_99 x1 (1 : Int32) c) else (F_Mod_message_99 x1 (0 : Int32) c)
theorem T_Mod_message_84 {E : x_E} {o : x_S} {Q : Int32 → x_H → Prop} {l2 : Option Value} {l3 : Option Value} {l4 : Option Value} {x1 s0 : Int32} {c : x_S} {r : Int32} {s : x_S} (hF : F_Mod_message_84 x1 s0 c = some (r, s)) (hQ : Q r (hpk o s)) : Ev E m_Mod_message 0 0 84 [some (.ref 46), some (.int x1), l2, l3, l4] [.int s0] (hpk o c) Q := by
  unfold F_Mod_message_84 at hF
  refine Ev_istore_n (L' := [some (.ref 46), some (.int x1), some (.int s0), l3, l4]) d_Mod_message_84 (by decide) rfl ?_
  refine Ev_aload_n d_Mod_message_85 rfl ?_
  refine Ev_iload_n d_Mod_message_86 rfl ?_
  refine Ev_aload_n d_Mod_message_87 rfl ?_
  refine g_Mod_114 rfl d_Mod_message_88 ?_
  refine Ev_icmp_ne (tgt := 98) d_Mod_message_91 rfl (fun h1 => ?_) (fun h1 => ?_)
  · rw [if_neg h1] at hF
    refine Ev_iconst (v := 0) d_Mod_message_98 (by decide) ?_
    exact T_Mod_message_99 hF hQ
  · rw [if_pos h1] at hF
    refine Ev_iconst (v := 1) d_Mod_message_94 (by decide) ?_
    refine Ev_goto (tgt := 99) d_Mod_message_95 rfl ?_
    exact T_Mod_message_99 hF hQ
def F_Mod_message_78 (x1 : Int32) (c : x_S) : Option (Int32 × x_S) := x_bind (F_Mod_read (10 : Int32) c) (fun r1 c1 => F_Mod_message_84 x1 r1 c1)
theorem T_Mod_message_78 {E : x_E} {o : x_S} {Q : Int32 → x_H → Prop} {l2 : Option Value} {l3 : Option Value} {l4 : Option Value} {x1 : Int32} {c : x_S} {r : Int32} {s : x_S} (hF : F_Mod_message_78 x1 c = some (r, s)) (hQ : Q r (hpk o s)) : Ev E m_Mod_message 0 0 78 [some (.ref 46), some (.int x1), l2, l3, l4] [] (hpk o c) Q := by
  unfold F_Mod_message_78 at hF
  refine Ev_aload_n d_Mod_message_78 rfl ?_
  refine Ev_bipush (v := (10)) d_Mod_message_79 (by decide) ?_
  obtain ⟨r1, c1, hC, hF⟩ := x_bind_some hF
  refine k_Mod_123 rfl d_Mod_message_81 ⟨by decide, by decide⟩ (Nat.le_of_ble_eq_true rfl) ?_
  exact C_Mod_read hC (T_Mod_message_84 hF hQ)
def F_Mod_message_74 (x1 s1 : Int32) (c : x_S) : Option (Int32 × x_S) := x_bind (F_Mod_check s1 (1 : Int32) c) (fun _ c1 => F_Mod_message_78 x1 c1)
theorem T_Mod_message_74 {E : x_E} {o : x_S} {Q : Int32 → x_H → Prop} {l2 : Option Value} {l3 : Option Value} {l4 : Option Value} {x1 s1 : Int32} {c : x_S} {r : Int32} {s : x_S} (hF : F_Mod_message_74 x1 s1 c = some (r, s)) (hQ : Q r (hpk o s)) : Ev E m_Mod_message 0 0 74 [some (.ref 46), some (.int x1), l2, l3, l4] [.int s1, .ref 46] (hpk o c) Q := by
  unfold F_Mod_message_74 at hF
  refine Ev_iconst (v := 1) d_Mod_message_74 (by decide) ?_
  obtain ⟨r1, c1, hC, hF⟩ := x_bind_some hF
  refine k_Mod_130 rfl d_Mod_message_75 ⟨by decide, by decide⟩ (Nat.le_of_ble_eq_true rfl) ?_
  exact C_Mod_check hC (T_Mod_message_78 hF hQ)
def F_Mod_message_69 (x1 : Int32) (c : x_S) : Option (Int32 × x_S) := F_Mod_message_74 x1 (1 : Int32) c
theorem T_Mod_message_69 {E : x_E} {o : x_S} {Q : Int32 → x_H → Prop} {l2 : Option Value} {l3 : Option Value} {l4 : Option Value} {x1 : Int32} {c : x_S} {r : Int32} {s : x_S} (hF : F_Mod_message_69 x1 c = some (r, s)) (hQ : Q r (hpk o s)) : Ev E m_Mod_message 0 0 69 [some (.ref 46), some (.int x1), l2, l3, l4] [.ref 46] (hpk o c) Q := by
  unfold F_Mod_message_69 at hF
  refine Ev_iconst (v := 1) d_Mod_message_69 (by decide) ?_
  refine Ev_goto (tgt := 74) d_Mod_message_70 rfl ?_
  exact T_Mod_message_74 hF hQ
def F_Mod_message_44 (s0 : Int32) (c : x_S) : Option (Int32 × x_S) := if s0 = (3 : Int32) then (F_Mod_message_69 s0 c) else (if s0 = (9 : Int32) then (F_Mod_message_69 s0 c) else (if s0 = (16 : Int32) then (F_Mod_message_69 s0 c) else (if s0 = (24 : Int32) then (F_Mod_message_69 s0 c) else (F_Mod_message_74 s0 (0 : Int32) c))))
theorem T_Mod_message_44 {E : x_E} {o : x_S} {Q : Int32 → x_H → Prop} {l1 : Option Value} {l2 : Option Value} {l3 : Option Value} {l4 : Option Value} {s0 : Int32} {c : x_S} {r : Int32} {s : x_S} (hF : F_Mod_message_44 s0 c = some (r, s)) (hQ : Q r (hpk o s)) : Ev E m_Mod_message 0 0 44 [some (.ref 46), l1, l2, l3, l4] [.int s0] (hpk o c) Q := by
  unfold F_Mod_message_44 at hF
  refine Ev_istore_n (L' := [some (.ref 46), some (.int s0), l2, l3, l4]) d_Mod_message_44 (by decide) rfl ?_
  refine Ev_aload_n d_Mod_message_45 rfl ?_
  refine Ev_iload_n d_Mod_message_46 rfl ?_
  refine Ev_iconst (v := 3) d_Mod_message_47 (by decide) ?_
  refine Ev_icmp_eq (tgt := 69) d_Mod_message_48 rfl (fun h1 => ?_) (fun h1 => ?_)
  · rw [if_pos h1] at hF
    exact T_Mod_message_69 hF hQ
  · rw [if_neg h1] at hF
    refine Ev_iload_n d_Mod_message_51 rfl ?_
    refine Ev_bipush (v := (9)) d_Mod_message_52 (by decide) ?_
    refine Ev_icmp_eq (tgt := 69) d_Mod_message_54 rfl (fun h2 => ?_) (fun h2 => ?_)
    · rw [if_pos h2] at hF
      exact T_Mod_message_69 hF hQ
    · rw [if_neg h2] at hF
      refine Ev_iload_n d_Mod_message_57 rfl ?_
      refine Ev_bipush (v := (16)) d_Mod_message_58 (by decide) ?_
      refine Ev_icmp_eq (tgt := 69) d_Mod_message_60 rfl (fun h3 => ?_) (fun h3 => ?_)
      · rw [if_pos h3] at hF
        exact T_Mod_message_69 hF hQ
      · rw [if_neg h3] at hF
        refine Ev_iload_n d_Mod_message_63 rfl ?_
        refine Ev_bipush (v := (24)) d_Mod_message_64 (by decide) ?_
        refine Ev_icmp_ne (tgt := 73) d_Mod_message_66 rfl (fun h4 => ?_) (fun h4 => ?_)
        · rw [if_neg h4] at hF
          refine Ev_iconst (v := 0) d_Mod_message_73 (by decide) ?_
          exact T_Mod_message_74 hF hQ
        · rw [if_pos h4] at hF
          exact T_Mod_message_69 hF hQ
def F_Mod_message_32 (K : Int32 → x_S → Option (Int32 × x_S)) (x1 : Int32) (c : x_S) : Option (Int32 × x_S) := K (x1 + (1 : Int32)) c
theorem T_Mod_message_32 {E : x_E} {o : x_S} {Q : Int32 → x_H → Prop} {K : Int32 → x_S → Option (Int32 × x_S)} (hK : ∀ {l2 : Option Value} {l3 : Option Value} {l4 : Option Value} {x1 : Int32} {c : x_S} {r : Int32} {s : x_S}, K x1 c = some (r, s) → Q r (hpk o s) → Ev E m_Mod_message 0 0 12 [some (.ref 46), some (.int x1), l2, l3, l4] [] (hpk o c) Q) {l2 : Option Value} {l3 : Option Value} {l4 : Option Value} {x1 : Int32} {c : x_S} {r : Int32} {s : x_S} (hF : F_Mod_message_32 K x1 c = some (r, s)) (hQ : Q r (hpk o s)) : Ev E m_Mod_message 0 0 32 [some (.ref 46), some (.int x1), l2, l3, l4] [] (hpk o c) Q := by
  unfold F_Mod_message_32 at hF
  refine Ev_iinc (v := (x1 + (1 : Int32))) (L' := [some (.ref 46), some (.int (x1 + (1 : Int32))), l2, l3, l4]) d_Mod_message_32 rfl rfl (by decide) rfl ?_
  refine Ev_goto (tgt := 12) d_Mod_message_35 rfl ?_
  exact hK hF hQ
def F_Mod_message_25 (K : Int32 → x_S → Option (Int32 × x_S)) (x1 : Int32) (c : x_S) : Option (Int32 × x_S) := x_ix x1 6 (fun j1 => F_Mod_message_32 K x1 (x_up c 61 j1 (0 : Int32)))
theorem T_Mod_message_25 {E : x_E} {o : x_S} {Q : Int32 → x_H → Prop} {K : Int32 → x_S → Option (Int32 × x_S)} (hK : ∀ {l2 : Option Value} {l3 : Option Value} {l4 : Option Value} {x1 : Int32} {c : x_S} {r : Int32} {s : x_S}, K x1 c = some (r, s) → Q r (hpk o s) → Ev E m_Mod_message 0 0 12 [some (.ref 46), some (.int x1), l2, l3, l4] [] (hpk o c) Q) {l2 : Option Value} {l3 : Option Value} {l4 : Option Value} {x1 : Int32} {c : x_S} {r : Int32} {s : x_S} (hF : F_Mod_message_25 K x1 c = some (r, s)) (hQ : Q r (hpk o s)) : Ev E m_Mod_message 0 0 25 [some (.ref 46), some (.int x1), l2, l3, l4] [] (hpk o c) Q := by
  unfold F_Mod_message_25 at hF
  refine Ev_aload_n d_Mod_message_25 rfl ?_
  refine g_Mod_57 rfl d_Mod_message_26 ?_
  refine Ev_iload_n d_Mod_message_29 rfl ?_
  refine Ev_iconst (v := 0) d_Mod_message_30 (by decide) ?_
  obtain ⟨j1, hij1, hjj1, hF⟩ := x_ix_some hF
  refine Em_iast d_Mod_message_31 (P := 61) (by decide) rfl hij1 hjj1 ?_
  exact T_Mod_message_32 (fun h1 h2 => hK h1 h2) hF hQ
def F_Mod_message_12 : Nat → Int32 → x_S → Option (Int32 × x_S)
  | 0, _, _ => none
  | n + 1, x1, c => if (6 : Int32) ≤ x1 then (x_bind (F_Mod_read (8 : Int32) c) (fun r2 c2 => F_Mod_message_44 r2 c2)) else (x_ix x1 6 (fun j3 => F_Mod_message_25 (F_Mod_message_12 n) x1 (x_up c 60 j3 (0 : Int32))))
theorem T_Mod_message_12 {E : x_E} {o : x_S} {Q : Int32 → x_H → Prop} : ∀ (n : Nat) {l2 : Option Value} {l3 : Option Value} {l4 : Option Value} {x1 : Int32} {c : x_S} {r : Int32} {s : x_S}, F_Mod_message_12 n x1 c = some (r, s) → Q r (hpk o s) → Ev E m_Mod_message 0 0 12 [some (.ref 46), some (.int x1), l2, l3, l4] [] (hpk o c) Q := by
  intro n
  induction n with
  | zero => intro l2 l3 l4 x1 c r s hF; rw [F_Mod_message_12] at hF; cases hF
  | succ n ih =>
    intro l2 l3 l4 x1 c r s hF hQ
    rw [F_Mod_message_12] at hF
    refine Ev_iload_n d_Mod_message_12 rfl ?_
    refine Ev_bipush (v := (6)) d_Mod_message_13 (by decide) ?_
    refine Ev_icmp_ge (tgt := 38) d_Mod_message_15 rfl (fun h1 => ?_) (fun h1 => ?_)
    · rw [if_pos h1] at hF
      refine Ev_aload_n d_Mod_message_38 rfl ?_
      refine Ev_bipush (v := (8)) d_Mod_message_39 (by decide) ?_
      obtain ⟨r2, c2, hC, hF⟩ := x_bind_some hF
      refine k_Mod_123 rfl d_Mod_message_41 ⟨by decide, by decide⟩ (Nat.le_of_ble_eq_true rfl) ?_
      exact C_Mod_read hC (T_Mod_message_44 hF hQ)
    · rw [if_neg h1] at hF
      refine Ev_aload_n d_Mod_message_18 rfl ?_
      refine g_Mod_54 rfl d_Mod_message_19 ?_
      refine Ev_iload_n d_Mod_message_22 rfl ?_
      refine Ev_iconst (v := 0) d_Mod_message_23 (by decide) ?_
      obtain ⟨j3, hij3, hjj3, hF⟩ := x_ix_some hF
      refine Em_zast d_Mod_message_24 (P := 60) (by decide) rfl hij3 hjj3 (Or.inl rfl) ?_
      exact T_Mod_message_25 (fun h1 h2 => ih h1 h2) hF hQ
def F_Mod_message_10 (c : x_S) : Option (Int32 × x_S) := F_Mod_message_12 x_fuel (0 : Int32) c
theorem T_Mod_message_10 {E : x_E} {o : x_S} {Q : Int32 → x_H → Prop} {l1 : Option Value} {l2 : Option Value} {l3 : Option Value} {l4 : Option Value} {c : x_S} {r : Int32} {s : x_S} (hF : F_Mod_message_10 c = some (r, s)) (hQ : Q r (hpk o s)) : Ev E m_Mod_message 0 0 10 [some (.ref 46), l1, l2, l3, l4] [] (hpk o c) Q := by
  unfold F_Mod_message_10 at hF
  refine Ev_iconst (v := 0) d_Mod_message_10 (by decide) ?_
  refine Ev_istore_n (L' := [some (.ref 46), some (.int (0 : Int32)), l2, l3, l4]) d_Mod_message_11 (by decide) rfl ?_
  exact T_Mod_message_12 x_fuel hF hQ
def F_Mod_message_5 (c : x_S) : Option (Int32 × x_S) := F_Mod_message_10 (x_up c 46 37 (0 : Int32))
theorem T_Mod_message_5 {E : x_E} {o : x_S} {Q : Int32 → x_H → Prop} {l1 : Option Value} {l2 : Option Value} {l3 : Option Value} {l4 : Option Value} {c : x_S} {r : Int32} {s : x_S} (hF : F_Mod_message_5 c = some (r, s)) (hQ : Q r (hpk o s)) : Ev E m_Mod_message 0 0 5 [some (.ref 46), l1, l2, l3, l4] [] (hpk o c) Q := by
  unfold F_Mod_message_5 at hF
  refine Ev_aload_n d_Mod_message_5 rfl ?_
  refine Ev_iconst (v := 0) d_Mod_message_6 (by decide) ?_
  refine q_Mod_120 rfl d_Mod_message_7 ?_
  exact T_Mod_message_10 hF hQ
def F_Mod_message (c : x_S) : Option (Int32 × x_S) := F_Mod_message_5 (x_up c 46 38 (0 : Int32))
theorem C_Mod_message {E : x_E} {o : x_S} {Q : Int32 → x_H → Prop} {c : x_S} {r : Int32} {s : x_S} (hF : F_Mod_message c = some (r, s)) (hQ : Q r (hpk o s)) : Call E m_Mod_message 0 0 [.ref 46] (hpk o c) Q := by
  refine Call_of (L := [some (.ref 46), none, none, none, none]) (by decide) (by intro v hv; simp only [List.mem_cons, List.not_mem_nil, or_false] at hv; rw [hv]; rfl) (Nat.le_of_ble_eq_true rfl) rfl ?_
  unfold F_Mod_message at hF
  refine Ev_aload_n d_Mod_message_0 rfl ?_
  refine Ev_iconst (v := 0) d_Mod_message_1 (by decide) ?_
  refine q_Mod_117 rfl d_Mod_message_2 ?_
  exact T_Mod_message_5 hF hQ
