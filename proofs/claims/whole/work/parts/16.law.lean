/-! the law, over any relation that every call keeps -/
def x_eqv (R : Nat → x_S → x_S → Prop) (n : Nat) (f g : Option (Int32 × x_S)) : Prop := ∃ (r : Int32) (c' m' : x_S), f = some (r, c') ∧ g = some (r, m') ∧ R (n + 1) c' m'
def x_all (R : Nat → x_S → x_S → Prop) (n : Nat) (c m : x_S) : Prop := (∀ x1 x2 : Int32, x_eqv R n (F_G_bits x1 x2 c) (F_Mod_bits x1 x2 m)) ∧ (x_eqv R n (F_G_message c) (F_Mod_message m)) ∧ (∀ x1 : Int32, x_eqv R n (F_G_mark x1 c) (F_Mod_mark x1 m)) ∧ (∀ x1 : Int32, x_eqv R n (F_G_cycle x1 c) (F_Mod_cycle x1 m)) ∧ (∀ x1 : Int32, x_eqv R n (F_G_driver x1 c) (F_Mod_driver x1 m)) ∧ (x_eqv R n (F_G_mode c) (F_Mod_mode m)) ∧ (∀ x1 : Int32, x_eqv R n (F_G_state x1 c) (F_Mod_state x1 m)) ∧ (∀ x1 : Int32, x_eqv R n (F_G_display x1 c) (F_Mod_display x1 m)) ∧ (∀ x1 : Int32, x_eqv R n (F_G_limit x1 c) (F_Mod_limit x1 m)) ∧ (∀ x1 x2 x3 : Int32, x_eqv R n (F_G_way x1 x2 x3 c) (F_Mod_way x1 x2 x3 m)) ∧ (∀ x1 : Int32, x_eqv R n (F_G_marks x1 c) (F_Mod_marks x1 m)) ∧ (∀ x1 : Int32, x_eqv R n (F_G_note x1 c) (F_Mod_note x1 m))
def x_sim (R : Nat → x_S → x_S → Prop) : Prop := (∀ n c m, R n c m → R (n + 1) c m) ∧ ∀ n c m, n < 512 → R n c m → x_all R n c m
theorem law_case_0 {E : x_E} {R : Nat → x_S → x_S → Prop} {n : Nat} {c m : x_S} {i : Int32} {Q : Int32 → x_H → Prop} (ha : x_all R n c m) (h1 : vp_in (i + 1) E.2.2.2.1) (h2 : vp_in (i + 2) E.2.2.2.1) (h3 : vp_in (i + 3) E.2.2.2.1) (kk : ∀ c' m', R (n + 1) c' m' → Ev E m_Law_law 0 0 410 [some (.ref 1000), some (.ref 0), some (.ref 46), some (.int i)] [] (hpk c' m') Q) : Ev E m_Law_law 0 0 124 [some (.ref 1000), some (.ref 0), some (.ref 46), some (.int i)] [] (hpk c m) Q := by
  obtain ⟨r, c', m', e1, e2, hR⟩ := ha.1 (E.2.2.2.2 (i + 1).toNatClampNeg) (E.2.2.2.2 (i + 2).toNatClampNeg)
  refine Ev_aload_n d_Law_law_124 rfl ?_
  refine Ev_aload_n d_Law_law_125 rfl ?_
  refine Ev_iload_n d_Law_law_126 rfl ?_
  refine Ev_iconst (v := 1) d_Law_law_127 (by decide) ?_
  refine Ev_iadd d_Law_law_128 ?_
  refine Ev_sld d_Law_law_129 h1 ?_
  refine Ev_aload_n d_Law_law_130 rfl ?_
  refine Ev_iload_n d_Law_law_131 rfl ?_
  refine Ev_iconst (v := 2) d_Law_law_132 (by decide) ?_
  refine Ev_iadd d_Law_law_133 ?_
  refine Ev_sld d_Law_law_134 h2 ?_
  refine k_Law_21 rfl d_Law_law_135 ⟨by decide, by decide⟩ (Nat.le_of_ble_eq_true rfl) ?_
  refine C_G_bits e1 ?_
  refine Ev_aload_n d_Law_law_138 rfl ?_
  refine Ev_aload_n d_Law_law_139 rfl ?_
  refine Ev_iload_n d_Law_law_140 rfl ?_
  refine Ev_iconst (v := 1) d_Law_law_141 (by decide) ?_
  refine Ev_iadd d_Law_law_142 ?_
  refine Ev_sld d_Law_law_143 h1 ?_
  refine Ev_aload_n d_Law_law_144 rfl ?_
  refine Ev_iload_n d_Law_law_145 rfl ?_
  refine Ev_iconst (v := 2) d_Law_law_146 (by decide) ?_
  refine Ev_iadd d_Law_law_147 ?_
  refine Ev_sld d_Law_law_148 h2 ?_
  refine k_Law_25 rfl d_Law_law_149 ⟨by decide, by decide⟩ (Nat.le_of_ble_eq_true rfl) ?_
  refine C_Mod_bits e2 ?_
  exact Ev_icmp_eq (tgt := 410) d_Law_law_152 rfl (fun _ => kk c' m' hR) (fun z => absurd rfl z)
theorem law_case_1 {E : x_E} {R : Nat → x_S → x_S → Prop} {n : Nat} {c m : x_S} {i : Int32} {Q : Int32 → x_H → Prop} (ha : x_all R n c m) (h1 : vp_in (i + 1) E.2.2.2.1) (h2 : vp_in (i + 2) E.2.2.2.1) (h3 : vp_in (i + 3) E.2.2.2.1) (kk : ∀ c' m', R (n + 1) c' m' → Ev E m_Law_law 0 0 410 [some (.ref 1000), some (.ref 0), some (.ref 46), some (.int i)] [] (hpk c' m') Q) : Ev E m_Law_law 0 0 157 [some (.ref 1000), some (.ref 0), some (.ref 46), some (.int i)] [] (hpk c m) Q := by
  obtain ⟨r, c', m', e1, e2, hR⟩ := ha.2.1
  refine Ev_aload_n d_Law_law_157 rfl ?_
  refine k_Law_26 rfl d_Law_law_158 ⟨by decide, by decide⟩ (Nat.le_of_ble_eq_true rfl) ?_
  refine C_G_message e1 ?_
  refine Ev_aload_n d_Law_law_161 rfl ?_
  refine k_Law_30 rfl d_Law_law_162 ⟨by decide, by decide⟩ (Nat.le_of_ble_eq_true rfl) ?_
  refine C_Mod_message e2 ?_
  exact Ev_icmp_eq (tgt := 410) d_Law_law_165 rfl (fun _ => kk c' m' hR) (fun z => absurd rfl z)
theorem law_case_2 {E : x_E} {R : Nat → x_S → x_S → Prop} {n : Nat} {c m : x_S} {i : Int32} {Q : Int32 → x_H → Prop} (ha : x_all R n c m) (h1 : vp_in (i + 1) E.2.2.2.1) (h2 : vp_in (i + 2) E.2.2.2.1) (h3 : vp_in (i + 3) E.2.2.2.1) (kk : ∀ c' m', R (n + 1) c' m' → Ev E m_Law_law 0 0 410 [some (.ref 1000), some (.ref 0), some (.ref 46), some (.int i)] [] (hpk c' m') Q) : Ev E m_Law_law 0 0 170 [some (.ref 1000), some (.ref 0), some (.ref 46), some (.int i)] [] (hpk c m) Q := by
  obtain ⟨r, c', m', e1, e2, hR⟩ := ha.2.2.1 (E.2.2.2.2 (i + 1).toNatClampNeg)
  refine Ev_aload_n d_Law_law_170 rfl ?_
  refine Ev_aload_n d_Law_law_171 rfl ?_
  refine Ev_iload_n d_Law_law_172 rfl ?_
  refine Ev_iconst (v := 1) d_Law_law_173 (by decide) ?_
  refine Ev_iadd d_Law_law_174 ?_
  refine Ev_sld d_Law_law_175 h1 ?_
  refine k_Law_31 rfl d_Law_law_176 ⟨by decide, by decide⟩ (Nat.le_of_ble_eq_true rfl) ?_
  refine C_G_mark e1 ?_
  refine Ev_aload_n d_Law_law_179 rfl ?_
  refine Ev_aload_n d_Law_law_180 rfl ?_
  refine Ev_iload_n d_Law_law_181 rfl ?_
  refine Ev_iconst (v := 1) d_Law_law_182 (by decide) ?_
  refine Ev_iadd d_Law_law_183 ?_
  refine Ev_sld d_Law_law_184 h1 ?_
  refine k_Law_35 rfl d_Law_law_185 ⟨by decide, by decide⟩ (Nat.le_of_ble_eq_true rfl) ?_
  refine C_Mod_mark e2 ?_
  exact Ev_icmp_eq (tgt := 410) d_Law_law_188 rfl (fun _ => kk c' m' hR) (fun z => absurd rfl z)
theorem law_case_3 {E : x_E} {R : Nat → x_S → x_S → Prop} {n : Nat} {c m : x_S} {i : Int32} {Q : Int32 → x_H → Prop} (ha : x_all R n c m) (h1 : vp_in (i + 1) E.2.2.2.1) (h2 : vp_in (i + 2) E.2.2.2.1) (h3 : vp_in (i + 3) E.2.2.2.1) (kk : ∀ c' m', R (n + 1) c' m' → Ev E m_Law_law 0 0 410 [some (.ref 1000), some (.ref 0), some (.ref 46), some (.int i)] [] (hpk c' m') Q) : Ev E m_Law_law 0 0 193 [some (.ref 1000), some (.ref 0), some (.ref 46), some (.int i)] [] (hpk c m) Q := by
  obtain ⟨r, c', m', e1, e2, hR⟩ := ha.2.2.2.1 (E.2.2.2.2 (i + 1).toNatClampNeg)
  refine Ev_aload_n d_Law_law_193 rfl ?_
  refine Ev_aload_n d_Law_law_194 rfl ?_
  refine Ev_iload_n d_Law_law_195 rfl ?_
  refine Ev_iconst (v := 1) d_Law_law_196 (by decide) ?_
  refine Ev_iadd d_Law_law_197 ?_
  refine Ev_sld d_Law_law_198 h1 ?_
  refine k_Law_36 rfl d_Law_law_199 ⟨by decide, by decide⟩ (Nat.le_of_ble_eq_true rfl) ?_
  refine C_G_cycle e1 ?_
  refine Ev_aload_n d_Law_law_202 rfl ?_
  refine Ev_aload_n d_Law_law_203 rfl ?_
  refine Ev_iload_n d_Law_law_204 rfl ?_
  refine Ev_iconst (v := 1) d_Law_law_205 (by decide) ?_
  refine Ev_iadd d_Law_law_206 ?_
  refine Ev_sld d_Law_law_207 h1 ?_
  refine k_Law_40 rfl d_Law_law_208 ⟨by decide, by decide⟩ (Nat.le_of_ble_eq_true rfl) ?_
  refine C_Mod_cycle e2 ?_
  exact Ev_icmp_eq (tgt := 410) d_Law_law_211 rfl (fun _ => kk c' m' hR) (fun z => absurd rfl z)
theorem law_case_4 {E : x_E} {R : Nat → x_S → x_S → Prop} {n : Nat} {c m : x_S} {i : Int32} {Q : Int32 → x_H → Prop} (ha : x_all R n c m) (h1 : vp_in (i + 1) E.2.2.2.1) (h2 : vp_in (i + 2) E.2.2.2.1) (h3 : vp_in (i + 3) E.2.2.2.1) (kk : ∀ c' m', R (n + 1) c' m' → Ev E m_Law_law 0 0 410 [some (.ref 1000), some (.ref 0), some (.ref 46), some (.int i)] [] (hpk c' m') Q) : Ev E m_Law_law 0 0 216 [some (.ref 1000), some (.ref 0), some (.ref 46), some (.int i)] [] (hpk c m) Q := by
  obtain ⟨r, c', m', e1, e2, hR⟩ := ha.2.2.2.2.1 (E.2.2.2.2 (i + 1).toNatClampNeg)
  refine Ev_aload_n d_Law_law_216 rfl ?_
  refine Ev_aload_n d_Law_law_217 rfl ?_
  refine Ev_iload_n d_Law_law_218 rfl ?_
  refine Ev_iconst (v := 1) d_Law_law_219 (by decide) ?_
  refine Ev_iadd d_Law_law_220 ?_
  refine Ev_sld d_Law_law_221 h1 ?_
  refine k_Law_41 rfl d_Law_law_222 ⟨by decide, by decide⟩ (Nat.le_of_ble_eq_true rfl) ?_
  refine C_G_driver e1 ?_
  refine Ev_aload_n d_Law_law_225 rfl ?_
  refine Ev_aload_n d_Law_law_226 rfl ?_
  refine Ev_iload_n d_Law_law_227 rfl ?_
  refine Ev_iconst (v := 1) d_Law_law_228 (by decide) ?_
  refine Ev_iadd d_Law_law_229 ?_
  refine Ev_sld d_Law_law_230 h1 ?_
  refine k_Law_44 rfl d_Law_law_231 ⟨by decide, by decide⟩ (Nat.le_of_ble_eq_true rfl) ?_
  refine C_Mod_driver e2 ?_
  exact Ev_icmp_eq (tgt := 410) d_Law_law_234 rfl (fun _ => kk c' m' hR) (fun z => absurd rfl z)
theorem law_case_5 {E : x_E} {R : Nat → x_S → x_S → Prop} {n : Nat} {c m : x_S} {i : Int32} {Q : Int32 → x_H → Prop} (ha : x_all R n c m) (h1 : vp_in (i + 1) E.2.2.2.1) (h2 : vp_in (i + 2) E.2.2.2.1) (h3 : vp_in (i + 3) E.2.2.2.1) (kk : ∀ c' m', R (n + 1) c' m' → Ev E m_Law_law 0 0 410 [some (.ref 1000), some (.ref 0), some (.ref 46), some (.int i)] [] (hpk c' m') Q) : Ev E m_Law_law 0 0 239 [some (.ref 1000), some (.ref 0), some (.ref 46), some (.int i)] [] (hpk c m) Q := by
  obtain ⟨r, c', m', e1, e2, hR⟩ := ha.2.2.2.2.2.1
  refine Ev_aload_n d_Law_law_239 rfl ?_
  refine k_Law_45 rfl d_Law_law_240 ⟨by decide, by decide⟩ (Nat.le_of_ble_eq_true rfl) ?_
  refine C_G_mode e1 ?_
  refine Ev_aload_n d_Law_law_243 rfl ?_
  refine k_Law_48 rfl d_Law_law_244 ⟨by decide, by decide⟩ (Nat.le_of_ble_eq_true rfl) ?_
  refine C_Mod_mode e2 ?_
  exact Ev_icmp_eq (tgt := 410) d_Law_law_247 rfl (fun _ => kk c' m' hR) (fun z => absurd rfl z)
theorem law_case_6 {E : x_E} {R : Nat → x_S → x_S → Prop} {n : Nat} {c m : x_S} {i : Int32} {Q : Int32 → x_H → Prop} (ha : x_all R n c m) (h1 : vp_in (i + 1) E.2.2.2.1) (h2 : vp_in (i + 2) E.2.2.2.1) (h3 : vp_in (i + 3) E.2.2.2.1) (kk : ∀ c' m', R (n + 1) c' m' → Ev E m_Law_law 0 0 410 [some (.ref 1000), some (.ref 0), some (.ref 46), some (.int i)] [] (hpk c' m') Q) : Ev E m_Law_law 0 0 252 [some (.ref 1000), some (.ref 0), some (.ref 46), some (.int i)] [] (hpk c m) Q := by
  obtain ⟨r, c', m', e1, e2, hR⟩ := ha.2.2.2.2.2.2.1 (E.2.2.2.2 (i + 1).toNatClampNeg)
  refine Ev_aload_n d_Law_law_252 rfl ?_
  refine Ev_aload_n d_Law_law_253 rfl ?_
  refine Ev_iload_n d_Law_law_254 rfl ?_
  refine Ev_iconst (v := 1) d_Law_law_255 (by decide) ?_
  refine Ev_iadd d_Law_law_256 ?_
  refine Ev_sld d_Law_law_257 h1 ?_
  refine k_Law_49 rfl d_Law_law_258 ⟨by decide, by decide⟩ (Nat.le_of_ble_eq_true rfl) ?_
  refine C_G_state e1 ?_
  refine Ev_aload_n d_Law_law_261 rfl ?_
  refine Ev_aload_n d_Law_law_262 rfl ?_
  refine Ev_iload_n d_Law_law_263 rfl ?_
  refine Ev_iconst (v := 1) d_Law_law_264 (by decide) ?_
  refine Ev_iadd d_Law_law_265 ?_
  refine Ev_sld d_Law_law_266 h1 ?_
  refine k_Law_52 rfl d_Law_law_267 ⟨by decide, by decide⟩ (Nat.le_of_ble_eq_true rfl) ?_
  refine C_Mod_state e2 ?_
  exact Ev_icmp_eq (tgt := 410) d_Law_law_270 rfl (fun _ => kk c' m' hR) (fun z => absurd rfl z)
theorem law_case_7 {E : x_E} {R : Nat → x_S → x_S → Prop} {n : Nat} {c m : x_S} {i : Int32} {Q : Int32 → x_H → Prop} (ha : x_all R n c m) (h1 : vp_in (i + 1) E.2.2.2.1) (h2 : vp_in (i + 2) E.2.2.2.1) (h3 : vp_in (i + 3) E.2.2.2.1) (kk : ∀ c' m', R (n + 1) c' m' → Ev E m_Law_law 0 0 410 [some (.ref 1000), some (.ref 0), some (.ref 46), some (.int i)] [] (hpk c' m') Q) : Ev E m_Law_law 0 0 275 [some (.ref 1000), some (.ref 0), some (.ref 46), some (.int i)] [] (hpk c m) Q := by
  obtain ⟨r, c', m', e1, e2, hR⟩ := ha.2.2.2.2.2.2.2.1 (E.2.2.2.2 (i + 1).toNatClampNeg)
  refine Ev_aload_n d_Law_law_275 rfl ?_
  refine Ev_aload_n d_Law_law_276 rfl ?_
  refine Ev_iload_n d_Law_law_277 rfl ?_
  refine Ev_iconst (v := 1) d_Law_law_278 (by decide) ?_
  refine Ev_iadd d_Law_law_279 ?_
  refine Ev_sld d_Law_law_280 h1 ?_
  refine k_Law_53 rfl d_Law_law_281 ⟨by decide, by decide⟩ (Nat.le_of_ble_eq_true rfl) ?_
  refine C_G_display e1 ?_
  refine Ev_aload_n d_Law_law_284 rfl ?_
  refine Ev_aload_n d_Law_law_285 rfl ?_
  refine Ev_iload_n d_Law_law_286 rfl ?_
  refine Ev_iconst (v := 1) d_Law_law_287 (by decide) ?_
  refine Ev_iadd d_Law_law_288 ?_
  refine Ev_sld d_Law_law_289 h1 ?_
  refine k_Law_56 rfl d_Law_law_290 ⟨by decide, by decide⟩ (Nat.le_of_ble_eq_true rfl) ?_
  refine C_Mod_display e2 ?_
  exact Ev_icmp_eq (tgt := 410) d_Law_law_293 rfl (fun _ => kk c' m' hR) (fun z => absurd rfl z)
theorem law_case_8 {E : x_E} {R : Nat → x_S → x_S → Prop} {n : Nat} {c m : x_S} {i : Int32} {Q : Int32 → x_H → Prop} (ha : x_all R n c m) (h1 : vp_in (i + 1) E.2.2.2.1) (h2 : vp_in (i + 2) E.2.2.2.1) (h3 : vp_in (i + 3) E.2.2.2.1) (kk : ∀ c' m', R (n + 1) c' m' → Ev E m_Law_law 0 0 410 [some (.ref 1000), some (.ref 0), some (.ref 46), some (.int i)] [] (hpk c' m') Q) : Ev E m_Law_law 0 0 298 [some (.ref 1000), some (.ref 0), some (.ref 46), some (.int i)] [] (hpk c m) Q := by
  obtain ⟨r, c', m', e1, e2, hR⟩ := ha.2.2.2.2.2.2.2.2.1 (E.2.2.2.2 (i + 1).toNatClampNeg)
  refine Ev_aload_n d_Law_law_298 rfl ?_
  refine Ev_aload_n d_Law_law_299 rfl ?_
  refine Ev_iload_n d_Law_law_300 rfl ?_
  refine Ev_iconst (v := 1) d_Law_law_301 (by decide) ?_
  refine Ev_iadd d_Law_law_302 ?_
  refine Ev_sld d_Law_law_303 h1 ?_
  refine k_Law_57 rfl d_Law_law_304 ⟨by decide, by decide⟩ (Nat.le_of_ble_eq_true rfl) ?_
  refine C_G_limit e1 ?_
  refine Ev_aload_n d_Law_law_307 rfl ?_
  refine Ev_aload_n d_Law_law_308 rfl ?_
  refine Ev_iload_n d_Law_law_309 rfl ?_
  refine Ev_iconst (v := 1) d_Law_law_310 (by decide) ?_
  refine Ev_iadd d_Law_law_311 ?_
  refine Ev_sld d_Law_law_312 h1 ?_
  refine k_Law_60 rfl d_Law_law_313 ⟨by decide, by decide⟩ (Nat.le_of_ble_eq_true rfl) ?_
  refine C_Mod_limit e2 ?_
  exact Ev_icmp_eq (tgt := 410) d_Law_law_316 rfl (fun _ => kk c' m' hR) (fun z => absurd rfl z)
theorem law_case_9 {E : x_E} {R : Nat → x_S → x_S → Prop} {n : Nat} {c m : x_S} {i : Int32} {Q : Int32 → x_H → Prop} (ha : x_all R n c m) (h1 : vp_in (i + 1) E.2.2.2.1) (h2 : vp_in (i + 2) E.2.2.2.1) (h3 : vp_in (i + 3) E.2.2.2.1) (kk : ∀ c' m', R (n + 1) c' m' → Ev E m_Law_law 0 0 410 [some (.ref 1000), some (.ref 0), some (.ref 46), some (.int i)] [] (hpk c' m') Q) : Ev E m_Law_law 0 0 321 [some (.ref 1000), some (.ref 0), some (.ref 46), some (.int i)] [] (hpk c m) Q := by
  obtain ⟨r, c', m', e1, e2, hR⟩ := ha.2.2.2.2.2.2.2.2.2.1 (E.2.2.2.2 (i + 1).toNatClampNeg) (E.2.2.2.2 (i + 2).toNatClampNeg) (E.2.2.2.2 (i + 3).toNatClampNeg)
  refine Ev_aload_n d_Law_law_321 rfl ?_
  refine Ev_aload_n d_Law_law_322 rfl ?_
  refine Ev_iload_n d_Law_law_323 rfl ?_
  refine Ev_iconst (v := 1) d_Law_law_324 (by decide) ?_
  refine Ev_iadd d_Law_law_325 ?_
  refine Ev_sld d_Law_law_326 h1 ?_
  refine Ev_aload_n d_Law_law_327 rfl ?_
  refine Ev_iload_n d_Law_law_328 rfl ?_
  refine Ev_iconst (v := 2) d_Law_law_329 (by decide) ?_
  refine Ev_iadd d_Law_law_330 ?_
  refine Ev_sld d_Law_law_331 h2 ?_
  refine Ev_aload_n d_Law_law_332 rfl ?_
  refine Ev_iload_n d_Law_law_333 rfl ?_
  refine Ev_iconst (v := 3) d_Law_law_334 (by decide) ?_
  refine Ev_iadd d_Law_law_335 ?_
  refine Ev_sld d_Law_law_336 h3 ?_
  refine k_Law_61 rfl d_Law_law_337 ⟨by decide, by decide⟩ (Nat.le_of_ble_eq_true rfl) ?_
  refine C_G_way e1 ?_
  refine Ev_aload_n d_Law_law_340 rfl ?_
  refine Ev_aload_n d_Law_law_341 rfl ?_
  refine Ev_iload_n d_Law_law_342 rfl ?_
  refine Ev_iconst (v := 1) d_Law_law_343 (by decide) ?_
  refine Ev_iadd d_Law_law_344 ?_
  refine Ev_sld d_Law_law_345 h1 ?_
  refine Ev_aload_n d_Law_law_346 rfl ?_
  refine Ev_iload_n d_Law_law_347 rfl ?_
  refine Ev_iconst (v := 2) d_Law_law_348 (by decide) ?_
  refine Ev_iadd d_Law_law_349 ?_
  refine Ev_sld d_Law_law_350 h2 ?_
  refine Ev_aload_n d_Law_law_351 rfl ?_
  refine Ev_iload_n d_Law_law_352 rfl ?_
  refine Ev_iconst (v := 3) d_Law_law_353 (by decide) ?_
  refine Ev_iadd d_Law_law_354 ?_
  refine Ev_sld d_Law_law_355 h3 ?_
  refine k_Law_65 rfl d_Law_law_356 ⟨by decide, by decide⟩ (Nat.le_of_ble_eq_true rfl) ?_
  refine C_Mod_way e2 ?_
  exact Ev_icmp_eq (tgt := 410) d_Law_law_359 rfl (fun _ => kk c' m' hR) (fun z => absurd rfl z)
theorem law_case_10 {E : x_E} {R : Nat → x_S → x_S → Prop} {n : Nat} {c m : x_S} {i : Int32} {Q : Int32 → x_H → Prop} (ha : x_all R n c m) (h1 : vp_in (i + 1) E.2.2.2.1) (h2 : vp_in (i + 2) E.2.2.2.1) (h3 : vp_in (i + 3) E.2.2.2.1) (kk : ∀ c' m', R (n + 1) c' m' → Ev E m_Law_law 0 0 410 [some (.ref 1000), some (.ref 0), some (.ref 46), some (.int i)] [] (hpk c' m') Q) : Ev E m_Law_law 0 0 364 [some (.ref 1000), some (.ref 0), some (.ref 46), some (.int i)] [] (hpk c m) Q := by
  obtain ⟨r, c', m', e1, e2, hR⟩ := ha.2.2.2.2.2.2.2.2.2.2.1 (E.2.2.2.2 (i + 1).toNatClampNeg)
  refine Ev_aload_n d_Law_law_364 rfl ?_
  refine Ev_aload_n d_Law_law_365 rfl ?_
  refine Ev_iload_n d_Law_law_366 rfl ?_
  refine Ev_iconst (v := 1) d_Law_law_367 (by decide) ?_
  refine Ev_iadd d_Law_law_368 ?_
  refine Ev_sld d_Law_law_369 h1 ?_
  refine k_Law_66 rfl d_Law_law_370 ⟨by decide, by decide⟩ (Nat.le_of_ble_eq_true rfl) ?_
  refine C_G_marks e1 ?_
  refine Ev_aload_n d_Law_law_373 rfl ?_
  refine Ev_aload_n d_Law_law_374 rfl ?_
  refine Ev_iload_n d_Law_law_375 rfl ?_
  refine Ev_iconst (v := 1) d_Law_law_376 (by decide) ?_
  refine Ev_iadd d_Law_law_377 ?_
  refine Ev_sld d_Law_law_378 h1 ?_
  refine k_Law_69 rfl d_Law_law_379 ⟨by decide, by decide⟩ (Nat.le_of_ble_eq_true rfl) ?_
  refine C_Mod_marks e2 ?_
  exact Ev_icmp_eq (tgt := 410) d_Law_law_382 rfl (fun _ => kk c' m' hR) (fun z => absurd rfl z)
theorem law_case_11 {E : x_E} {R : Nat → x_S → x_S → Prop} {n : Nat} {c m : x_S} {i : Int32} {Q : Int32 → x_H → Prop} (ha : x_all R n c m) (h1 : vp_in (i + 1) E.2.2.2.1) (h2 : vp_in (i + 2) E.2.2.2.1) (h3 : vp_in (i + 3) E.2.2.2.1) (kk : ∀ c' m', R (n + 1) c' m' → Ev E m_Law_law 0 0 410 [some (.ref 1000), some (.ref 0), some (.ref 46), some (.int i)] [] (hpk c' m') Q) : Ev E m_Law_law 0 0 387 [some (.ref 1000), some (.ref 0), some (.ref 46), some (.int i)] [] (hpk c m) Q := by
  obtain ⟨r, c', m', e1, e2, hR⟩ := ha.2.2.2.2.2.2.2.2.2.2.2 (E.2.2.2.2 (i + 1).toNatClampNeg)
  refine Ev_aload_n d_Law_law_387 rfl ?_
  refine Ev_aload_n d_Law_law_388 rfl ?_
  refine Ev_iload_n d_Law_law_389 rfl ?_
  refine Ev_iconst (v := 1) d_Law_law_390 (by decide) ?_
  refine Ev_iadd d_Law_law_391 ?_
  refine Ev_sld d_Law_law_392 h1 ?_
  refine k_Law_70 rfl d_Law_law_393 ⟨by decide, by decide⟩ (Nat.le_of_ble_eq_true rfl) ?_
  refine C_G_note e1 ?_
  refine Ev_aload_n d_Law_law_396 rfl ?_
  refine Ev_aload_n d_Law_law_397 rfl ?_
  refine Ev_iload_n d_Law_law_398 rfl ?_
  refine Ev_iconst (v := 1) d_Law_law_399 (by decide) ?_
  refine Ev_iadd d_Law_law_400 ?_
  refine Ev_sld d_Law_law_401 h1 ?_
  refine k_Law_73 rfl d_Law_law_402 ⟨by decide, by decide⟩ (Nat.le_of_ble_eq_true rfl) ?_
  refine C_Mod_note e2 ?_
  exact Ev_icmp_eq (tgt := 410) d_Law_law_405 rfl (fun _ => kk c' m' hR) (fun z => absurd rfl z)
theorem x_lawL {L k : Nat} (hL : L ≤ 2051) (hk : k ≤ 4000) : (Int32.ofNat L - 4 < nI k) ↔ L < k + 4 := by
  have e : (Int32.ofNat L - 4 : Int32) = nI L - nI 4 := rfl
  rw [e, Int32.lt_iff_toInt_lt, pk_sub_toInt (by omega) (by omega), nI_toInt (by omega)]
  omega
theorem law_loop {E : x_E} {R : Nat → x_S → x_S → Prop} (hs : x_sim R) (hL : E.2.2.2.1 ≤ 2051) : ∀ (k n : Nat) {c m : x_S}, n ≤ 600 → E.2.2.2.1 < 4 * n + 4 * k → R n c m → Ev E m_Law_law 0 0 48 [some (.ref 1000), some (.ref 0), some (.ref 46), some (.int (nI (3 + 4 * n)))] [] (hpk c m) (fun r _ => r = 1) := by
  intro k
  induction k with
  | zero =>
    intro n c m hn hk hR
    refine Ev_iload_n d_Law_law_48 rfl ?_
    refine Ev_aload_n d_Law_law_49 rfl ?_
    refine Ev_slen d_Law_law_50 ?_
    refine Ev_iconst (v := 4) d_Law_law_51 (by decide) ?_
    refine Ev_isub d_Law_law_52 ?_
    refine Ev_icmp_gt (tgt := 416) d_Law_law_53 rfl (fun z => ?_) (fun z => absurd ((x_lawL hL (by omega)).mpr (by omega)) z)
    refine Ev_iconst (v := 1) d_Law_law_416 (by decide) ?_
    exact Ev_zreturn d_Law_law_417 rfl (Or.inr rfl) rfl
  | succ k ih =>
    intro n c m hn hk hR
    refine Ev_iload_n d_Law_law_48 rfl ?_
    refine Ev_aload_n d_Law_law_49 rfl ?_
    refine Ev_slen d_Law_law_50 ?_
    refine Ev_iconst (v := 4) d_Law_law_51 (by decide) ?_
    refine Ev_isub d_Law_law_52 ?_
    refine Ev_icmp_gt (tgt := 416) d_Law_law_53 rfl (fun z => ?_) (fun z => ?_)
    · refine Ev_iconst (v := 1) d_Law_law_416 (by decide) ?_
      exact Ev_zreturn d_Law_law_417 rfl (Or.inr rfl) rfl
    have hle : 3 + 4 * n + 4 ≤ E.2.2.2.1 := by
      rcases Nat.lt_or_ge E.2.2.2.1 (3 + 4 * n + 4) with q | q
      · exact absurd ((x_lawL hL (by omega)).mpr q) z
      · exact q
    refine Ev_aload_n d_Law_law_56 rfl ?_
    refine Ev_iload_n d_Law_law_57 rfl ?_
    refine Ev_sld d_Law_law_58 (vp_in_nI (by omega) (by omega)) ?_
    refine Ev_bipush (v := 15) d_Law_law_59 (by decide) ?_
    refine Ev_iand d_Law_law_61 ?_
    generalize (E.2.2.2.2 (nI (3 + 4 * n)).toNatClampNeg &&& 15 : Int32) = w
    have ha := hs.2 n c m (by omega) hR
    have e1 : nI (3 + 4 * n) + 1 = nI (3 + 4 * n + 1) := nI_1 _
    have e2 : nI (3 + 4 * n) + 2 = nI (3 + 4 * n + 2) := nI_add _ 2
    have e3 : nI (3 + 4 * n) + 3 = nI (3 + 4 * n + 3) := nI_add _ 3
    have h1 : vp_in (nI (3 + 4 * n) + 1) E.2.2.2.1 := by rw [e1]; exact vp_in_nI (by omega) (by omega)
    have h2 : vp_in (nI (3 + 4 * n) + 2) E.2.2.2.1 := by rw [e2]; exact vp_in_nI (by omega) (by omega)
    have h3 : vp_in (nI (3 + 4 * n) + 3) E.2.2.2.1 := by rw [e3]; exact vp_in_nI (by omega) (by omega)
    have kk : ∀ c' m', R (n + 1) c' m' → Ev E m_Law_law 0 0 410 [some (.ref 1000), some (.ref 0), some (.ref 46), some (.int (nI (3 + 4 * n)))] [] (hpk c' m') (fun r _ => r = 1) := by
      intro c' m' hR'
      refine Ev_iinc (v := nI (3 + 4 * (n + 1))) (L' := [some (.ref 1000), some (.ref 0), some (.ref 46), some (.int (nI (3 + 4 * (n + 1))))]) d_Law_law_410 rfl (nI_add (3 + 4 * n) 4) (by decide) rfl ?_
      refine Ev_goto (tgt := 48) d_Law_law_413 rfl ?_
      exact ih (n + 1) (by omega) (by omega) hR'
    by_cases b0 : w = 0
    · exact Ev_tableIn (off := 62) (tgt := 124) d_Law_law_62 (by rw [b0]; decide) (by rw [b0]; decide) (by rw [b0]; decide) rfl (law_case_0 ha h1 h2 h3 kk)
    by_cases b1 : w = 1
    · exact Ev_tableIn (off := 95) (tgt := 157) d_Law_law_62 (by rw [b1]; decide) (by rw [b1]; decide) (by rw [b1]; decide) rfl (law_case_1 ha h1 h2 h3 kk)
    by_cases b2 : w = 2
    · exact Ev_tableIn (off := 108) (tgt := 170) d_Law_law_62 (by rw [b2]; decide) (by rw [b2]; decide) (by rw [b2]; decide) rfl (law_case_2 ha h1 h2 h3 kk)
    by_cases b3 : w = 3
    · exact Ev_tableIn (off := 131) (tgt := 193) d_Law_law_62 (by rw [b3]; decide) (by rw [b3]; decide) (by rw [b3]; decide) rfl (law_case_3 ha h1 h2 h3 kk)
    by_cases b4 : w = 4
    · exact Ev_tableIn (off := 154) (tgt := 216) d_Law_law_62 (by rw [b4]; decide) (by rw [b4]; decide) (by rw [b4]; decide) rfl (law_case_4 ha h1 h2 h3 kk)
    by_cases b5 : w = 5
    · exact Ev_tableIn (off := 177) (tgt := 239) d_Law_law_62 (by rw [b5]; decide) (by rw [b5]; decide) (by rw [b5]; decide) rfl (law_case_5 ha h1 h2 h3 kk)
    by_cases b6 : w = 6
    · exact Ev_tableIn (off := 190) (tgt := 252) d_Law_law_62 (by rw [b6]; decide) (by rw [b6]; decide) (by rw [b6]; decide) rfl (law_case_6 ha h1 h2 h3 kk)
    by_cases b7 : w = 7
    · exact Ev_tableIn (off := 213) (tgt := 275) d_Law_law_62 (by rw [b7]; decide) (by rw [b7]; decide) (by rw [b7]; decide) rfl (law_case_7 ha h1 h2 h3 kk)
    by_cases b8 : w = 8
    · exact Ev_tableIn (off := 236) (tgt := 298) d_Law_law_62 (by rw [b8]; decide) (by rw [b8]; decide) (by rw [b8]; decide) rfl (law_case_8 ha h1 h2 h3 kk)
    by_cases b9 : w = 9
    · exact Ev_tableIn (off := 259) (tgt := 321) d_Law_law_62 (by rw [b9]; decide) (by rw [b9]; decide) (by rw [b9]; decide) rfl (law_case_9 ha h1 h2 h3 kk)
    by_cases b10 : w = 10
    · exact Ev_tableIn (off := 302) (tgt := 364) d_Law_law_62 (by rw [b10]; decide) (by rw [b10]; decide) (by rw [b10]; decide) rfl (law_case_10 ha h1 h2 h3 kk)
    by_cases b11 : w = 11
    · exact Ev_tableIn (off := 325) (tgt := 387) d_Law_law_62 (by rw [b11]; decide) (by rw [b11]; decide) (by rw [b11]; decide) rfl (law_case_11 ha h1 h2 h3 kk)
    have f0 := lv_neT b0 (show (0 : Int32).toInt = 0 by decide)
    have f1 := lv_neT b1 (show (1 : Int32).toInt = 1 by decide)
    have f2 := lv_neT b2 (show (2 : Int32).toInt = 2 by decide)
    have f3 := lv_neT b3 (show (3 : Int32).toInt = 3 by decide)
    have f4 := lv_neT b4 (show (4 : Int32).toInt = 4 by decide)
    have f5 := lv_neT b5 (show (5 : Int32).toInt = 5 by decide)
    have f6 := lv_neT b6 (show (6 : Int32).toInt = 6 by decide)
    have f7 := lv_neT b7 (show (7 : Int32).toInt = 7 by decide)
    have f8 := lv_neT b8 (show (8 : Int32).toInt = 8 by decide)
    have f9 := lv_neT b9 (show (9 : Int32).toInt = 9 by decide)
    have f10 := lv_neT b10 (show (10 : Int32).toInt = 10 by decide)
    have f11 := lv_neT b11 (show (11 : Int32).toInt = 11 by decide)
    exact Ev_tableOut (tgt := 410) d_Law_law_62 (by omega) rfl (kk c m (hs.1 n c m hR))
