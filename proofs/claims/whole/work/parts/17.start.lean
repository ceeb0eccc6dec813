/-! the law's start: cell, the two constructors -/
def x_cell0 (E : x_E) (k : Int32) : Int32 := if Int32.ofNat E.2.2.2.1 ≤ k then 0 else E.2.2.2.2 k.toNatClampNeg
theorem Cg_cell {E : x_E} {h : x_H} {k : Int32} {Q : Int32 → x_H → Prop} (hL : E.2.2.2.1 ≤ 2051) (hk : 0 ≤ k.toInt) (kk : Q (x_cell0 E k) h) : Call E m_Law_cell 0 0 [.ref 1000, .int k] h Q := by
  refine Call_of (L := [some (.ref 1000), some (.int k)]) (by decide) (by intro v hv; simp only [List.mem_cons, List.not_mem_nil, or_false] at hv; rcases hv with rfl | rfl <;> rfl) (Nat.le_of_ble_eq_true rfl) rfl ?_
  unfold x_cell0 at kk
  refine Ev_iload_n d_Law_cell_0 rfl ?_
  refine Ev_aload_n d_Law_cell_1 rfl ?_
  refine Ev_slen d_Law_cell_2 ?_
  refine Ev_icmp_ge (tgt := 12) d_Law_cell_3 rfl (fun z => ?_) (fun z => ?_)
  · rw [if_pos z] at kk
    refine Ev_iconst (v := 0) d_Law_cell_12 (by decide) ?_
    exact Ev_ireturn d_Law_cell_13 rfl kk
  · rw [if_neg z] at kk
    refine Ev_aload_n d_Law_cell_6 rfl ?_
    refine Ev_iload_n d_Law_cell_7 rfl ?_
    refine Ev_sld d_Law_cell_8 ?_ ?_
    · refine vp_in_iff.mpr ⟨hk, ?_⟩
      have e : (Int32.ofNat E.2.2.2.1).toInt = (E.2.2.2.1 : Int) := nI_toInt (by omega)
      rw [Int32.le_iff_toInt_le, e] at z
      omega
    · refine Ev_goto (tgt := 13) d_Law_cell_9 rfl ?_
      exact Ev_ireturn d_Law_cell_13 rfl kk
/-- the class's ints behind its constructor -/
def x_hG (E : x_E) : x_S := (x_up (x_up (x_up (x_up (x_up (x_up x_z 2 7 (2 : Int32)) 0 8 (0 : Int32)) 0 11 (-1 : Int32)) 42 0 (x_wi (x_cell0 E 0) (4 : Int32) (40 : Int32))) 42 1 (x_wi (x_cell0 E 1) (2 : Int32) (x_wi (x_cell0 E 0) (4 : Int32) (40 : Int32)))) 0 0 (x_wi (x_cell0 E 2) (0 : Int32) (4000 : Int32)))
/-- the ints behind both constructors -/
def x_h0 (E : x_E) : x_S := (x_up (x_up (x_up (x_up (x_hG E) 46 34 (-1 : Int32)) 46 0 (if (4 : Int32) ≤ (x_cell0 E 0) then (if (x_cell0 E 0) ≤ (40 : Int32) then (x_cell0 E 0) else (40 : Int32)) else (4 : Int32))) 46 1 (if (2 : Int32) ≤ (x_cell0 E 1) then (if (x_cell0 E 1) ≤ (if (4 : Int32) ≤ (x_cell0 E 0) then (if (x_cell0 E 0) ≤ (40 : Int32) then (x_cell0 E 0) else (40 : Int32)) else (4 : Int32)) then (x_cell0 E 1) else (if (4 : Int32) ≤ (x_cell0 E 0) then (if (x_cell0 E 0) ≤ (40 : Int32) then (x_cell0 E 0) else (40 : Int32)) else (4 : Int32))) else (2 : Int32))) 46 2 (if 0 ≤ (x_cell0 E 2) then (if (x_cell0 E 2) ≤ (4000 : Int32) then (x_cell0 E 2) else (4000 : Int32)) else (0 : Int32)))
theorem x_hG_z (E : x_E) : ∀ p, 46 ≤ p → ∀ j, x_hG E p j = 0 := by
  intro p hp j
  unfold x_hG x_up x_z
  rw [if_neg (by omega)]
  rw [if_neg (by omega)]
  rw [if_neg (by omega)]
  rw [if_neg (by omega)]
  rw [if_neg (by omega)]
  rw [if_neg (by omega)]
theorem x_h0_pk (E : x_E) : ((x_h0 E, x_hr_62, x_SH.take 64) : x_H) = hpk (x_h0 E) (x_h0 E) := by
  refine Prod.ext (funext fun p => ?_) rfl
  show x_h0 E p = if p < 46 then x_h0 E p else x_h0 E p
  split <;> rfl
theorem law_start {E : x_E} {Q : Int32 → x_H → Prop} (hL : E.2.2.2.1 ≤ 2051) (kk : Ev E m_Law_law 0 0 48 [some (.ref 1000), some (.ref 0), some (.ref 46), some (.int (nI 3))] [] (hpk (x_h0 E) (x_h0 E)) Q) : Ev E m_Law_law 64 1801 0 [some (.ref 1000), none, none, none] [] (x_z, x_hr_0, x_SH.take 0) Q := by
  refine Ev_newL (a := 63) (b := 1787) (ci := 0) (n := 0) (C := "TrainGuard") (T := x_TG) (N := 14) (sh' := x_SH.take 1) xw_kLaw_7 d_Law_law_0 rfl rfl (by decide) (fun _ => rfl) (fun _ => rfl) x_dfG rfl ?_
  refine Ev_dup d_Law_law_3 rfl ?_
  refine Ev_aload_n d_Law_law_4 rfl ?_
  refine Ev_iconst (v := 0) d_Law_law_5 (by decide) ?_
  refine Ev_callSi (M' := m_Law_cell) (a := 63) (a' := 0) (b := 1787) (b' := 0) (As := [.ref 1000, .int 0]) d_Law_law_6 xw_mLaw_9 xw_sLaw_cell xw_iLaw xw_dLaw_cell md_Law_cell ⟨by decide, by decide⟩ rfl rfl (Nat.le_of_ble_eq_true rfl) ?_
  refine Cg_cell hL (by decide) ?_
  refine Ev_aload_n d_Law_law_9 rfl ?_
  refine Ev_iconst (v := 1) d_Law_law_10 (by decide) ?_
  refine Ev_callSi (M' := m_Law_cell) (a := 63) (a' := 0) (b := 1787) (b' := 0) (As := [.ref 1000, .int 1]) d_Law_law_11 xw_mLaw_9 xw_sLaw_cell xw_iLaw xw_dLaw_cell md_Law_cell ⟨by decide, by decide⟩ rfl rfl (Nat.le_of_ble_eq_true rfl) ?_
  refine Cg_cell hL (by decide) ?_
  refine Ev_aload_n d_Law_law_14 rfl ?_
  refine Ev_iconst (v := 2) d_Law_law_15 (by decide) ?_
  refine Ev_callSi (M' := m_Law_cell) (a := 63) (a' := 0) (b := 1787) (b' := 0) (As := [.ref 1000, .int 2]) d_Law_law_16 xw_mLaw_9 xw_sLaw_cell xw_iLaw xw_dLaw_cell md_Law_cell ⟨by decide, by decide⟩ rfl rfl (Nat.le_of_ble_eq_true rfl) ?_
  refine Cg_cell hL (by decide) ?_
  refine Ev_callI (M' := m_G_init) (a := 18) (a' := 45) (b := 878) (b' := 909) (P := 0) (As := [.int (x_cell0 E 0), .int (x_cell0 E 1), .int (x_cell0 E 2)]) d_Law_law_19 xw_mLaw_15 xw_eG_init xw_iG xw_dG_init md_G_init ⟨by decide, by decide⟩ rfl rfl rfl (Nat.le_of_ble_eq_true rfl) ?_
  refine I_1_G_init ?_
  show Ev E m_Law_law 18 878 22 [some (.ref 1000), none, none, none] [.ref 0] (x_hG E, x_hr_45, x_SH.take 46) Q
  refine Ev_astore_n (L' := [some (.ref 1000), some (.ref 0), none, none]) d_Law_law_22 (by decide) rfl ?_
  refine Ev_newL (a := 17) (b := 834) (ci := 11) (n := 46) (C := "TrainGuardModel") (T := x_TMod) (N := 44) (sh' := x_SH.take 47) xw_kLaw_18 d_Law_law_23 rfl rfl (by decide) (fun j => x_hG_z E 46 (by decide) j) (fun _ => rfl) x_dfMod rfl ?_
  refine Ev_dup d_Law_law_26 rfl ?_
  refine Ev_aload_n d_Law_law_27 rfl ?_
  refine Ev_iconst (v := 0) d_Law_law_28 (by decide) ?_
  refine Ev_callSi (M' := m_Law_cell) (a := 17) (a' := 0) (b := 834) (b' := 0) (As := [.ref 1000, .int 0]) d_Law_law_29 xw_mLaw_9 xw_sLaw_cell xw_iLaw xw_dLaw_cell md_Law_cell ⟨by decide, by decide⟩ rfl rfl (Nat.le_of_ble_eq_true rfl) ?_
  refine Cg_cell hL (by decide) ?_
  refine Ev_aload_n d_Law_law_32 rfl ?_
  refine Ev_iconst (v := 1) d_Law_law_33 (by decide) ?_
  refine Ev_callSi (M' := m_Law_cell) (a := 17) (a' := 0) (b := 834) (b' := 0) (As := [.ref 1000, .int 1]) d_Law_law_34 xw_mLaw_9 xw_sLaw_cell xw_iLaw xw_dLaw_cell md_Law_cell ⟨by decide, by decide⟩ rfl rfl (Nat.le_of_ble_eq_true rfl) ?_
  refine Cg_cell hL (by decide) ?_
  refine Ev_aload_n d_Law_law_37 rfl ?_
  refine Ev_iconst (v := 2) d_Law_law_38 (by decide) ?_
  refine Ev_callSi (M' := m_Law_cell) (a := 17) (a' := 0) (b := 834) (b' := 0) (As := [.ref 1000, .int 2]) d_Law_law_39 xw_mLaw_9 xw_sLaw_cell xw_iLaw xw_dLaw_cell md_Law_cell ⟨by decide, by decide⟩ rfl rfl (Nat.le_of_ble_eq_true rfl) ?_
  refine Cg_cell hL (by decide) ?_
  refine Ev_callI (M' := m_Mod_init) (a := 0) (a' := 17) (b := 0) (b' := 834) (P := 46) (As := [.int (x_cell0 E 0), .int (x_cell0 E 1), .int (x_cell0 E 2)]) d_Law_law_42 xw_mLaw_20 xw_eMod_init xw_iMod xw_dMod_init md_Mod_init ⟨by decide, by decide⟩ rfl rfl rfl (Nat.le_of_ble_eq_true rfl) ?_
  refine I_91_Mod_init (HI := x_hG E) (x_hG_z E) ?_
  show Ev E m_Law_law 0 0 45 [some (.ref 1000), some (.ref 0), none, none] [.ref 46] (x_h0 E, x_hr_62, x_SH.take 64) Q
  rw [x_h0_pk]
  refine Ev_astore_n (L' := [some (.ref 1000), some (.ref 0), some (.ref 46), none]) d_Law_law_45 (by decide) rfl ?_
  refine Ev_iconst (v := 3) d_Law_law_46 (by decide) ?_
  refine Ev_istore_n (L' := [some (.ref 1000), some (.ref 0), some (.ref 46), some (.int 3)]) d_Law_law_47 (by decide) rfl ?_
  exact kk
/-- the whole law, over a relation that every call keeps and that the constructors bring about -/
theorem law_all {E : x_E} {R : Nat → x_S → x_S → Prop} (hs : x_sim R) (hL : E.2.2.2.1 ≤ 2051) (h0 : R 0 (x_h0 E) (x_h0 E)) : Ev E m_Law_law 64 1801 0 [some (.ref 1000), none, none, none] [] (x_z, x_hr_0, x_SH.take 0) (fun r _ => r = 1) :=
  law_start hL (law_loop hs hL 600 0 (by omega) (by omega) h0)
