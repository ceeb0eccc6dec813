/-! the constructors -/
def x_z : x_S := fun _ _ => 0
section
variable {E : x_E} {M : x_M} {a b pc : Nat} {L : List (Option Value)} {st : List Value} {hi : Nat → Nat → Int32} {hr : Nat → Nat → Option Nat} {sh sh' : List (Nat ⊕ (Nat × Nat))} {Q : Int32 → x_H → Prop}
theorem Ev_newL {ci index n : Nat} {C : String} {T : u_T} {N : Nat} (hw : Cond.classLink M.1.cls index C ∈ x_W) (hd : decode M.2.1 pc = .ok (.new index, 3)) (hc : x_cls[ci]? = some (C, T, N)) (hn : sh.length = n) (hP : n < 1000) (hz : ∀ j, hi n j = 0) (hr0 : ∀ j, hr n j = none) (hdf : ∀ k, k < N → defaultValue (x_fty ci k) = if x_isR ci k = true then .null else .int 0) (hsh : sh ++ [.inl ci] = sh')
    (kk : Ev E M a b (pc + 3) L (.ref n :: st) (hi, hr, sh') Q) : Ev E M (a + 1) (b + N) pc L st (hi, hr, sh) Q := by
  subst hn; subst hsh
  exact Ev_new hw hd hc hP hz hr0 hdf kk
theorem Ev_newaL {ty n k : Nat} {at0 : ArrayType} {nn : Int32} (hw : Cond.arrayClass (newarray.typeOf at0) ∈ x_W) (hd : decode M.2.1 pc = .ok (.newarray at0, 2)) (hty : (at0 = .int ∧ ty = 0) ∨ (at0 = .byte ∧ ty = 1) ∨ (at0 = .boolean ∧ ty = 2)) (hn0 : ¬ nn < 0) (hnn : nn.toNatClampNeg = k) (hn2 : k ≤ 100000) (hn : sh.length = n) (hP : n < 1000) (hz : ∀ j, hi n j = 0) (hsh : sh ++ [.inr (ty, k)] = sh')
    (kk : Ev E M a b (pc + 2) L (.ref n :: st) (hi, hr, sh') Q) : Ev E M (a + 1) (b + k) pc L (.int nn :: st) (hi, hr, sh) Q := by
  subst hn; subst hsh
  exact Ev_newa hw hd hty hn0 hnn hn2 hP hz kk
end
def x_wi (x a b : Int32) : Int32 := if a < (if b < x then b else x) then (if b < x then b else x) else a
theorem Cg_within {E : x_E} {h : x_H} {x a b : Int32} {Q : Int32 → x_H → Prop} (k : Q (x_wi x a b) h) : Call E m_G_within 0 0 [.int x, .int a, .int b] h Q := by
  refine Call_of (L := [some (.int x), some (.int a), some (.int b)]) (by decide) (by intro v hv; simp only [List.mem_cons, List.not_mem_nil, or_false] at hv; rcases hv with rfl | rfl | rfl <;> rfl) (Nat.le_of_ble_eq_true rfl) rfl ?_
  refine Ev_iload_n d_G_within_0 rfl ?_
  refine Ev_iload_n d_G_within_1 rfl ?_
  refine Ev_iload_n d_G_within_2 rfl ?_
  refine Ev_mmin xw_mG_212 d_G_within_3 (by decide) (by decide) (Nat.le_of_ble_eq_true rfl) ?_
  refine Ev_mmax xw_mG_187 d_G_within_6 (by decide) (by decide) (Nat.le_of_ble_eq_true rfl) ?_
  exact Ev_ireturn d_G_within_9 rfl k
theorem x_dfG : ∀ k, k < 14 → defaultValue (x_fty 0 k) = if x_isR 0 k = true then .null else .int 0 := by decide +kernel
theorem x_dfFrt : ∀ k, k < 3 → defaultValue (x_fty 1 k) = if x_isR 1 k = true then .null else .int 0 := by decide +kernel
theorem x_dfTrk : ∀ k, k < 8 → defaultValue (x_fty 2 k) = if x_isR 2 k = true then .null else .int 0 := by decide +kernel
theorem x_dfSpn : ∀ k, k < 4 → defaultValue (x_fty 3 k) = if x_isR 3 k = true then .null else .int 0 := by decide +kernel
theorem x_dfRes : ∀ k, k < 2 → defaultValue (x_fty 4 k) = if x_isR 4 k = true then .null else .int 0 := by decide +kernel
theorem x_dfMrk : ∀ k, k < 5 → defaultValue (x_fty 5 k) = if x_isR 5 k = true then .null else .int 0 := by decide +kernel
theorem x_dfBit : ∀ k, k < 4 → defaultValue (x_fty 6 k) = if x_isR 6 k = true then .null else .int 0 := by decide +kernel
theorem x_dfMsg : ∀ k, k < 14 → defaultValue (x_fty 7 k) = if x_isR 7 k = true then .null else .int 0 := by decide +kernel
theorem x_dfCur : ∀ k, k < 8 → defaultValue (x_fty 8 k) = if x_isR 8 k = true then .null else .int 0 := by decide +kernel
theorem x_dfBrk : ∀ k, k < 3 → defaultValue (x_fty 9 k) = if x_isR 9 k = true then .null else .int 0 := by decide +kernel
theorem x_dfNot : ∀ k, k < 3 → defaultValue (x_fty 10 k) = if x_isR 10 k = true then .null else .int 0 := by decide +kernel
theorem x_dfMod : ∀ k, k < 44 → defaultValue (x_fty 11 k) = if x_isR 11 k = true then .null else .int 0 := by decide +kernel
def x_hr_0 : Nat → Nat → Option Nat := fun _ _ => none
def x_hr_1 : Nat → Nat → Option Nat := x_upR x_hr_0 0 1 1
def x_hr_2 : Nat → Nat → Option Nat := x_upR x_hr_1 3 0 4
def x_hr_3 : Nat → Nat → Option Nat := x_upR x_hr_2 3 1 5
def x_hr_4 : Nat → Nat → Option Nat := x_upR x_hr_3 3 2 6
def x_hr_5 : Nat → Nat → Option Nat := x_upR x_hr_4 2 0 3
def x_hr_6 : Nat → Nat → Option Nat := x_upR x_hr_5 7 0 8
def x_hr_7 : Nat → Nat → Option Nat := x_upR x_hr_6 7 1 9
def x_hr_8 : Nat → Nat → Option Nat := x_upR x_hr_7 7 2 10
def x_hr_9 : Nat → Nat → Option Nat := x_upR x_hr_8 2 1 7
def x_hr_10 : Nat → Nat → Option Nat := x_upR x_hr_9 11 0 12
def x_hr_11 : Nat → Nat → Option Nat := x_upR x_hr_10 13 0 14
def x_hr_12 : Nat → Nat → Option Nat := x_upR x_hr_11 13 1 15
def x_hr_13 : Nat → Nat → Option Nat := x_upR x_hr_12 13 2 16
def x_hr_14 : Nat → Nat → Option Nat := x_upR x_hr_13 11 1 13
def x_hr_15 : Nat → Nat → Option Nat := x_upR x_hr_14 2 2 11
def x_hr_16 : Nat → Nat → Option Nat := x_upR x_hr_15 17 0 18
def x_hr_17 : Nat → Nat → Option Nat := x_upR x_hr_16 17 1 19
def x_hr_18 : Nat → Nat → Option Nat := x_upR x_hr_17 17 2 20
def x_hr_19 : Nat → Nat → Option Nat := x_upR x_hr_18 17 3 21
def x_hr_20 : Nat → Nat → Option Nat := x_upR x_hr_19 2 3 17
def x_hr_21 : Nat → Nat → Option Nat := x_upR x_hr_20 0 2 2
def x_hr_22 : Nat → Nat → Option Nat := x_upR x_hr_21 22 0 23
def x_hr_23 : Nat → Nat → Option Nat := x_upR x_hr_22 0 3 22
def x_hr_24 : Nat → Nat → Option Nat := x_upR x_hr_23 24 0 25
def x_hr_25 : Nat → Nat → Option Nat := x_upR x_hr_24 26 0 27
def x_hr_26 : Nat → Nat → Option Nat := x_upR x_hr_25 26 1 28
def x_hr_27 : Nat → Nat → Option Nat := x_upR x_hr_26 26 2 29
def x_hr_28 : Nat → Nat → Option Nat := x_upR x_hr_27 26 3 30
def x_hr_29 : Nat → Nat → Option Nat := x_upR x_hr_28 24 1 26
def x_hr_30 : Nat → Nat → Option Nat := x_upR x_hr_29 31 0 32
def x_hr_31 : Nat → Nat → Option Nat := x_upR x_hr_30 31 1 33
def x_hr_32 : Nat → Nat → Option Nat := x_upR x_hr_31 31 2 34
def x_hr_33 : Nat → Nat → Option Nat := x_upR x_hr_32 24 2 31
def x_hr_34 : Nat → Nat → Option Nat := x_upR x_hr_33 35 0 36
def x_hr_35 : Nat → Nat → Option Nat := x_upR x_hr_34 35 1 37
def x_hr_36 : Nat → Nat → Option Nat := x_upR x_hr_35 35 2 38
def x_hr_37 : Nat → Nat → Option Nat := x_upR x_hr_36 24 3 35
def x_hr_38 : Nat → Nat → Option Nat := x_upR x_hr_37 0 4 24
def x_hr_39 : Nat → Nat → Option Nat := x_upR x_hr_38 0 6 39
def x_hr_40 : Nat → Nat → Option Nat := x_upR x_hr_39 40 0 41
def x_hr_41 : Nat → Nat → Option Nat := x_upR x_hr_40 0 7 40
def x_hr_42 : Nat → Nat → Option Nat := x_upR x_hr_41 42 2 43
def x_hr_43 : Nat → Nat → Option Nat := x_upR x_hr_42 42 3 44
def x_hr_44 : Nat → Nat → Option Nat := x_upR x_hr_43 42 4 45
def x_hr_45 : Nat → Nat → Option Nat := x_upR x_hr_44 0 5 42
def x_hr_46 : Nat → Nat → Option Nat := x_upR x_hr_45 46 14 47
def x_hr_47 : Nat → Nat → Option Nat := x_upR x_hr_46 46 15 48
def x_hr_48 : Nat → Nat → Option Nat := x_upR x_hr_47 46 17 49
def x_hr_49 : Nat → Nat → Option Nat := x_upR x_hr_48 46 18 50
def x_hr_50 : Nat → Nat → Option Nat := x_upR x_hr_49 46 20 51
def x_hr_51 : Nat → Nat → Option Nat := x_upR x_hr_50 46 21 52
def x_hr_52 : Nat → Nat → Option Nat := x_upR x_hr_51 46 22 53
def x_hr_53 : Nat → Nat → Option Nat := x_upR x_hr_52 46 23 54
def x_hr_54 : Nat → Nat → Option Nat := x_upR x_hr_53 46 25 55
def x_hr_55 : Nat → Nat → Option Nat := x_upR x_hr_54 46 26 56
def x_hr_56 : Nat → Nat → Option Nat := x_upR x_hr_55 46 27 57
def x_hr_57 : Nat → Nat → Option Nat := x_upR x_hr_56 46 28 58
def x_hr_58 : Nat → Nat → Option Nat := x_upR x_hr_57 46 36 59
def x_hr_59 : Nat → Nat → Option Nat := x_upR x_hr_58 46 39 60
def x_hr_60 : Nat → Nat → Option Nat := x_upR x_hr_59 46 40 61
def x_hr_61 : Nat → Nat → Option Nat := x_upR x_hr_60 46 41 62
def x_hr_62 : Nat → Nat → Option Nat := x_upR x_hr_61 46 43 63
theorem x_hr_end : x_hr_62 = x_HR := rfl
theorem x_sh_end : x_SH.take 64 = x_SH := rfl
theorem I_2_Frt_init {E : x_E} {Q : Int32 → x_H → Prop} (kk : Q 0 (x_z, x_hr_0, x_SH.take 2)) : Call E m_Frt_init 0 0 [.ref 1] (x_z, x_hr_0, x_SH.take 2) Q := by
  refine Call_of (L := [some (.ref 1)]) (by decide) (by intro v hv; simp only [List.mem_cons, List.not_mem_nil, or_false] at hv; rw [hv]; rfl) (Nat.le_of_ble_eq_true rfl) rfl ?_
  refine Ev_aload_n d_Frt_init_0 rfl ?_
  refine Ev_obj xw_mFrt_1 d_Frt_init_1 (by decide) (by decide) ?_
  exact Ev_return d_Frt_init_4 rfl kk
theorem I_4_Spn_init {E : x_E} {Q : Int32 → x_H → Prop} (kk : Q 0 (x_z, x_hr_4, x_SH.take 7)) : Call E m_Spn_init 3 21 [.ref 3] (x_z, x_hr_1, x_SH.take 4) Q := by
  refine Call_of (L := [some (.ref 3)]) (by decide) (by intro v hv; simp only [List.mem_cons, List.not_mem_nil, or_false] at hv; rw [hv]; rfl) (Nat.le_of_ble_eq_true rfl) rfl ?_
  refine Ev_aload_n d_Spn_init_0 rfl ?_
  refine Ev_obj xw_mSpn_3 d_Spn_init_1 (by decide) (by decide) ?_
  refine Ev_aload_n d_Spn_init_4 rfl ?_
  refine Ev_bipush (v := (7)) d_Spn_init_5 (by decide) ?_
  refine Ev_newaL (at0 := .int) (a := 2) (b := 14) (ty := 0) (n := 4) (k := 7) (sh' := x_SH.take 5) xw_a_int d_Spn_init_7 (Or.inl ⟨rfl, rfl⟩) (by decide) (by decide) (by decide) rfl (by decide) (fun _ => rfl) rfl ?_
  refine Ev_putrF (ci := 3) (k := 0) (C := "TrainGuard$SpanRow") (T := x_TSpn) (N := 4) xw_fSpn_9 d_Spn_init_9 rfl (by decide) rfl rfl rfl (by decide) rfl rfl (fun _ => ⟨rfl, rfl⟩) ?_
  show Ev E m_Spn_init 2 14 12 [some (.ref 3)] [] (x_z, x_hr_2, x_SH.take 5) Q
  refine Ev_aload_n d_Spn_init_12 rfl ?_
  refine Ev_bipush (v := (7)) d_Spn_init_13 (by decide) ?_
  refine Ev_newaL (at0 := .int) (a := 1) (b := 7) (ty := 0) (n := 5) (k := 7) (sh' := x_SH.take 6) xw_a_int d_Spn_init_15 (Or.inl ⟨rfl, rfl⟩) (by decide) (by decide) (by decide) rfl (by decide) (fun _ => rfl) rfl ?_
  refine Ev_putrF (ci := 3) (k := 1) (C := "TrainGuard$SpanRow") (T := x_TSpn) (N := 4) xw_fSpn_15 d_Spn_init_17 rfl (by decide) rfl rfl rfl (by decide) rfl rfl (fun _ => ⟨rfl, rfl⟩) ?_
  show Ev E m_Spn_init 1 7 20 [some (.ref 3)] [] (x_z, x_hr_3, x_SH.take 6) Q
  refine Ev_aload_n d_Spn_init_20 rfl ?_
  refine Ev_bipush (v := (7)) d_Spn_init_21 (by decide) ?_
  refine Ev_newaL (at0 := .int) (a := 0) (b := 0) (ty := 0) (n := 6) (k := 7) (sh' := x_SH.take 7) xw_a_int d_Spn_init_23 (Or.inl ⟨rfl, rfl⟩) (by decide) (by decide) (by decide) rfl (by decide) (fun _ => rfl) rfl ?_
  refine Ev_putrF (ci := 3) (k := 2) (C := "TrainGuard$SpanRow") (T := x_TSpn) (N := 4) xw_fSpn_18 d_Spn_init_25 rfl (by decide) rfl rfl rfl (by decide) rfl rfl (fun _ => ⟨rfl, rfl⟩) ?_
  show Ev E m_Spn_init 0 0 28 [some (.ref 3)] [] (x_z, x_hr_4, x_SH.take 7) Q
  exact Ev_return d_Spn_init_28 rfl kk
theorem I_5_Spn_init {E : x_E} {Q : Int32 → x_H → Prop} (kk : Q 0 (x_z, x_hr_8, x_SH.take 11)) : Call E m_Spn_init 3 21 [.ref 7] (x_z, x_hr_5, x_SH.take 8) Q := by
  refine Call_of (L := [some (.ref 7)]) (by decide) (by intro v hv; simp only [List.mem_cons, List.not_mem_nil, or_false] at hv; rw [hv]; rfl) (Nat.le_of_ble_eq_true rfl) rfl ?_
  refine Ev_aload_n d_Spn_init_0 rfl ?_
  refine Ev_obj xw_mSpn_3 d_Spn_init_1 (by decide) (by decide) ?_
  refine Ev_aload_n d_Spn_init_4 rfl ?_
  refine Ev_bipush (v := (7)) d_Spn_init_5 (by decide) ?_
  refine Ev_newaL (at0 := .int) (a := 2) (b := 14) (ty := 0) (n := 8) (k := 7) (sh' := x_SH.take 9) xw_a_int d_Spn_init_7 (Or.inl ⟨rfl, rfl⟩) (by decide) (by decide) (by decide) rfl (by decide) (fun _ => rfl) rfl ?_
  refine Ev_putrF (ci := 3) (k := 0) (C := "TrainGuard$SpanRow") (T := x_TSpn) (N := 4) xw_fSpn_9 d_Spn_init_9 rfl (by decide) rfl rfl rfl (by decide) rfl rfl (fun _ => ⟨rfl, rfl⟩) ?_
  show Ev E m_Spn_init 2 14 12 [some (.ref 7)] [] (x_z, x_hr_6, x_SH.take 9) Q
  refine Ev_aload_n d_Spn_init_12 rfl ?_
  refine Ev_bipush (v := (7)) d_Spn_init_13 (by decide) ?_
  refine Ev_newaL (at0 := .int) (a := 1) (b := 7) (ty := 0) (n := 9) (k := 7) (sh' := x_SH.take 10) xw_a_int d_Spn_init_15 (Or.inl ⟨rfl, rfl⟩) (by decide) (by decide) (by decide) rfl (by decide) (fun _ => rfl) rfl ?_
  refine Ev_putrF (ci := 3) (k := 1) (C := "TrainGuard$SpanRow") (T := x_TSpn) (N := 4) xw_fSpn_15 d_Spn_init_17 rfl (by decide) rfl rfl rfl (by decide) rfl rfl (fun _ => ⟨rfl, rfl⟩) ?_
  show Ev E m_Spn_init 1 7 20 [some (.ref 7)] [] (x_z, x_hr_7, x_SH.take 10) Q
  refine Ev_aload_n d_Spn_init_20 rfl ?_
  refine Ev_bipush (v := (7)) d_Spn_init_21 (by decide) ?_
  refine Ev_newaL (at0 := .int) (a := 0) (b := 0) (ty := 0) (n := 10) (k := 7) (sh' := x_SH.take 11) xw_a_int d_Spn_init_23 (Or.inl ⟨rfl, rfl⟩) (by decide) (by decide) (by decide) rfl (by decide) (fun _ => rfl) rfl ?_
  refine Ev_putrF (ci := 3) (k := 2) (C := "TrainGuard$SpanRow") (T := x_TSpn) (N := 4) xw_fSpn_18 d_Spn_init_25 rfl (by decide) rfl rfl rfl (by decide) rfl rfl (fun _ => ⟨rfl, rfl⟩) ?_
  show Ev E m_Spn_init 0 0 28 [some (.ref 7)] [] (x_z, x_hr_8, x_SH.take 11) Q
  exact Ev_return d_Spn_init_28 rfl kk
theorem I_7_Spn_init {E : x_E} {Q : Int32 → x_H → Prop} (kk : Q 0 (x_z, x_hr_13, x_SH.take 17)) : Call E m_Spn_init 3 21 [.ref 13] (x_z, x_hr_10, x_SH.take 14) Q := by
  refine Call_of (L := [some (.ref 13)]) (by decide) (by intro v hv; simp only [List.mem_cons, List.not_mem_nil, or_false] at hv; rw [hv]; rfl) (Nat.le_of_ble_eq_true rfl) rfl ?_
  refine Ev_aload_n d_Spn_init_0 rfl ?_
  refine Ev_obj xw_mSpn_3 d_Spn_init_1 (by decide) (by decide) ?_
  refine Ev_aload_n d_Spn_init_4 rfl ?_
  refine Ev_bipush (v := (7)) d_Spn_init_5 (by decide) ?_
  refine Ev_newaL (at0 := .int) (a := 2) (b := 14) (ty := 0) (n := 14) (k := 7) (sh' := x_SH.take 15) xw_a_int d_Spn_init_7 (Or.inl ⟨rfl, rfl⟩) (by decide) (by decide) (by decide) rfl (by decide) (fun _ => rfl) rfl ?_
  refine Ev_putrF (ci := 3) (k := 0) (C := "TrainGuard$SpanRow") (T := x_TSpn) (N := 4) xw_fSpn_9 d_Spn_init_9 rfl (by decide) rfl rfl rfl (by decide) rfl rfl (fun _ => ⟨rfl, rfl⟩) ?_
  show Ev E m_Spn_init 2 14 12 [some (.ref 13)] [] (x_z, x_hr_11, x_SH.take 15) Q
  refine Ev_aload_n d_Spn_init_12 rfl ?_
  refine Ev_bipush (v := (7)) d_Spn_init_13 (by decide) ?_
  refine Ev_newaL (at0 := .int) (a := 1) (b := 7) (ty := 0) (n := 15) (k := 7) (sh' := x_SH.take 16) xw_a_int d_Spn_init_15 (Or.inl ⟨rfl, rfl⟩) (by decide) (by decide) (by decide) rfl (by decide) (fun _ => rfl) rfl ?_
  refine Ev_putrF (ci := 3) (k := 1) (C := "TrainGuard$SpanRow") (T := x_TSpn) (N := 4) xw_fSpn_15 d_Spn_init_17 rfl (by decide) rfl rfl rfl (by decide) rfl rfl (fun _ => ⟨rfl, rfl⟩) ?_
  show Ev E m_Spn_init 1 7 20 [some (.ref 13)] [] (x_z, x_hr_12, x_SH.take 16) Q
  refine Ev_aload_n d_Spn_init_20 rfl ?_
  refine Ev_bipush (v := (7)) d_Spn_init_21 (by decide) ?_
  refine Ev_newaL (at0 := .int) (a := 0) (b := 0) (ty := 0) (n := 16) (k := 7) (sh' := x_SH.take 17) xw_a_int d_Spn_init_23 (Or.inl ⟨rfl, rfl⟩) (by decide) (by decide) (by decide) rfl (by decide) (fun _ => rfl) rfl ?_
  refine Ev_putrF (ci := 3) (k := 2) (C := "TrainGuard$SpanRow") (T := x_TSpn) (N := 4) xw_fSpn_18 d_Spn_init_25 rfl (by decide) rfl rfl rfl (by decide) rfl rfl (fun _ => ⟨rfl, rfl⟩) ?_
  show Ev E m_Spn_init 0 0 28 [some (.ref 13)] [] (x_z, x_hr_13, x_SH.take 17) Q
  exact Ev_return d_Spn_init_28 rfl kk
theorem I_6_Res_init {E : x_E} {Q : Int32 → x_H → Prop} (kk : Q 0 (x_z, x_hr_14, x_SH.take 17)) : Call E m_Res_init 5 31 [.ref 11] (x_z, x_hr_9, x_SH.take 12) Q := by
  refine Call_of (L := [some (.ref 11)]) (by decide) (by intro v hv; simp only [List.mem_cons, List.not_mem_nil, or_false] at hv; rw [hv]; rfl) (Nat.le_of_ble_eq_true rfl) rfl ?_
  refine Ev_aload_n d_Res_init_0 rfl ?_
  refine Ev_obj xw_mRes_3 d_Res_init_1 (by decide) (by decide) ?_
  refine Ev_aload_n d_Res_init_4 rfl ?_
  refine Ev_bipush (v := (6)) d_Res_init_5 (by decide) ?_
  refine Ev_newaL (at0 := .int) (a := 4) (b := 25) (ty := 0) (n := 12) (k := 6) (sh' := x_SH.take 13) xw_a_int d_Res_init_7 (Or.inl ⟨rfl, rfl⟩) (by decide) (by decide) (by decide) rfl (by decide) (fun _ => rfl) rfl ?_
  refine Ev_putrF (ci := 4) (k := 0) (C := "TrainGuard$Restrictions") (T := x_TRes) (N := 2) xw_fRes_9 d_Res_init_9 rfl (by decide) rfl rfl rfl (by decide) rfl rfl (fun _ => ⟨rfl, rfl⟩) ?_
  show Ev E m_Res_init 4 25 12 [some (.ref 11)] [] (x_z, x_hr_10, x_SH.take 13) Q
  refine Ev_aload_n d_Res_init_12 rfl ?_
  refine Ev_newL (a := 3) (b := 21) (ci := 3) (n := 13) (C := "TrainGuard$SpanRow") (T := x_TSpn) (N := 4) (sh' := x_SH.take 14) xw_kRes_15 d_Res_init_13 rfl rfl (by decide) (fun _ => rfl) (fun _ => rfl) x_dfSpn rfl ?_
  refine Ev_dup d_Res_init_16 rfl ?_
  refine Ev_callIN (M' := m_Spn_init) (a := 0) (a' := 3) (b := 0) (b' := 21) (P := 13) (As := []) d_Res_init_17 xw_oRes_17 xw_eSpn_init xw_iSpn xw_dSpn_init md_Spn_init ⟨by decide, by decide⟩ rfl rfl rfl (Nat.le_of_ble_eq_true rfl) ?_
  refine I_7_Spn_init ?_
  refine Ev_putrF (ci := 4) (k := 1) (C := "TrainGuard$Restrictions") (T := x_TRes) (N := 2) xw_fRes_18 d_Res_init_20 rfl (by decide) rfl rfl rfl (by decide) rfl rfl (fun _ => ⟨rfl, rfl⟩) ?_
  show Ev E m_Res_init 0 0 23 [some (.ref 11)] [] (x_z, x_hr_14, x_SH.take 17) Q
  exact Ev_return d_Res_init_23 rfl kk
theorem I_8_Mrk_init {E : x_E} {Q : Int32 → x_H → Prop} (kk : Q 0 (x_z, x_hr_19, x_SH.take 22)) : Call E m_Mrk_init 4 28 [.ref 17] (x_z, x_hr_15, x_SH.take 18) Q := by
  refine Call_of (L := [some (.ref 17)]) (by decide) (by intro v hv; simp only [List.mem_cons, List.not_mem_nil, or_false] at hv; rw [hv]; rfl) (Nat.le_of_ble_eq_true rfl) rfl ?_
  refine Ev_aload_n d_Mrk_init_0 rfl ?_
  refine Ev_obj xw_mMrk_3 d_Mrk_init_1 (by decide) (by decide) ?_
  refine Ev_aload_n d_Mrk_init_4 rfl ?_
  refine Ev_bipush (v := (7)) d_Mrk_init_5 (by decide) ?_
  refine Ev_newaL (at0 := .int) (a := 3) (b := 21) (ty := 0) (n := 18) (k := 7) (sh' := x_SH.take 19) xw_a_int d_Mrk_init_7 (Or.inl ⟨rfl, rfl⟩) (by decide) (by decide) (by decide) rfl (by decide) (fun _ => rfl) rfl ?_
  refine Ev_putrF (ci := 5) (k := 0) (C := "TrainGuard$MarkRow") (T := x_TMrk) (N := 5) xw_fMrk_9 d_Mrk_init_9 rfl (by decide) rfl rfl rfl (by decide) rfl rfl (fun _ => ⟨rfl, rfl⟩) ?_
  show Ev E m_Mrk_init 3 21 12 [some (.ref 17)] [] (x_z, x_hr_16, x_SH.take 19) Q
  refine Ev_aload_n d_Mrk_init_12 rfl ?_
  refine Ev_bipush (v := (7)) d_Mrk_init_13 (by decide) ?_
  refine Ev_newaL (at0 := .int) (a := 2) (b := 14) (ty := 0) (n := 19) (k := 7) (sh' := x_SH.take 20) xw_a_int d_Mrk_init_15 (Or.inl ⟨rfl, rfl⟩) (by decide) (by decide) (by decide) rfl (by decide) (fun _ => rfl) rfl ?_
  refine Ev_putrF (ci := 5) (k := 1) (C := "TrainGuard$MarkRow") (T := x_TMrk) (N := 5) xw_fMrk_15 d_Mrk_init_17 rfl (by decide) rfl rfl rfl (by decide) rfl rfl (fun _ => ⟨rfl, rfl⟩) ?_
  show Ev E m_Mrk_init 2 14 20 [some (.ref 17)] [] (x_z, x_hr_17, x_SH.take 20) Q
  refine Ev_aload_n d_Mrk_init_20 rfl ?_
  refine Ev_bipush (v := (7)) d_Mrk_init_21 (by decide) ?_
  refine Ev_newaL (at0 := .int) (a := 1) (b := 7) (ty := 0) (n := 20) (k := 7) (sh' := x_SH.take 21) xw_a_int d_Mrk_init_23 (Or.inl ⟨rfl, rfl⟩) (by decide) (by decide) (by decide) rfl (by decide) (fun _ => rfl) rfl ?_
  refine Ev_putrF (ci := 5) (k := 2) (C := "TrainGuard$MarkRow") (T := x_TMrk) (N := 5) xw_fMrk_18 d_Mrk_init_25 rfl (by decide) rfl rfl rfl (by decide) rfl rfl (fun _ => ⟨rfl, rfl⟩) ?_
  show Ev E m_Mrk_init 1 7 28 [some (.ref 17)] [] (x_z, x_hr_18, x_SH.take 21) Q
  refine Ev_aload_n d_Mrk_init_28 rfl ?_
  refine Ev_bipush (v := (7)) d_Mrk_init_29 (by decide) ?_
  refine Ev_newaL (at0 := .boolean) (a := 0) (b := 0) (ty := 2) (n := 21) (k := 7) (sh' := x_SH.take 22) xw_a_boolean d_Mrk_init_31 (Or.inr (Or.inr ⟨rfl, rfl⟩)) (by decide) (by decide) (by decide) rfl (by decide) (fun _ => rfl) rfl ?_
  refine Ev_putrF (ci := 5) (k := 3) (C := "TrainGuard$MarkRow") (T := x_TMrk) (N := 5) xw_fMrk_21 d_Mrk_init_33 rfl (by decide) rfl rfl rfl (by decide) rfl rfl (fun _ => ⟨rfl, rfl⟩) ?_
  show Ev E m_Mrk_init 0 0 36 [some (.ref 17)] [] (x_z, x_hr_19, x_SH.take 22) Q
  exact Ev_return d_Mrk_init_36 rfl kk
theorem I_3_Trk_init {E : x_E} {Q : Int32 → x_H → Prop} (kk : Q 0 ((x_up x_z 2 7 (2 : Int32)), x_hr_20, x_SH.take 22)) : Call E m_Trk_init 19 116 [.ref 2] (x_z, x_hr_1, x_SH.take 3) Q := by
  refine Call_of (L := [some (.ref 2)]) (by decide) (by intro v hv; simp only [List.mem_cons, List.not_mem_nil, or_false] at hv; rw [hv]; rfl) (Nat.le_of_ble_eq_true rfl) rfl ?_
  refine Ev_aload_n d_Trk_init_0 rfl ?_
  refine Ev_obj xw_mTrk_3 d_Trk_init_1 (by decide) (by decide) ?_
  refine Ev_aload_n d_Trk_init_4 rfl ?_
  refine Ev_newL (a := 18) (b := 112) (ci := 3) (n := 3) (C := "TrainGuard$SpanRow") (T := x_TSpn) (N := 4) (sh' := x_SH.take 4) xw_kTrk_9 d_Trk_init_5 rfl rfl (by decide) (fun _ => rfl) (fun _ => rfl) x_dfSpn rfl ?_
  refine Ev_dup d_Trk_init_8 rfl ?_
  refine Ev_callIN (M' := m_Spn_init) (a := 15) (a' := 3) (b := 91) (b' := 21) (P := 3) (As := []) d_Trk_init_9 xw_oTrk_11 xw_eSpn_init xw_iSpn xw_dSpn_init md_Spn_init ⟨by decide, by decide⟩ rfl rfl rfl (Nat.le_of_ble_eq_true rfl) ?_
  refine I_4_Spn_init ?_
  refine Ev_putrF (ci := 2) (k := 0) (C := "TrainGuard$Track") (T := x_TTrk) (N := 8) xw_fTrk_12 d_Trk_init_12 rfl (by decide) rfl rfl rfl (by decide) rfl rfl (fun _ => ⟨rfl, rfl⟩) ?_
  show Ev E m_Trk_init 15 91 15 [some (.ref 2)] [] (x_z, x_hr_5, x_SH.take 7) Q
  refine Ev_aload_n d_Trk_init_15 rfl ?_
  refine Ev_newL (a := 14) (b := 87) (ci := 3) (n := 7) (C := "TrainGuard$SpanRow") (T := x_TSpn) (N := 4) (sh' := x_SH.take 8) xw_kTrk_9 d_Trk_init_16 rfl rfl (by decide) (fun _ => rfl) (fun _ => rfl) x_dfSpn rfl ?_
  refine Ev_dup d_Trk_init_19 rfl ?_
  refine Ev_callIN (M' := m_Spn_init) (a := 11) (a' := 3) (b := 66) (b' := 21) (P := 7) (As := []) d_Trk_init_20 xw_oTrk_11 xw_eSpn_init xw_iSpn xw_dSpn_init md_Spn_init ⟨by decide, by decide⟩ rfl rfl rfl (Nat.le_of_ble_eq_true rfl) ?_
  refine I_5_Spn_init ?_
  refine Ev_putrF (ci := 2) (k := 1) (C := "TrainGuard$Track") (T := x_TTrk) (N := 8) xw_fTrk_18 d_Trk_init_23 rfl (by decide) rfl rfl rfl (by decide) rfl rfl (fun _ => ⟨rfl, rfl⟩) ?_
  show Ev E m_Trk_init 11 66 26 [some (.ref 2)] [] (x_z, x_hr_9, x_SH.take 11) Q
  refine Ev_aload_n d_Trk_init_26 rfl ?_
  refine Ev_newL (a := 10) (b := 64) (ci := 4) (n := 11) (C := "TrainGuard$Restrictions") (T := x_TRes) (N := 2) (sh' := x_SH.take 12) xw_kTrk_21 d_Trk_init_27 rfl rfl (by decide) (fun _ => rfl) (fun _ => rfl) x_dfRes rfl ?_
  refine Ev_dup d_Trk_init_30 rfl ?_
  refine Ev_callIN (M' := m_Res_init) (a := 5) (a' := 5) (b := 33) (b' := 31) (P := 11) (As := []) d_Trk_init_31 xw_oTrk_23 xw_eRes_init xw_iRes xw_dRes_init md_Res_init ⟨by decide, by decide⟩ rfl rfl rfl (Nat.le_of_ble_eq_true rfl) ?_
  refine I_6_Res_init ?_
  refine Ev_putrF (ci := 2) (k := 2) (C := "TrainGuard$Track") (T := x_TTrk) (N := 8) xw_fTrk_24 d_Trk_init_34 rfl (by decide) rfl rfl rfl (by decide) rfl rfl (fun _ => ⟨rfl, rfl⟩) ?_
  show Ev E m_Trk_init 5 33 37 [some (.ref 2)] [] (x_z, x_hr_15, x_SH.take 17) Q
  refine Ev_aload_n d_Trk_init_37 rfl ?_
  refine Ev_newL (a := 4) (b := 28) (ci := 5) (n := 17) (C := "TrainGuard$MarkRow") (T := x_TMrk) (N := 5) (sh' := x_SH.take 18) xw_kTrk_28 d_Trk_init_38 rfl rfl (by decide) (fun _ => rfl) (fun _ => rfl) x_dfMrk rfl ?_
  refine Ev_dup d_Trk_init_41 rfl ?_
  refine Ev_callIN (M' := m_Mrk_init) (a := 0) (a' := 4) (b := 0) (b' := 28) (P := 17) (As := []) d_Trk_init_42 xw_oTrk_30 xw_eMrk_init xw_iMrk xw_dMrk_init md_Mrk_init ⟨by decide, by decide⟩ rfl rfl rfl (Nat.le_of_ble_eq_true rfl) ?_
  refine I_8_Mrk_init ?_
  refine Ev_putrF (ci := 2) (k := 3) (C := "TrainGuard$Track") (T := x_TTrk) (N := 8) xw_fTrk_31 d_Trk_init_45 rfl (by decide) rfl rfl rfl (by decide) rfl rfl (fun _ => ⟨rfl, rfl⟩) ?_
  show Ev E m_Trk_init 0 0 48 [some (.ref 2)] [] (x_z, x_hr_20, x_SH.take 22) Q
  refine Ev_aload_n d_Trk_init_48 rfl ?_
  refine Ev_iconst (v := (2)) d_Trk_init_49 (by decide) ?_
  refine Ev_puti (ci := 2) (k := 7) (C := "TrainGuard$Track") (T := x_TTrk) (N := 8) xw_fTrk_35 d_Trk_init_50 rfl (by decide) rfl (by decide) rfl (Or.inl rfl) ?_
  exact Ev_return d_Trk_init_53 rfl kk
theorem I_9_Bit_init {E : x_E} {Q : Int32 → x_H → Prop} (kk : Q 0 ((x_up x_z 2 7 (2 : Int32)), x_hr_22, x_SH.take 24)) : Call E m_Bit_init 1 600 [.ref 22] ((x_up x_z 2 7 (2 : Int32)), x_hr_21, x_SH.take 23) Q := by
  refine Call_of (L := [some (.ref 22)]) (by decide) (by intro v hv; simp only [List.mem_cons, List.not_mem_nil, or_false] at hv; rw [hv]; rfl) (Nat.le_of_ble_eq_true rfl) rfl ?_
  refine Ev_aload_n d_Bit_init_0 rfl ?_
  refine Ev_obj xw_mBit_3 d_Bit_init_1 (by decide) (by decide) ?_
  refine Ev_aload_n d_Bit_init_4 rfl ?_
  refine Ev_sipush (v := (600)) d_Bit_init_5 (by decide) ?_
  refine Ev_newaL (at0 := .byte) (a := 0) (b := 0) (ty := 1) (n := 23) (k := 600) (sh' := x_SH.take 24) xw_a_byte d_Bit_init_8 (Or.inr (Or.inl ⟨rfl, rfl⟩)) (by decide) (by decide) (by decide) rfl (by decide) (fun _ => rfl) rfl ?_
  refine Ev_putrF (ci := 6) (k := 0) (C := "TrainGuard$BitRow") (T := x_TBit) (N := 4) xw_fBit_9 d_Bit_init_10 rfl (by decide) rfl rfl rfl (by decide) rfl rfl (fun _ => ⟨rfl, rfl⟩) ?_
  show Ev E m_Bit_init 0 0 13 [some (.ref 22)] [] ((x_up x_z 2 7 (2 : Int32)), x_hr_22, x_SH.take 24) Q
  exact Ev_return d_Bit_init_13 rfl kk
theorem I_11_Mrk_init {E : x_E} {Q : Int32 → x_H → Prop} (kk : Q 0 ((x_up x_z 2 7 (2 : Int32)), x_hr_28, x_SH.take 31)) : Call E m_Mrk_init 4 28 [.ref 26] ((x_up x_z 2 7 (2 : Int32)), x_hr_24, x_SH.take 27) Q := by
  refine Call_of (L := [some (.ref 26)]) (by decide) (by intro v hv; simp only [List.mem_cons, List.not_mem_nil, or_false] at hv; rw [hv]; rfl) (Nat.le_of_ble_eq_true rfl) rfl ?_
  refine Ev_aload_n d_Mrk_init_0 rfl ?_
  refine Ev_obj xw_mMrk_3 d_Mrk_init_1 (by decide) (by decide) ?_
  refine Ev_aload_n d_Mrk_init_4 rfl ?_
  refine Ev_bipush (v := (7)) d_Mrk_init_5 (by decide) ?_
  refine Ev_newaL (at0 := .int) (a := 3) (b := 21) (ty := 0) (n := 27) (k := 7) (sh' := x_SH.take 28) xw_a_int d_Mrk_init_7 (Or.inl ⟨rfl, rfl⟩) (by decide) (by decide) (by decide) rfl (by decide) (fun _ => rfl) rfl ?_
  refine Ev_putrF (ci := 5) (k := 0) (C := "TrainGuard$MarkRow") (T := x_TMrk) (N := 5) xw_fMrk_9 d_Mrk_init_9 rfl (by decide) rfl rfl rfl (by decide) rfl rfl (fun _ => ⟨rfl, rfl⟩) ?_
  show Ev E m_Mrk_init 3 21 12 [some (.ref 26)] [] ((x_up x_z 2 7 (2 : Int32)), x_hr_25, x_SH.take 28) Q
  refine Ev_aload_n d_Mrk_init_12 rfl ?_
  refine Ev_bipush (v := (7)) d_Mrk_init_13 (by decide) ?_
  refine Ev_newaL (at0 := .int) (a := 2) (b := 14) (ty := 0) (n := 28) (k := 7) (sh' := x_SH.take 29) xw_a_int d_Mrk_init_15 (Or.inl ⟨rfl, rfl⟩) (by decide) (by decide) (by decide) rfl (by decide) (fun _ => rfl) rfl ?_
  refine Ev_putrF (ci := 5) (k := 1) (C := "TrainGuard$MarkRow") (T := x_TMrk) (N := 5) xw_fMrk_15 d_Mrk_init_17 rfl (by decide) rfl rfl rfl (by decide) rfl rfl (fun _ => ⟨rfl, rfl⟩) ?_
  show Ev E m_Mrk_init 2 14 20 [some (.ref 26)] [] ((x_up x_z 2 7 (2 : Int32)), x_hr_26, x_SH.take 29) Q
  refine Ev_aload_n d_Mrk_init_20 rfl ?_
  refine Ev_bipush (v := (7)) d_Mrk_init_21 (by decide) ?_
  refine Ev_newaL (at0 := .int) (a := 1) (b := 7) (ty := 0) (n := 29) (k := 7) (sh' := x_SH.take 30) xw_a_int d_Mrk_init_23 (Or.inl ⟨rfl, rfl⟩) (by decide) (by decide) (by decide) rfl (by decide) (fun _ => rfl) rfl ?_
  refine Ev_putrF (ci := 5) (k := 2) (C := "TrainGuard$MarkRow") (T := x_TMrk) (N := 5) xw_fMrk_18 d_Mrk_init_25 rfl (by decide) rfl rfl rfl (by decide) rfl rfl (fun _ => ⟨rfl, rfl⟩) ?_
  show Ev E m_Mrk_init 1 7 28 [some (.ref 26)] [] ((x_up x_z 2 7 (2 : Int32)), x_hr_27, x_SH.take 30) Q
  refine Ev_aload_n d_Mrk_init_28 rfl ?_
  refine Ev_bipush (v := (7)) d_Mrk_init_29 (by decide) ?_
  refine Ev_newaL (at0 := .boolean) (a := 0) (b := 0) (ty := 2) (n := 30) (k := 7) (sh' := x_SH.take 31) xw_a_boolean d_Mrk_init_31 (Or.inr (Or.inr ⟨rfl, rfl⟩)) (by decide) (by decide) (by decide) rfl (by decide) (fun _ => rfl) rfl ?_
  refine Ev_putrF (ci := 5) (k := 3) (C := "TrainGuard$MarkRow") (T := x_TMrk) (N := 5) xw_fMrk_21 d_Mrk_init_33 rfl (by decide) rfl rfl rfl (by decide) rfl rfl (fun _ => ⟨rfl, rfl⟩) ?_
  show Ev E m_Mrk_init 0 0 36 [some (.ref 26)] [] ((x_up x_z 2 7 (2 : Int32)), x_hr_28, x_SH.take 31) Q
  exact Ev_return d_Mrk_init_36 rfl kk
theorem I_12_Spn_init {E : x_E} {Q : Int32 → x_H → Prop} (kk : Q 0 ((x_up x_z 2 7 (2 : Int32)), x_hr_32, x_SH.take 35)) : Call E m_Spn_init 3 21 [.ref 31] ((x_up x_z 2 7 (2 : Int32)), x_hr_29, x_SH.take 32) Q := by
  refine Call_of (L := [some (.ref 31)]) (by decide) (by intro v hv; simp only [List.mem_cons, List.not_mem_nil, or_false] at hv; rw [hv]; rfl) (Nat.le_of_ble_eq_true rfl) rfl ?_
  refine Ev_aload_n d_Spn_init_0 rfl ?_
  refine Ev_obj xw_mSpn_3 d_Spn_init_1 (by decide) (by decide) ?_
  refine Ev_aload_n d_Spn_init_4 rfl ?_
  refine Ev_bipush (v := (7)) d_Spn_init_5 (by decide) ?_
  refine Ev_newaL (at0 := .int) (a := 2) (b := 14) (ty := 0) (n := 32) (k := 7) (sh' := x_SH.take 33) xw_a_int d_Spn_init_7 (Or.inl ⟨rfl, rfl⟩) (by decide) (by decide) (by decide) rfl (by decide) (fun _ => rfl) rfl ?_
  refine Ev_putrF (ci := 3) (k := 0) (C := "TrainGuard$SpanRow") (T := x_TSpn) (N := 4) xw_fSpn_9 d_Spn_init_9 rfl (by decide) rfl rfl rfl (by decide) rfl rfl (fun _ => ⟨rfl, rfl⟩) ?_
  show Ev E m_Spn_init 2 14 12 [some (.ref 31)] [] ((x_up x_z 2 7 (2 : Int32)), x_hr_30, x_SH.take 33) Q
  refine Ev_aload_n d_Spn_init_12 rfl ?_
  refine Ev_bipush (v := (7)) d_Spn_init_13 (by decide) ?_
  refine Ev_newaL (at0 := .int) (a := 1) (b := 7) (ty := 0) (n := 33) (k := 7) (sh' := x_SH.take 34) xw_a_int d_Spn_init_15 (Or.inl ⟨rfl, rfl⟩) (by decide) (by decide) (by decide) rfl (by decide) (fun _ => rfl) rfl ?_
  refine Ev_putrF (ci := 3) (k := 1) (C := "TrainGuard$SpanRow") (T := x_TSpn) (N := 4) xw_fSpn_15 d_Spn_init_17 rfl (by decide) rfl rfl rfl (by decide) rfl rfl (fun _ => ⟨rfl, rfl⟩) ?_
  show Ev E m_Spn_init 1 7 20 [some (.ref 31)] [] ((x_up x_z 2 7 (2 : Int32)), x_hr_31, x_SH.take 34) Q
  refine Ev_aload_n d_Spn_init_20 rfl ?_
  refine Ev_bipush (v := (7)) d_Spn_init_21 (by decide) ?_
  refine Ev_newaL (at0 := .int) (a := 0) (b := 0) (ty := 0) (n := 34) (k := 7) (sh' := x_SH.take 35) xw_a_int d_Spn_init_23 (Or.inl ⟨rfl, rfl⟩) (by decide) (by decide) (by decide) rfl (by decide) (fun _ => rfl) rfl ?_
  refine Ev_putrF (ci := 3) (k := 2) (C := "TrainGuard$SpanRow") (T := x_TSpn) (N := 4) xw_fSpn_18 d_Spn_init_25 rfl (by decide) rfl rfl rfl (by decide) rfl rfl (fun _ => ⟨rfl, rfl⟩) ?_
  show Ev E m_Spn_init 0 0 28 [some (.ref 31)] [] ((x_up x_z 2 7 (2 : Int32)), x_hr_32, x_SH.take 35) Q
  exact Ev_return d_Spn_init_28 rfl kk
theorem I_13_Spn_init {E : x_E} {Q : Int32 → x_H → Prop} (kk : Q 0 ((x_up x_z 2 7 (2 : Int32)), x_hr_36, x_SH.take 39)) : Call E m_Spn_init 3 21 [.ref 35] ((x_up x_z 2 7 (2 : Int32)), x_hr_33, x_SH.take 36) Q := by
  refine Call_of (L := [some (.ref 35)]) (by decide) (by intro v hv; simp only [List.mem_cons, List.not_mem_nil, or_false] at hv; rw [hv]; rfl) (Nat.le_of_ble_eq_true rfl) rfl ?_
  refine Ev_aload_n d_Spn_init_0 rfl ?_
  refine Ev_obj xw_mSpn_3 d_Spn_init_1 (by decide) (by decide) ?_
  refine Ev_aload_n d_Spn_init_4 rfl ?_
  refine Ev_bipush (v := (7)) d_Spn_init_5 (by decide) ?_
  refine Ev_newaL (at0 := .int) (a := 2) (b := 14) (ty := 0) (n := 36) (k := 7) (sh' := x_SH.take 37) xw_a_int d_Spn_init_7 (Or.inl ⟨rfl, rfl⟩) (by decide) (by decide) (by decide) rfl (by decide) (fun _ => rfl) rfl ?_
  refine Ev_putrF (ci := 3) (k := 0) (C := "TrainGuard$SpanRow") (T := x_TSpn) (N := 4) xw_fSpn_9 d_Spn_init_9 rfl (by decide) rfl rfl rfl (by decide) rfl rfl (fun _ => ⟨rfl, rfl⟩) ?_
  show Ev E m_Spn_init 2 14 12 [some (.ref 35)] [] ((x_up x_z 2 7 (2 : Int32)), x_hr_34, x_SH.take 37) Q
  refine Ev_aload_n d_Spn_init_12 rfl ?_
  refine Ev_bipush (v := (7)) d_Spn_init_13 (by decide) ?_
  refine Ev_newaL (at0 := .int) (a := 1) (b := 7) (ty := 0) (n := 37) (k := 7) (sh' := x_SH.take 38) xw_a_int d_Spn_init_15 (Or.inl ⟨rfl, rfl⟩) (by decide) (by decide) (by decide) rfl (by decide) (fun _ => rfl) rfl ?_
  refine Ev_putrF (ci := 3) (k := 1) (C := "TrainGuard$SpanRow") (T := x_TSpn) (N := 4) xw_fSpn_15 d_Spn_init_17 rfl (by decide) rfl rfl rfl (by decide) rfl rfl (fun _ => ⟨rfl, rfl⟩) ?_
  show Ev E m_Spn_init 1 7 20 [some (.ref 35)] [] ((x_up x_z 2 7 (2 : Int32)), x_hr_35, x_SH.take 38) Q
  refine Ev_aload_n d_Spn_init_20 rfl ?_
  refine Ev_bipush (v := (7)) d_Spn_init_21 (by decide) ?_
  refine Ev_newaL (at0 := .int) (a := 0) (b := 0) (ty := 0) (n := 38) (k := 7) (sh' := x_SH.take 39) xw_a_int d_Spn_init_23 (Or.inl ⟨rfl, rfl⟩) (by decide) (by decide) (by decide) rfl (by decide) (fun _ => rfl) rfl ?_
  refine Ev_putrF (ci := 3) (k := 2) (C := "TrainGuard$SpanRow") (T := x_TSpn) (N := 4) xw_fSpn_18 d_Spn_init_25 rfl (by decide) rfl rfl rfl (by decide) rfl rfl (fun _ => ⟨rfl, rfl⟩) ?_
  show Ev E m_Spn_init 0 0 28 [some (.ref 35)] [] ((x_up x_z 2 7 (2 : Int32)), x_hr_36, x_SH.take 39) Q
  exact Ev_return d_Spn_init_28 rfl kk
theorem I_10_Msg_init {E : x_E} {Q : Int32 → x_H → Prop} (kk : Q 0 ((x_up x_z 2 7 (2 : Int32)), x_hr_37, x_SH.take 39)) : Call E m_Msg_init 14 89 [.ref 24] ((x_up x_z 2 7 (2 : Int32)), x_hr_23, x_SH.take 25) Q := by
  refine Call_of (L := [some (.ref 24)]) (by decide) (by intro v hv; simp only [List.mem_cons, List.not_mem_nil, or_false] at hv; rw [hv]; rfl) (Nat.le_of_ble_eq_true rfl) rfl ?_
  refine Ev_aload_n d_Msg_init_0 rfl ?_
  refine Ev_obj xw_mMsg_3 d_Msg_init_1 (by decide) (by decide) ?_
  refine Ev_aload_n d_Msg_init_4 rfl ?_
  refine Ev_ids xw_fMsg_9 d_Msg_init_5 ?_
  refine Ev_idslen d_Msg_init_8 ?_
  refine Ev_newaL (at0 := .boolean) (a := 13) (b := 83) (ty := 2) (n := 25) (k := 6) (sh' := x_SH.take 26) xw_a_boolean d_Msg_init_9 (Or.inr (Or.inr ⟨rfl, rfl⟩)) (by decide) (by decide) (by decide) rfl (by decide) (fun _ => rfl) rfl ?_
  refine Ev_putrF (ci := 7) (k := 0) (C := "TrainGuard$Message") (T := x_TMsg) (N := 14) xw_fMsg_15 d_Msg_init_11 rfl (by decide) rfl rfl rfl (by decide) rfl rfl (fun _ => ⟨rfl, rfl⟩) ?_
  show Ev E m_Msg_init 13 83 14 [some (.ref 24)] [] ((x_up x_z 2 7 (2 : Int32)), x_hr_24, x_SH.take 26) Q
  refine Ev_aload_n d_Msg_init_14 rfl ?_
  refine Ev_newL (a := 12) (b := 78) (ci := 5) (n := 26) (C := "TrainGuard$MarkRow") (T := x_TMrk) (N := 5) (sh' := x_SH.take 27) xw_kMsg_19 d_Msg_init_15 rfl rfl (by decide) (fun _ => rfl) (fun _ => rfl) x_dfMrk rfl ?_
  refine Ev_dup d_Msg_init_18 rfl ?_
  refine Ev_callIN (M' := m_Mrk_init) (a := 8) (a' := 4) (b := 50) (b' := 28) (P := 26) (As := []) d_Msg_init_19 xw_oMsg_21 xw_eMrk_init xw_iMrk xw_dMrk_init md_Mrk_init ⟨by decide, by decide⟩ rfl rfl rfl (Nat.le_of_ble_eq_true rfl) ?_
  refine I_11_Mrk_init ?_
  refine Ev_putrF (ci := 7) (k := 1) (C := "TrainGuard$Message") (T := x_TMsg) (N := 14) xw_fMsg_22 d_Msg_init_22 rfl (by decide) rfl rfl rfl (by decide) rfl rfl (fun _ => ⟨rfl, rfl⟩) ?_
  show Ev E m_Msg_init 8 50 25 [some (.ref 24)] [] ((x_up x_z 2 7 (2 : Int32)), x_hr_29, x_SH.take 31) Q
  refine Ev_aload_n d_Msg_init_25 rfl ?_
  refine Ev_newL (a := 7) (b := 46) (ci := 3) (n := 31) (C := "TrainGuard$SpanRow") (T := x_TSpn) (N := 4) (sh' := x_SH.take 32) xw_kMsg_26 d_Msg_init_26 rfl rfl (by decide) (fun _ => rfl) (fun _ => rfl) x_dfSpn rfl ?_
  refine Ev_dup d_Msg_init_29 rfl ?_
  refine Ev_callIN (M' := m_Spn_init) (a := 4) (a' := 3) (b := 25) (b' := 21) (P := 31) (As := []) d_Msg_init_30 xw_oMsg_28 xw_eSpn_init xw_iSpn xw_dSpn_init md_Spn_init ⟨by decide, by decide⟩ rfl rfl rfl (Nat.le_of_ble_eq_true rfl) ?_
  refine I_12_Spn_init ?_
  refine Ev_putrF (ci := 7) (k := 2) (C := "TrainGuard$Message") (T := x_TMsg) (N := 14) xw_fMsg_29 d_Msg_init_33 rfl (by decide) rfl rfl rfl (by decide) rfl rfl (fun _ => ⟨rfl, rfl⟩) ?_
  show Ev E m_Msg_init 4 25 36 [some (.ref 24)] [] ((x_up x_z 2 7 (2 : Int32)), x_hr_33, x_SH.take 35) Q
  refine Ev_aload_n d_Msg_init_36 rfl ?_
  refine Ev_newL (a := 3) (b := 21) (ci := 3) (n := 35) (C := "TrainGuard$SpanRow") (T := x_TSpn) (N := 4) (sh' := x_SH.take 36) xw_kMsg_26 d_Msg_init_37 rfl rfl (by decide) (fun _ => rfl) (fun _ => rfl) x_dfSpn rfl ?_
  refine Ev_dup d_Msg_init_40 rfl ?_
  refine Ev_callIN (M' := m_Spn_init) (a := 0) (a' := 3) (b := 0) (b' := 21) (P := 35) (As := []) d_Msg_init_41 xw_oMsg_28 xw_eSpn_init xw_iSpn xw_dSpn_init md_Spn_init ⟨by decide, by decide⟩ rfl rfl rfl (Nat.le_of_ble_eq_true rfl) ?_
  refine I_13_Spn_init ?_
  refine Ev_putrF (ci := 7) (k := 3) (C := "TrainGuard$Message") (T := x_TMsg) (N := 14) xw_fMsg_33 d_Msg_init_44 rfl (by decide) rfl rfl rfl (by decide) rfl rfl (fun _ => ⟨rfl, rfl⟩) ?_
  show Ev E m_Msg_init 0 0 47 [some (.ref 24)] [] ((x_up x_z 2 7 (2 : Int32)), x_hr_37, x_SH.take 39) Q
  exact Ev_return d_Msg_init_47 rfl kk
theorem I_14_Brk_init {E : x_E} {Q : Int32 → x_H → Prop} (kk : Q 0 ((x_up x_z 2 7 (2 : Int32)), x_hr_38, x_SH.take 40)) : Call E m_Brk_init 0 0 [.ref 39] ((x_up x_z 2 7 (2 : Int32)), x_hr_38, x_SH.take 40) Q := by
  refine Call_of (L := [some (.ref 39)]) (by decide) (by intro v hv; simp only [List.mem_cons, List.not_mem_nil, or_false] at hv; rw [hv]; rfl) (Nat.le_of_ble_eq_true rfl) rfl ?_
  refine Ev_aload_n d_Brk_init_0 rfl ?_
  refine Ev_obj xw_mBrk_3 d_Brk_init_1 (by decide) (by decide) ?_
  exact Ev_return d_Brk_init_4 rfl kk
theorem I_15_Not_init {E : x_E} {Q : Int32 → x_H → Prop} (kk : Q 0 ((x_up x_z 2 7 (2 : Int32)), x_hr_40, x_SH.take 42)) : Call E m_Not_init 1 16 [.ref 40] ((x_up x_z 2 7 (2 : Int32)), x_hr_39, x_SH.take 41) Q := by
  refine Call_of (L := [some (.ref 40)]) (by decide) (by intro v hv; simp only [List.mem_cons, List.not_mem_nil, or_false] at hv; rw [hv]; rfl) (Nat.le_of_ble_eq_true rfl) rfl ?_
  refine Ev_aload_n d_Not_init_0 rfl ?_
  refine Ev_obj xw_mNot_3 d_Not_init_1 (by decide) (by decide) ?_
  refine Ev_aload_n d_Not_init_4 rfl ?_
  refine Ev_bipush (v := (16)) d_Not_init_5 (by decide) ?_
  refine Ev_newaL (at0 := .int) (a := 0) (b := 0) (ty := 0) (n := 41) (k := 16) (sh' := x_SH.take 42) xw_a_int d_Not_init_7 (Or.inl ⟨rfl, rfl⟩) (by decide) (by decide) (by decide) rfl (by decide) (fun _ => rfl) rfl ?_
  refine Ev_putrF (ci := 10) (k := 0) (C := "TrainGuard$Notes") (T := x_TNot) (N := 3) xw_fNot_9 d_Not_init_9 rfl (by decide) rfl rfl rfl (by decide) rfl rfl (fun _ => ⟨rfl, rfl⟩) ?_
  show Ev E m_Not_init 0 0 12 [some (.ref 40)] [] ((x_up x_z 2 7 (2 : Int32)), x_hr_40, x_SH.take 42) Q
  exact Ev_return d_Not_init_12 rfl kk
theorem I_16_Cur_init {E : x_E} {Q : Int32 → x_H → Prop} {x1 x2 : Int32} (kk : Q 0 ((x_up (x_up (x_up (x_up (x_up x_z 2 7 (2 : Int32)) 0 8 (0 : Int32)) 0 11 (-1 : Int32)) 42 0 (x_wi x1 (4 : Int32) (40 : Int32))) 42 1 (x_wi x2 (2 : Int32) (x_wi x1 (4 : Int32) (40 : Int32)))), x_hr_44, x_SH.take 46)) : Call E m_Cur_init 3 45 [.ref 42, .int (x_wi x1 (4 : Int32) (40 : Int32)), .int (x_wi x2 (2 : Int32) (x_wi x1 (4 : Int32) (40 : Int32)))] ((x_up (x_up (x_up x_z 2 7 (2 : Int32)) 0 8 (0 : Int32)) 0 11 (-1 : Int32)), x_hr_41, x_SH.take 43) Q := by
  refine Call_of (L := [some (.ref 42), some (.int (x_wi x1 (4 : Int32) (40 : Int32))), some (.int (x_wi x2 (2 : Int32) (x_wi x1 (4 : Int32) (40 : Int32))))]) (by decide) (by intro v hv; simp only [List.mem_cons, List.not_mem_nil, or_false] at hv; rcases hv with rfl | rfl | rfl <;> rfl) (Nat.le_of_ble_eq_true rfl) rfl ?_
  refine Ev_aload_n d_Cur_init_0 rfl ?_
  refine Ev_obj xw_mCur_3 d_Cur_init_1 (by decide) (by decide) ?_
  refine Ev_aload_n d_Cur_init_4 rfl ?_
  refine Ev_bipush (v := (15)) d_Cur_init_5 (by decide) ?_
  refine Ev_newaL (at0 := .int) (a := 2) (b := 30) (ty := 0) (n := 43) (k := 15) (sh' := x_SH.take 44) xw_a_int d_Cur_init_7 (Or.inl ⟨rfl, rfl⟩) (by decide) (by decide) (by decide) rfl (by decide) (fun _ => rfl) rfl ?_
  refine Ev_putrF (ci := 8) (k := 2) (C := "TrainGuard$Curves") (T := x_TCur) (N := 8) xw_fCur_11 d_Cur_init_9 rfl (by decide) rfl rfl rfl (by decide) rfl rfl (fun _ => ⟨rfl, rfl⟩) ?_
  show Ev E m_Cur_init 2 30 12 [some (.ref 42), some (.int (x_wi x1 (4 : Int32) (40 : Int32))), some (.int (x_wi x2 (2 : Int32) (x_wi x1 (4 : Int32) (40 : Int32))))] [] ((x_up (x_up (x_up x_z 2 7 (2 : Int32)) 0 8 (0 : Int32)) 0 11 (-1 : Int32)), x_hr_42, x_SH.take 44) Q
  refine Ev_aload_n d_Cur_init_12 rfl ?_
  refine Ev_bipush (v := (15)) d_Cur_init_13 (by decide) ?_
  refine Ev_newaL (at0 := .int) (a := 1) (b := 15) (ty := 0) (n := 44) (k := 15) (sh' := x_SH.take 45) xw_a_int d_Cur_init_15 (Or.inl ⟨rfl, rfl⟩) (by decide) (by decide) (by decide) rfl (by decide) (fun _ => rfl) rfl ?_
  refine Ev_putrF (ci := 8) (k := 3) (C := "TrainGuard$Curves") (T := x_TCur) (N := 8) xw_fCur_15 d_Cur_init_17 rfl (by decide) rfl rfl rfl (by decide) rfl rfl (fun _ => ⟨rfl, rfl⟩) ?_
  show Ev E m_Cur_init 1 15 20 [some (.ref 42), some (.int (x_wi x1 (4 : Int32) (40 : Int32))), some (.int (x_wi x2 (2 : Int32) (x_wi x1 (4 : Int32) (40 : Int32))))] [] ((x_up (x_up (x_up x_z 2 7 (2 : Int32)) 0 8 (0 : Int32)) 0 11 (-1 : Int32)), x_hr_43, x_SH.take 45) Q
  refine Ev_aload_n d_Cur_init_20 rfl ?_
  refine Ev_bipush (v := (15)) d_Cur_init_21 (by decide) ?_
  refine Ev_newaL (at0 := .int) (a := 0) (b := 0) (ty := 0) (n := 45) (k := 15) (sh' := x_SH.take 46) xw_a_int d_Cur_init_23 (Or.inl ⟨rfl, rfl⟩) (by decide) (by decide) (by decide) rfl (by decide) (fun _ => rfl) rfl ?_
  refine Ev_putrF (ci := 8) (k := 4) (C := "TrainGuard$Curves") (T := x_TCur) (N := 8) xw_fCur_18 d_Cur_init_25 rfl (by decide) rfl rfl rfl (by decide) rfl rfl (fun _ => ⟨rfl, rfl⟩) ?_
  show Ev E m_Cur_init 0 0 28 [some (.ref 42), some (.int (x_wi x1 (4 : Int32) (40 : Int32))), some (.int (x_wi x2 (2 : Int32) (x_wi x1 (4 : Int32) (40 : Int32))))] [] ((x_up (x_up (x_up x_z 2 7 (2 : Int32)) 0 8 (0 : Int32)) 0 11 (-1 : Int32)), x_hr_44, x_SH.take 46) Q
  refine Ev_aload_n d_Cur_init_28 rfl ?_
  refine Ev_iload_n d_Cur_init_29 rfl ?_
  refine Ev_putiF (ci := 8) (k := 0) (C := "TrainGuard$Curves") (T := x_TCur) (N := 8) xw_fCur_21 d_Cur_init_30 rfl (by decide) rfl rfl rfl (by decide) rfl (Or.inl rfl) ?_
  refine Ev_aload_n d_Cur_init_33 rfl ?_
  refine Ev_iload_n d_Cur_init_34 rfl ?_
  refine Ev_putiF (ci := 8) (k := 1) (C := "TrainGuard$Curves") (T := x_TCur) (N := 8) xw_fCur_25 d_Cur_init_35 rfl (by decide) rfl rfl rfl (by decide) rfl (Or.inl rfl) ?_
  exact Ev_return d_Cur_init_38 rfl kk
theorem I_1_G_init {E : x_E} {Q : Int32 → x_H → Prop} {x1 x2 x3 : Int32} (kk : Q 0 ((x_up (x_up (x_up (x_up (x_up (x_up x_z 2 7 (2 : Int32)) 0 8 (0 : Int32)) 0 11 (-1 : Int32)) 42 0 (x_wi x1 (4 : Int32) (40 : Int32))) 42 1 (x_wi x2 (2 : Int32) (x_wi x1 (4 : Int32) (40 : Int32)))) 0 0 (x_wi x3 (0 : Int32) (4000 : Int32))), x_hr_45, x_SH.take 46)) : Call E m_G_init 45 909 [.ref 0, .int x1, .int x2, .int x3] (x_z, x_hr_0, x_SH.take 1) Q := by
  refine Call_of (L := [some (.ref 0), some (.int x1), some (.int x2), some (.int x3), none]) (by decide) (by intro v hv; simp only [List.mem_cons, List.not_mem_nil, or_false] at hv; rcases hv with rfl | rfl | rfl | rfl <;> rfl) (Nat.le_of_ble_eq_true rfl) rfl ?_
  refine Ev_aload_n d_G_init_0 rfl ?_
  refine Ev_obj xw_mG_1 d_G_init_1 (by decide) (by decide) ?_
  refine Ev_aload_n d_G_init_4 rfl ?_
  refine Ev_newL (a := 44) (b := 906) (ci := 1) (n := 1) (C := "TrainGuard$Front") (T := x_TFrt) (N := 3) (sh' := x_SH.take 2) xw_kG_7 d_G_init_5 rfl rfl (by decide) (fun _ => rfl) (fun _ => rfl) x_dfFrt rfl ?_
  refine Ev_dup d_G_init_8 rfl ?_
  refine Ev_callIN (M' := m_Frt_init) (a := 44) (a' := 0) (b := 906) (b' := 0) (P := 1) (As := []) d_G_init_9 xw_oG_9 xw_eFrt_init xw_iFrt xw_dFrt_init md_Frt_init ⟨by decide, by decide⟩ rfl rfl rfl (Nat.le_of_ble_eq_true rfl) ?_
  refine I_2_Frt_init ?_
  refine Ev_putrF (ci := 0) (k := 1) (C := "TrainGuard") (T := x_TG) (N := 14) xw_fG_10 d_G_init_12 rfl (by decide) rfl rfl rfl (by decide) rfl rfl (fun _ => ⟨rfl, rfl⟩) ?_
  show Ev E m_G_init 44 906 15 [some (.ref 0), some (.int x1), some (.int x2), some (.int x3), none] [] (x_z, x_hr_1, x_SH.take 2) Q
  refine Ev_aload_n d_G_init_15 rfl ?_
  refine Ev_newL (a := 43) (b := 898) (ci := 2) (n := 2) (C := "TrainGuard$Track") (T := x_TTrk) (N := 8) (sh' := x_SH.take 3) xw_kG_16 d_G_init_16 rfl rfl (by decide) (fun _ => rfl) (fun _ => rfl) x_dfTrk rfl ?_
  refine Ev_dup d_G_init_19 rfl ?_
  refine Ev_callIN (M' := m_Trk_init) (a := 24) (a' := 19) (b := 782) (b' := 116) (P := 2) (As := []) d_G_init_20 xw_oG_18 xw_eTrk_init xw_iTrk xw_dTrk_init md_Trk_init ⟨by decide, by decide⟩ rfl rfl rfl (Nat.le_of_ble_eq_true rfl) ?_
  refine I_3_Trk_init ?_
  refine Ev_putrF (ci := 0) (k := 2) (C := "TrainGuard") (T := x_TG) (N := 14) xw_fG_19 d_G_init_23 rfl (by decide) rfl rfl rfl (by decide) rfl rfl (fun _ => ⟨rfl, rfl⟩) ?_
  show Ev E m_G_init 24 782 26 [some (.ref 0), some (.int x1), some (.int x2), some (.int x3), none] [] ((x_up x_z 2 7 (2 : Int32)), x_hr_21, x_SH.take 22) Q
  refine Ev_aload_n d_G_init_26 rfl ?_
  refine Ev_newL (a := 23) (b := 778) (ci := 6) (n := 22) (C := "TrainGuard$BitRow") (T := x_TBit) (N := 4) (sh' := x_SH.take 23) xw_kG_23 d_G_init_27 rfl rfl (by decide) (fun _ => rfl) (fun _ => rfl) x_dfBit rfl ?_
  refine Ev_dup d_G_init_30 rfl ?_
  refine Ev_callIN (M' := m_Bit_init) (a := 22) (a' := 1) (b := 178) (b' := 600) (P := 22) (As := []) d_G_init_31 xw_oG_25 xw_eBit_init xw_iBit xw_dBit_init md_Bit_init ⟨by decide, by decide⟩ rfl rfl rfl (Nat.le_of_ble_eq_true rfl) ?_
  refine I_9_Bit_init ?_
  refine Ev_putrF (ci := 0) (k := 3) (C := "TrainGuard") (T := x_TG) (N := 14) xw_fG_26 d_G_init_34 rfl (by decide) rfl rfl rfl (by decide) rfl rfl (fun _ => ⟨rfl, rfl⟩) ?_
  show Ev E m_G_init 22 178 37 [some (.ref 0), some (.int x1), some (.int x2), some (.int x3), none] [] ((x_up x_z 2 7 (2 : Int32)), x_hr_23, x_SH.take 24) Q
  refine Ev_aload_n d_G_init_37 rfl ?_
  refine Ev_newL (a := 21) (b := 164) (ci := 7) (n := 24) (C := "TrainGuard$Message") (T := x_TMsg) (N := 14) (sh' := x_SH.take 25) xw_kG_30 d_G_init_38 rfl rfl (by decide) (fun _ => rfl) (fun _ => rfl) x_dfMsg rfl ?_
  refine Ev_dup d_G_init_41 rfl ?_
  refine Ev_callIN (M' := m_Msg_init) (a := 7) (a' := 14) (b := 75) (b' := 89) (P := 24) (As := []) d_G_init_42 xw_oG_32 xw_eMsg_init xw_iMsg xw_dMsg_init md_Msg_init ⟨by decide, by decide⟩ rfl rfl rfl (Nat.le_of_ble_eq_true rfl) ?_
  refine I_10_Msg_init ?_
  refine Ev_putrF (ci := 0) (k := 4) (C := "TrainGuard") (T := x_TG) (N := 14) xw_fG_33 d_G_init_45 rfl (by decide) rfl rfl rfl (by decide) rfl rfl (fun _ => ⟨rfl, rfl⟩) ?_
  show Ev E m_G_init 7 75 48 [some (.ref 0), some (.int x1), some (.int x2), some (.int x3), none] [] ((x_up x_z 2 7 (2 : Int32)), x_hr_38, x_SH.take 39) Q
  refine Ev_aload_n d_G_init_48 rfl ?_
  refine Ev_newL (a := 6) (b := 72) (ci := 9) (n := 39) (C := "TrainGuard$Brakes") (T := x_TBrk) (N := 3) (sh' := x_SH.take 40) xw_kG_37 d_G_init_49 rfl rfl (by decide) (fun _ => rfl) (fun _ => rfl) x_dfBrk rfl ?_
  refine Ev_dup d_G_init_52 rfl ?_
  refine Ev_callIN (M' := m_Brk_init) (a := 6) (a' := 0) (b := 72) (b' := 0) (P := 39) (As := []) d_G_init_53 xw_oG_39 xw_eBrk_init xw_iBrk xw_dBrk_init md_Brk_init ⟨by decide, by decide⟩ rfl rfl rfl (Nat.le_of_ble_eq_true rfl) ?_
  refine I_14_Brk_init ?_
  refine Ev_putrF (ci := 0) (k := 6) (C := "TrainGuard") (T := x_TG) (N := 14) xw_fG_40 d_G_init_56 rfl (by decide) rfl rfl rfl (by decide) rfl rfl (fun _ => ⟨rfl, rfl⟩) ?_
  show Ev E m_G_init 6 72 59 [some (.ref 0), some (.int x1), some (.int x2), some (.int x3), none] [] ((x_up x_z 2 7 (2 : Int32)), x_hr_39, x_SH.take 40) Q
  refine Ev_aload_n d_G_init_59 rfl ?_
  refine Ev_newL (a := 5) (b := 69) (ci := 10) (n := 40) (C := "TrainGuard$Notes") (T := x_TNot) (N := 3) (sh' := x_SH.take 41) xw_kG_44 d_G_init_60 rfl rfl (by decide) (fun _ => rfl) (fun _ => rfl) x_dfNot rfl ?_
  refine Ev_dup d_G_init_63 rfl ?_
  refine Ev_callIN (M' := m_Not_init) (a := 4) (a' := 1) (b := 53) (b' := 16) (P := 40) (As := []) d_G_init_64 xw_oG_46 xw_eNot_init xw_iNot xw_dNot_init md_Not_init ⟨by decide, by decide⟩ rfl rfl rfl (Nat.le_of_ble_eq_true rfl) ?_
  refine I_15_Not_init ?_
  refine Ev_putrF (ci := 0) (k := 7) (C := "TrainGuard") (T := x_TG) (N := 14) xw_fG_47 d_G_init_67 rfl (by decide) rfl rfl rfl (by decide) rfl rfl (fun _ => ⟨rfl, rfl⟩) ?_
  show Ev E m_G_init 4 53 70 [some (.ref 0), some (.int x1), some (.int x2), some (.int x3), none] [] ((x_up x_z 2 7 (2 : Int32)), x_hr_41, x_SH.take 42) Q
  refine Ev_aload_n d_G_init_70 rfl ?_
  refine Ev_iconst (v := (0)) d_G_init_71 (by decide) ?_
  refine Ev_puti (ci := 0) (k := 8) (C := "TrainGuard") (T := x_TG) (N := 14) xw_fG_51 d_G_init_72 rfl (by decide) rfl (by decide) rfl (Or.inl rfl) ?_
  refine Ev_aload_n d_G_init_75 rfl ?_
  refine Ev_iconst (v := (-1)) d_G_init_76 (by decide) ?_
  refine Ev_puti (ci := 0) (k := 11) (C := "TrainGuard") (T := x_TG) (N := 14) xw_fG_55 d_G_init_77 rfl (by decide) rfl (by decide) rfl (Or.inl rfl) ?_
  refine Ev_iload_n d_G_init_80 rfl ?_
  refine Ev_iconst (v := (4)) d_G_init_81 (by decide) ?_
  refine Ev_bipush (v := (40)) d_G_init_82 (by decide) ?_
  refine Ev_callSi (M' := m_G_within) (a := 4) (a' := 0) (b := 53) (b' := 0) (As := [.int x1, .int (4 : Int32), .int (40 : Int32)]) d_G_init_84 xw_mG_58 xw_sG_within xw_iG xw_dG_within md_G_within ⟨by decide, by decide⟩ rfl rfl (Nat.le_of_ble_eq_true rfl) ?_
  refine Cg_within ?_
  refine Ev_istore (L' := [some (.ref 0), some (.int x1), some (.int x2), some (.int x3), some (.int (x_wi x1 (4 : Int32) (40 : Int32)))]) d_G_init_87 (by decide) rfl ?_
  refine Ev_aload_n d_G_init_89 rfl ?_
  refine Ev_newL (a := 3) (b := 45) (ci := 8) (n := 42) (C := "TrainGuard$Curves") (T := x_TCur) (N := 8) (sh' := x_SH.take 43) xw_kG_62 d_G_init_90 rfl rfl (by decide) (fun _ => rfl) (fun _ => rfl) x_dfCur rfl ?_
  refine Ev_dup d_G_init_93 rfl ?_
  refine Ev_iload d_G_init_94 rfl ?_
  refine Ev_iload_n d_G_init_96 rfl ?_
  refine Ev_iconst (v := (2)) d_G_init_97 (by decide) ?_
  refine Ev_iload d_G_init_98 rfl ?_
  refine Ev_callSi (M' := m_G_within) (a := 3) (a' := 0) (b := 45) (b' := 0) (As := [.int x2, .int (2 : Int32), .int (x_wi x1 (4 : Int32) (40 : Int32))]) d_G_init_100 xw_mG_58 xw_sG_within xw_iG xw_dG_within md_G_within ⟨by decide, by decide⟩ rfl rfl (Nat.le_of_ble_eq_true rfl) ?_
  refine Cg_within ?_
  refine Ev_callI (M' := m_Cur_init) (a := 0) (a' := 3) (b := 0) (b' := 45) (P := 42) (As := [.int (x_wi x1 (4 : Int32) (40 : Int32)), .int (x_wi x2 (2 : Int32) (x_wi x1 (4 : Int32) (40 : Int32)))]) d_G_init_103 xw_mG_64 xw_eCur_init xw_iCur xw_dCur_init md_Cur_init ⟨by decide, by decide⟩ rfl rfl rfl (Nat.le_of_ble_eq_true rfl) ?_
  refine I_16_Cur_init ?_
  refine Ev_putrF (ci := 0) (k := 5) (C := "TrainGuard") (T := x_TG) (N := 14) xw_fG_67 d_G_init_106 rfl (by decide) rfl rfl rfl (by decide) rfl rfl (fun _ => ⟨rfl, rfl⟩) ?_
  show Ev E m_G_init 0 0 109 [some (.ref 0), some (.int x1), some (.int x2), some (.int x3), some (.int (x_wi x1 (4 : Int32) (40 : Int32)))] [] ((x_up (x_up (x_up (x_up (x_up x_z 2 7 (2 : Int32)) 0 8 (0 : Int32)) 0 11 (-1 : Int32)) 42 0 (x_wi x1 (4 : Int32) (40 : Int32))) 42 1 (x_wi x2 (2 : Int32) (x_wi x1 (4 : Int32) (40 : Int32)))), x_hr_45, x_SH.take 46) Q
  refine Ev_aload_n d_G_init_109 rfl ?_
  refine Ev_iload_n d_G_init_110 rfl ?_
  refine Ev_iconst (v := (0)) d_G_init_111 (by decide) ?_
  refine Ev_sipush (v := (4000)) d_G_init_112 (by decide) ?_
  refine Ev_callSi (M' := m_G_within) (a := 0) (a' := 0) (b := 0) (b' := 0) (As := [.int x3, .int (0 : Int32), .int (4000 : Int32)]) d_G_init_115 xw_mG_58 xw_sG_within xw_iG xw_dG_within md_G_within ⟨by decide, by decide⟩ rfl rfl (Nat.le_of_ble_eq_true rfl) ?_
  refine Cg_within ?_
  refine Ev_putiF (ci := 0) (k := 0) (C := "TrainGuard") (T := x_TG) (N := 14) xw_fG_71 d_G_init_118 rfl (by decide) rfl rfl rfl (by decide) rfl (Or.inl rfl) ?_
  exact Ev_return d_G_init_121 rfl kk
theorem x_zz {HI : x_S} (hz : ∀ p, 46 ≤ p → ∀ j, HI p j = 0) {n k : Nat} {v : Int32} (j : Nat) (hn : 47 ≤ n := by decide) : x_up HI 46 k v n j = 0 := by unfold x_up; rw [if_neg (by omega)]; exact hz n (by omega) j
theorem I_91_Mod_init {E : x_E} {Q : Int32 → x_H → Prop} {HI : x_S} (hz : ∀ p, 46 ≤ p → ∀ j, HI p j = 0) {x1 x2 x3 : Int32} (kk : Q 0 ((x_up (x_up (x_up (x_up HI 46 34 (-1 : Int32)) 46 0 (if (4 : Int32) ≤ x1 then (if x1 ≤ (40 : Int32) then x1 else (40 : Int32)) else (4 : Int32))) 46 1 (if (2 : Int32) ≤ x2 then (if x2 ≤ (if (4 : Int32) ≤ x1 then (if x1 ≤ (40 : Int32) then x1 else (40 : Int32)) else (4 : Int32)) then x2 else (if (4 : Int32) ≤ x1 then (if x1 ≤ (40 : Int32) then x1 else (40 : Int32)) else (4 : Int32))) else (2 : Int32))) 46 2 (if 0 ≤ x3 then (if x3 ≤ (4000 : Int32) then x3 else (4000 : Int32)) else (0 : Int32))), x_hr_62, x_SH.take 64)) : Call E m_Mod_init 17 834 [.ref 46, .int x1, .int x2, .int x3] (HI, x_hr_45, x_SH.take 47) Q := by
  refine Call_of (L := [some (.ref 46), some (.int x1), some (.int x2), some (.int x3), none]) (by decide) (by intro v hv; simp only [List.mem_cons, List.not_mem_nil, or_false] at hv; rcases hv with rfl | rfl | rfl | rfl <;> rfl) (Nat.le_of_ble_eq_true rfl) rfl ?_
  refine Ev_aload_n d_Mod_init_0 rfl ?_
  refine Ev_obj xw_mMod_1 d_Mod_init_1 (by decide) (by decide) ?_
  refine Ev_aload_n d_Mod_init_4 rfl ?_
  refine Ev_bipush (v := (7)) d_Mod_init_5 (by decide) ?_
  refine Ev_newaL (at0 := .int) (a := 16) (b := 827) (ty := 0) (n := 47) (k := 7) (sh' := x_SH.take 48) xw_a_int d_Mod_init_7 (Or.inl ⟨rfl, rfl⟩) (by decide) (by decide) (by decide) rfl (by decide) (fun j => by first | exact hz _ (by decide) j | exact x_zz hz j) rfl ?_
  refine Ev_putrF (ci := 11) (k := 14) (C := "TrainGuardModel") (T := x_TMod) (N := 44) xw_fMod_7 d_Mod_init_9 rfl (by decide) rfl rfl rfl (by decide) rfl rfl (fun _ => ⟨rfl, rfl⟩) ?_
  show Ev E m_Mod_init 16 827 12 [some (.ref 46), some (.int x1), some (.int x2), some (.int x3), none] [] (HI, x_hr_46, x_SH.take 48) Q
  refine Ev_aload_n d_Mod_init_12 rfl ?_
  refine Ev_bipush (v := (7)) d_Mod_init_13 (by decide) ?_
  refine Ev_newaL (at0 := .int) (a := 15) (b := 820) (ty := 0) (n := 48) (k := 7) (sh' := x_SH.take 49) xw_a_int d_Mod_init_15 (Or.inl ⟨rfl, rfl⟩) (by decide) (by decide) (by decide) rfl (by decide) (fun j => by first | exact hz _ (by decide) j | exact x_zz hz j) rfl ?_
  refine Ev_putrF (ci := 11) (k := 15) (C := "TrainGuardModel") (T := x_TMod) (N := 44) xw_fMod_13 d_Mod_init_17 rfl (by decide) rfl rfl rfl (by decide) rfl rfl (fun _ => ⟨rfl, rfl⟩) ?_
  show Ev E m_Mod_init 15 820 20 [some (.ref 46), some (.int x1), some (.int x2), some (.int x3), none] [] (HI, x_hr_47, x_SH.take 49) Q
  refine Ev_aload_n d_Mod_init_20 rfl ?_
  refine Ev_bipush (v := (7)) d_Mod_init_21 (by decide) ?_
  refine Ev_newaL (at0 := .int) (a := 14) (b := 813) (ty := 0) (n := 49) (k := 7) (sh' := x_SH.take 50) xw_a_int d_Mod_init_23 (Or.inl ⟨rfl, rfl⟩) (by decide) (by decide) (by decide) rfl (by decide) (fun j => by first | exact hz _ (by decide) j | exact x_zz hz j) rfl ?_
  refine Ev_putrF (ci := 11) (k := 17) (C := "TrainGuardModel") (T := x_TMod) (N := 44) xw_fMod_16 d_Mod_init_25 rfl (by decide) rfl rfl rfl (by decide) rfl rfl (fun _ => ⟨rfl, rfl⟩) ?_
  show Ev E m_Mod_init 14 813 28 [some (.ref 46), some (.int x1), some (.int x2), some (.int x3), none] [] (HI, x_hr_48, x_SH.take 50) Q
  refine Ev_aload_n d_Mod_init_28 rfl ?_
  refine Ev_bipush (v := (7)) d_Mod_init_29 (by decide) ?_
  refine Ev_newaL (at0 := .int) (a := 13) (b := 806) (ty := 0) (n := 50) (k := 7) (sh' := x_SH.take 51) xw_a_int d_Mod_init_31 (Or.inl ⟨rfl, rfl⟩) (by decide) (by decide) (by decide) rfl (by decide) (fun j => by first | exact hz _ (by decide) j | exact x_zz hz j) rfl ?_
  refine Ev_putrF (ci := 11) (k := 18) (C := "TrainGuardModel") (T := x_TMod) (N := 44) xw_fMod_19 d_Mod_init_33 rfl (by decide) rfl rfl rfl (by decide) rfl rfl (fun _ => ⟨rfl, rfl⟩) ?_
  show Ev E m_Mod_init 13 806 36 [some (.ref 46), some (.int x1), some (.int x2), some (.int x3), none] [] (HI, x_hr_49, x_SH.take 51) Q
  refine Ev_aload_n d_Mod_init_36 rfl ?_
  refine Ev_bipush (v := (7)) d_Mod_init_37 (by decide) ?_
  refine Ev_newaL (at0 := .int) (a := 12) (b := 799) (ty := 0) (n := 51) (k := 7) (sh' := x_SH.take 52) xw_a_int d_Mod_init_39 (Or.inl ⟨rfl, rfl⟩) (by decide) (by decide) (by decide) rfl (by decide) (fun j => by first | exact hz _ (by decide) j | exact x_zz hz j) rfl ?_
  refine Ev_putrF (ci := 11) (k := 20) (C := "TrainGuardModel") (T := x_TMod) (N := 44) xw_fMod_22 d_Mod_init_41 rfl (by decide) rfl rfl rfl (by decide) rfl rfl (fun _ => ⟨rfl, rfl⟩) ?_
  show Ev E m_Mod_init 12 799 44 [some (.ref 46), some (.int x1), some (.int x2), some (.int x3), none] [] (HI, x_hr_50, x_SH.take 52) Q
  refine Ev_aload_n d_Mod_init_44 rfl ?_
  refine Ev_bipush (v := (7)) d_Mod_init_45 (by decide) ?_
  refine Ev_newaL (at0 := .int) (a := 11) (b := 792) (ty := 0) (n := 52) (k := 7) (sh' := x_SH.take 53) xw_a_int d_Mod_init_47 (Or.inl ⟨rfl, rfl⟩) (by decide) (by decide) (by decide) rfl (by decide) (fun j => by first | exact hz _ (by decide) j | exact x_zz hz j) rfl ?_
  refine Ev_putrF (ci := 11) (k := 21) (C := "TrainGuardModel") (T := x_TMod) (N := 44) xw_fMod_25 d_Mod_init_49 rfl (by decide) rfl rfl rfl (by decide) rfl rfl (fun _ => ⟨rfl, rfl⟩) ?_
  show Ev E m_Mod_init 11 792 52 [some (.ref 46), some (.int x1), some (.int x2), some (.int x3), none] [] (HI, x_hr_51, x_SH.take 53) Q
  refine Ev_aload_n d_Mod_init_52 rfl ?_
  refine Ev_bipush (v := (7)) d_Mod_init_53 (by decide) ?_
  refine Ev_newaL (at0 := .int) (a := 10) (b := 785) (ty := 0) (n := 53) (k := 7) (sh' := x_SH.take 54) xw_a_int d_Mod_init_55 (Or.inl ⟨rfl, rfl⟩) (by decide) (by decide) (by decide) rfl (by decide) (fun j => by first | exact hz _ (by decide) j | exact x_zz hz j) rfl ?_
  refine Ev_putrF (ci := 11) (k := 22) (C := "TrainGuardModel") (T := x_TMod) (N := 44) xw_fMod_28 d_Mod_init_57 rfl (by decide) rfl rfl rfl (by decide) rfl rfl (fun _ => ⟨rfl, rfl⟩) ?_
  show Ev E m_Mod_init 10 785 60 [some (.ref 46), some (.int x1), some (.int x2), some (.int x3), none] [] (HI, x_hr_52, x_SH.take 54) Q
  refine Ev_aload_n d_Mod_init_60 rfl ?_
  refine Ev_bipush (v := (7)) d_Mod_init_61 (by decide) ?_
  refine Ev_newaL (at0 := .boolean) (a := 9) (b := 778) (ty := 2) (n := 54) (k := 7) (sh' := x_SH.take 55) xw_a_boolean d_Mod_init_63 (Or.inr (Or.inr ⟨rfl, rfl⟩)) (by decide) (by decide) (by decide) rfl (by decide) (fun j => by first | exact hz _ (by decide) j | exact x_zz hz j) rfl ?_
  refine Ev_putrF (ci := 11) (k := 23) (C := "TrainGuardModel") (T := x_TMod) (N := 44) xw_fMod_31 d_Mod_init_65 rfl (by decide) rfl rfl rfl (by decide) rfl rfl (fun _ => ⟨rfl, rfl⟩) ?_
  show Ev E m_Mod_init 9 778 68 [some (.ref 46), some (.int x1), some (.int x2), some (.int x3), none] [] (HI, x_hr_53, x_SH.take 55) Q
  refine Ev_aload_n d_Mod_init_68 rfl ?_
  refine Ev_bipush (v := (6)) d_Mod_init_69 (by decide) ?_
  refine Ev_newaL (at0 := .int) (a := 8) (b := 772) (ty := 0) (n := 55) (k := 6) (sh' := x_SH.take 56) xw_a_int d_Mod_init_71 (Or.inl ⟨rfl, rfl⟩) (by decide) (by decide) (by decide) rfl (by decide) (fun j => by first | exact hz _ (by decide) j | exact x_zz hz j) rfl ?_
  refine Ev_putrF (ci := 11) (k := 25) (C := "TrainGuardModel") (T := x_TMod) (N := 44) xw_fMod_35 d_Mod_init_73 rfl (by decide) rfl rfl rfl (by decide) rfl rfl (fun _ => ⟨rfl, rfl⟩) ?_
  show Ev E m_Mod_init 8 772 76 [some (.ref 46), some (.int x1), some (.int x2), some (.int x3), none] [] (HI, x_hr_54, x_SH.take 56) Q
  refine Ev_aload_n d_Mod_init_76 rfl ?_
  refine Ev_bipush (v := (6)) d_Mod_init_77 (by decide) ?_
  refine Ev_newaL (at0 := .int) (a := 7) (b := 766) (ty := 0) (n := 56) (k := 6) (sh' := x_SH.take 57) xw_a_int d_Mod_init_79 (Or.inl ⟨rfl, rfl⟩) (by decide) (by decide) (by decide) rfl (by decide) (fun j => by first | exact hz _ (by decide) j | exact x_zz hz j) rfl ?_
  refine Ev_putrF (ci := 11) (k := 26) (C := "TrainGuardModel") (T := x_TMod) (N := 44) xw_fMod_38 d_Mod_init_81 rfl (by decide) rfl rfl rfl (by decide) rfl rfl (fun _ => ⟨rfl, rfl⟩) ?_
  show Ev E m_Mod_init 7 766 84 [some (.ref 46), some (.int x1), some (.int x2), some (.int x3), none] [] (HI, x_hr_55, x_SH.take 57) Q
  refine Ev_aload_n d_Mod_init_84 rfl ?_
  refine Ev_bipush (v := (6)) d_Mod_init_85 (by decide) ?_
  refine Ev_newaL (at0 := .int) (a := 6) (b := 760) (ty := 0) (n := 57) (k := 6) (sh' := x_SH.take 58) xw_a_int d_Mod_init_87 (Or.inl ⟨rfl, rfl⟩) (by decide) (by decide) (by decide) rfl (by decide) (fun j => by first | exact hz _ (by decide) j | exact x_zz hz j) rfl ?_
  refine Ev_putrF (ci := 11) (k := 27) (C := "TrainGuardModel") (T := x_TMod) (N := 44) xw_fMod_41 d_Mod_init_89 rfl (by decide) rfl rfl rfl (by decide) rfl rfl (fun _ => ⟨rfl, rfl⟩) ?_
  show Ev E m_Mod_init 6 760 92 [some (.ref 46), some (.int x1), some (.int x2), some (.int x3), none] [] (HI, x_hr_56, x_SH.take 58) Q
  refine Ev_aload_n d_Mod_init_92 rfl ?_
  refine Ev_bipush (v := (6)) d_Mod_init_93 (by decide) ?_
  refine Ev_newaL (at0 := .int) (a := 5) (b := 754) (ty := 0) (n := 58) (k := 6) (sh' := x_SH.take 59) xw_a_int d_Mod_init_95 (Or.inl ⟨rfl, rfl⟩) (by decide) (by decide) (by decide) rfl (by decide) (fun j => by first | exact hz _ (by decide) j | exact x_zz hz j) rfl ?_
  refine Ev_putrF (ci := 11) (k := 28) (C := "TrainGuardModel") (T := x_TMod) (N := 44) xw_fMod_44 d_Mod_init_97 rfl (by decide) rfl rfl rfl (by decide) rfl rfl (fun _ => ⟨rfl, rfl⟩) ?_
  show Ev E m_Mod_init 5 754 100 [some (.ref 46), some (.int x1), some (.int x2), some (.int x3), none] [] (HI, x_hr_57, x_SH.take 59) Q
  refine Ev_aload_n d_Mod_init_100 rfl ?_
  refine Ev_iconst (v := (-1)) d_Mod_init_101 (by decide) ?_
  refine Ev_puti (ci := 11) (k := 34) (C := "TrainGuardModel") (T := x_TMod) (N := 44) xw_fMod_47 d_Mod_init_102 rfl (by decide) rfl (by decide) rfl (Or.inl rfl) ?_
  refine Ev_aload_n d_Mod_init_105 rfl ?_
  refine Ev_sipush (v := (600)) d_Mod_init_106 (by decide) ?_
  refine Ev_newaL (at0 := .int) (a := 4) (b := 154) (ty := 0) (n := 59) (k := 600) (sh' := x_SH.take 60) xw_a_int d_Mod_init_109 (Or.inl ⟨rfl, rfl⟩) (by decide) (by decide) (by decide) rfl (by decide) (fun j => by first | exact hz _ (by decide) j | exact x_zz hz j) rfl ?_
  refine Ev_putrF (ci := 11) (k := 36) (C := "TrainGuardModel") (T := x_TMod) (N := 44) xw_fMod_51 d_Mod_init_111 rfl (by decide) rfl rfl rfl (by decide) rfl rfl (fun _ => ⟨rfl, rfl⟩) ?_
  show Ev E m_Mod_init 4 154 114 [some (.ref 46), some (.int x1), some (.int x2), some (.int x3), none] [] ((x_up HI 46 34 (-1 : Int32)), x_hr_58, x_SH.take 60) Q
  refine Ev_aload_n d_Mod_init_114 rfl ?_
  refine Ev_bipush (v := (6)) d_Mod_init_115 (by decide) ?_
  refine Ev_newaL (at0 := .boolean) (a := 3) (b := 148) (ty := 2) (n := 60) (k := 6) (sh' := x_SH.take 61) xw_a_boolean d_Mod_init_117 (Or.inr (Or.inr ⟨rfl, rfl⟩)) (by decide) (by decide) (by decide) rfl (by decide) (fun j => by first | exact hz _ (by decide) j | exact x_zz hz j) rfl ?_
  refine Ev_putrF (ci := 11) (k := 39) (C := "TrainGuardModel") (T := x_TMod) (N := 44) xw_fMod_54 d_Mod_init_119 rfl (by decide) rfl rfl rfl (by decide) rfl rfl (fun _ => ⟨rfl, rfl⟩) ?_
  show Ev E m_Mod_init 3 148 122 [some (.ref 46), some (.int x1), some (.int x2), some (.int x3), none] [] ((x_up HI 46 34 (-1 : Int32)), x_hr_59, x_SH.take 61) Q
  refine Ev_aload_n d_Mod_init_122 rfl ?_
  refine Ev_bipush (v := (6)) d_Mod_init_123 (by decide) ?_
  refine Ev_newaL (at0 := .int) (a := 2) (b := 142) (ty := 0) (n := 61) (k := 6) (sh' := x_SH.take 62) xw_a_int d_Mod_init_125 (Or.inl ⟨rfl, rfl⟩) (by decide) (by decide) (by decide) rfl (by decide) (fun j => by first | exact hz _ (by decide) j | exact x_zz hz j) rfl ?_
  refine Ev_putrF (ci := 11) (k := 40) (C := "TrainGuardModel") (T := x_TMod) (N := 44) xw_fMod_57 d_Mod_init_127 rfl (by decide) rfl rfl rfl (by decide) rfl rfl (fun _ => ⟨rfl, rfl⟩) ?_
  show Ev E m_Mod_init 2 142 130 [some (.ref 46), some (.int x1), some (.int x2), some (.int x3), none] [] ((x_up HI 46 34 (-1 : Int32)), x_hr_60, x_SH.take 62) Q
  refine Ev_aload_n d_Mod_init_130 rfl ?_
  refine Ev_bipush (v := (126)) d_Mod_init_131 (by decide) ?_
  refine Ev_newaL (at0 := .int) (a := 1) (b := 16) (ty := 0) (n := 62) (k := 126) (sh' := x_SH.take 63) xw_a_int d_Mod_init_133 (Or.inl ⟨rfl, rfl⟩) (by decide) (by decide) (by decide) rfl (by decide) (fun j => by first | exact hz _ (by decide) j | exact x_zz hz j) rfl ?_
  refine Ev_putrF (ci := 11) (k := 41) (C := "TrainGuardModel") (T := x_TMod) (N := 44) xw_fMod_60 d_Mod_init_135 rfl (by decide) rfl rfl rfl (by decide) rfl rfl (fun _ => ⟨rfl, rfl⟩) ?_
  show Ev E m_Mod_init 1 16 138 [some (.ref 46), some (.int x1), some (.int x2), some (.int x3), none] [] ((x_up HI 46 34 (-1 : Int32)), x_hr_61, x_SH.take 63) Q
  refine Ev_aload_n d_Mod_init_138 rfl ?_
  refine Ev_bipush (v := (16)) d_Mod_init_139 (by decide) ?_
  refine Ev_newaL (at0 := .int) (a := 0) (b := 0) (ty := 0) (n := 63) (k := 16) (sh' := x_SH.take 64) xw_a_int d_Mod_init_141 (Or.inl ⟨rfl, rfl⟩) (by decide) (by decide) (by decide) rfl (by decide) (fun j => by first | exact hz _ (by decide) j | exact x_zz hz j) rfl ?_
  refine Ev_putrF (ci := 11) (k := 43) (C := "TrainGuardModel") (T := x_TMod) (N := 44) xw_fMod_63 d_Mod_init_143 rfl (by decide) rfl rfl rfl (by decide) rfl rfl (fun _ => ⟨rfl, rfl⟩) ?_
  show Ev E m_Mod_init 0 0 146 [some (.ref 46), some (.int x1), some (.int x2), some (.int x3), none] [] ((x_up HI 46 34 (-1 : Int32)), x_hr_62, x_SH.take 64) Q
  refine Ev_iload_n d_Mod_init_146 rfl ?_
  refine Ev_iconst (v := (4)) d_Mod_init_147 (by decide) ?_
  refine Ev_icmp_ge (tgt := 155) d_Mod_init_148 rfl (fun h148 => ?_) (fun h148 => ?_)
  · rw [if_pos h148] at kk
    refine Ev_iload_n d_Mod_init_155 rfl ?_
    refine Ev_bipush (v := (40)) d_Mod_init_156 (by decide) ?_
    refine Ev_icmp_le (tgt := 166) d_Mod_init_158 rfl (fun h158 => ?_) (fun h158 => ?_)
    · rw [if_pos h158] at kk
      refine Ev_iload_n d_Mod_init_166 rfl ?_
      refine Ev_istore (L' := [some (.ref 46), some (.int x1), some (.int x2), some (.int x3), some (.int x1)]) d_Mod_init_167 (by decide) rfl ?_
      refine Ev_aload_n d_Mod_init_169 rfl ?_
      refine Ev_iload d_Mod_init_170 rfl ?_
      refine Ev_putiF (ci := 11) (k := 0) (C := "TrainGuardModel") (T := x_TMod) (N := 44) xw_fMod_66 d_Mod_init_172 rfl (by decide) rfl rfl rfl (by decide) rfl (Or.inl rfl) ?_
      refine Ev_aload_n d_Mod_init_175 rfl ?_
      refine Ev_iload_n d_Mod_init_176 rfl ?_
      refine Ev_iconst (v := (2)) d_Mod_init_177 (by decide) ?_
      refine Ev_icmp_ge (tgt := 185) d_Mod_init_178 rfl (fun h178 => ?_) (fun h178 => ?_)
      · rw [if_pos h178] at kk
        refine Ev_iload_n d_Mod_init_185 rfl ?_
        refine Ev_iload d_Mod_init_186 rfl ?_
        refine Ev_icmp_le (tgt := 196) d_Mod_init_188 rfl (fun h188 => ?_) (fun h188 => ?_)
        · rw [if_pos h188] at kk
          refine Ev_iload_n d_Mod_init_196 rfl ?_
          refine Ev_putiF (ci := 11) (k := 1) (C := "TrainGuardModel") (T := x_TMod) (N := 44) xw_fMod_69 d_Mod_init_197 rfl (by decide) rfl rfl rfl (by decide) rfl (Or.inl rfl) ?_
          refine Ev_aload_n d_Mod_init_200 rfl ?_
          refine Ev_iload_n d_Mod_init_201 rfl ?_
          refine Ev_if_ge (tgt := 209) d_Mod_init_202 rfl (fun h202 => ?_) (fun h202 => ?_)
          · rw [if_pos h202] at kk
            refine Ev_iload_n d_Mod_init_209 rfl ?_
            refine Ev_sipush (v := (4000)) d_Mod_init_210 (by decide) ?_
            refine Ev_icmp_le (tgt := 222) d_Mod_init_213 rfl (fun h213 => ?_) (fun h213 => ?_)
            · rw [if_pos h213] at kk
              refine Ev_iload_n d_Mod_init_222 rfl ?_
              refine Ev_putiF (ci := 11) (k := 2) (C := "TrainGuardModel") (T := x_TMod) (N := 44) xw_fMod_72 d_Mod_init_223 rfl (by decide) rfl rfl rfl (by decide) rfl (Or.inl rfl) ?_
              exact Ev_return d_Mod_init_226 rfl kk
            · rw [if_neg h213] at kk
              refine Ev_sipush (v := (4000)) d_Mod_init_216 (by decide) ?_
              refine Ev_goto (tgt := 223) d_Mod_init_219 rfl ?_
              refine Ev_putiF (ci := 11) (k := 2) (C := "TrainGuardModel") (T := x_TMod) (N := 44) xw_fMod_72 d_Mod_init_223 rfl (by decide) rfl rfl rfl (by decide) rfl (Or.inl rfl) ?_
              exact Ev_return d_Mod_init_226 rfl kk
          · rw [if_neg h202] at kk
            refine Ev_iconst (v := (0)) d_Mod_init_205 (by decide) ?_
            refine Ev_goto (tgt := 223) d_Mod_init_206 rfl ?_
            refine Ev_putiF (ci := 11) (k := 2) (C := "TrainGuardModel") (T := x_TMod) (N := 44) xw_fMod_72 d_Mod_init_223 rfl (by decide) rfl rfl rfl (by decide) rfl (Or.inl rfl) ?_
            exact Ev_return d_Mod_init_226 rfl kk
        · rw [if_neg h188] at kk
          refine Ev_iload d_Mod_init_191 rfl ?_
          refine Ev_goto (tgt := 197) d_Mod_init_193 rfl ?_
          refine Ev_putiF (ci := 11) (k := 1) (C := "TrainGuardModel") (T := x_TMod) (N := 44) xw_fMod_69 d_Mod_init_197 rfl (by decide) rfl rfl rfl (by decide) rfl (Or.inl rfl) ?_
          refine Ev_aload_n d_Mod_init_200 rfl ?_
          refine Ev_iload_n d_Mod_init_201 rfl ?_
          refine Ev_if_ge (tgt := 209) d_Mod_init_202 rfl (fun h202 => ?_) (fun h202 => ?_)
          · rw [if_pos h202] at kk
            refine Ev_iload_n d_Mod_init_209 rfl ?_
            refine Ev_sipush (v := (4000)) d_Mod_init_210 (by decide) ?_
            refine Ev_icmp_le (tgt := 222) d_Mod_init_213 rfl (fun h213 => ?_) (fun h213 => ?_)
            · rw [if_pos h213] at kk
              refine Ev_iload_n d_Mod_init_222 rfl ?_
              refine Ev_putiF (ci := 11) (k := 2) (C := "TrainGuardModel") (T := x_TMod) (N := 44) xw_fMod_72 d_Mod_init_223 rfl (by decide) rfl rfl rfl (by decide) rfl (Or.inl rfl) ?_
              exact Ev_return d_Mod_init_226 rfl kk
            · rw [if_neg h213] at kk
              refine Ev_sipush (v := (4000)) d_Mod_init_216 (by decide) ?_
              refine Ev_goto (tgt := 223) d_Mod_init_219 rfl ?_
              refine Ev_putiF (ci := 11) (k := 2) (C := "TrainGuardModel") (T := x_TMod) (N := 44) xw_fMod_72 d_Mod_init_223 rfl (by decide) rfl rfl rfl (by decide) rfl (Or.inl rfl) ?_
              exact Ev_return d_Mod_init_226 rfl kk
          · rw [if_neg h202] at kk
            refine Ev_iconst (v := (0)) d_Mod_init_205 (by decide) ?_
            refine Ev_goto (tgt := 223) d_Mod_init_206 rfl ?_
            refine Ev_putiF (ci := 11) (k := 2) (C := "TrainGuardModel") (T := x_TMod) (N := 44) xw_fMod_72 d_Mod_init_223 rfl (by decide) rfl rfl rfl (by decide) rfl (Or.inl rfl) ?_
            exact Ev_return d_Mod_init_226 rfl kk
      · rw [if_neg h178] at kk
        refine Ev_iconst (v := (2)) d_Mod_init_181 (by decide) ?_
        refine Ev_goto (tgt := 197) d_Mod_init_182 rfl ?_
        refine Ev_putiF (ci := 11) (k := 1) (C := "TrainGuardModel") (T := x_TMod) (N := 44) xw_fMod_69 d_Mod_init_197 rfl (by decide) rfl rfl rfl (by decide) rfl (Or.inl rfl) ?_
        refine Ev_aload_n d_Mod_init_200 rfl ?_
        refine Ev_iload_n d_Mod_init_201 rfl ?_
        refine Ev_if_ge (tgt := 209) d_Mod_init_202 rfl (fun h202 => ?_) (fun h202 => ?_)
        · rw [if_pos h202] at kk
          refine Ev_iload_n d_Mod_init_209 rfl ?_
          refine Ev_sipush (v := (4000)) d_Mod_init_210 (by decide) ?_
          refine Ev_icmp_le (tgt := 222) d_Mod_init_213 rfl (fun h213 => ?_) (fun h213 => ?_)
          · rw [if_pos h213] at kk
            refine Ev_iload_n d_Mod_init_222 rfl ?_
            refine Ev_putiF (ci := 11) (k := 2) (C := "TrainGuardModel") (T := x_TMod) (N := 44) xw_fMod_72 d_Mod_init_223 rfl (by decide) rfl rfl rfl (by decide) rfl (Or.inl rfl) ?_
            exact Ev_return d_Mod_init_226 rfl kk
          · rw [if_neg h213] at kk
            refine Ev_sipush (v := (4000)) d_Mod_init_216 (by decide) ?_
            refine Ev_goto (tgt := 223) d_Mod_init_219 rfl ?_
            refine Ev_putiF (ci := 11) (k := 2) (C := "TrainGuardModel") (T := x_TMod) (N := 44) xw_fMod_72 d_Mod_init_223 rfl (by decide) rfl rfl rfl (by decide) rfl (Or.inl rfl) ?_
            exact Ev_return d_Mod_init_226 rfl kk
        · rw [if_neg h202] at kk
          refine Ev_iconst (v := (0)) d_Mod_init_205 (by decide) ?_
          refine Ev_goto (tgt := 223) d_Mod_init_206 rfl ?_
          refine Ev_putiF (ci := 11) (k := 2) (C := "TrainGuardModel") (T := x_TMod) (N := 44) xw_fMod_72 d_Mod_init_223 rfl (by decide) rfl rfl rfl (by decide) rfl (Or.inl rfl) ?_
          exact Ev_return d_Mod_init_226 rfl kk
    · rw [if_neg h158] at kk
      refine Ev_bipush (v := (40)) d_Mod_init_161 (by decide) ?_
      refine Ev_goto (tgt := 167) d_Mod_init_163 rfl ?_
      refine Ev_istore (L' := [some (.ref 46), some (.int x1), some (.int x2), some (.int x3), some (.int (40 : Int32))]) d_Mod_init_167 (by decide) rfl ?_
      refine Ev_aload_n d_Mod_init_169 rfl ?_
      refine Ev_iload d_Mod_init_170 rfl ?_
      refine Ev_putiF (ci := 11) (k := 0) (C := "TrainGuardModel") (T := x_TMod) (N := 44) xw_fMod_66 d_Mod_init_172 rfl (by decide) rfl rfl rfl (by decide) rfl (Or.inl rfl) ?_
      refine Ev_aload_n d_Mod_init_175 rfl ?_
      refine Ev_iload_n d_Mod_init_176 rfl ?_
      refine Ev_iconst (v := (2)) d_Mod_init_177 (by decide) ?_
      refine Ev_icmp_ge (tgt := 185) d_Mod_init_178 rfl (fun h178 => ?_) (fun h178 => ?_)
      · rw [if_pos h178] at kk
        refine Ev_iload_n d_Mod_init_185 rfl ?_
        refine Ev_iload d_Mod_init_186 rfl ?_
        refine Ev_icmp_le (tgt := 196) d_Mod_init_188 rfl (fun h188 => ?_) (fun h188 => ?_)
        · rw [if_pos h188] at kk
          refine Ev_iload_n d_Mod_init_196 rfl ?_
          refine Ev_putiF (ci := 11) (k := 1) (C := "TrainGuardModel") (T := x_TMod) (N := 44) xw_fMod_69 d_Mod_init_197 rfl (by decide) rfl rfl rfl (by decide) rfl (Or.inl rfl) ?_
          refine Ev_aload_n d_Mod_init_200 rfl ?_
          refine Ev_iload_n d_Mod_init_201 rfl ?_
          refine Ev_if_ge (tgt := 209) d_Mod_init_202 rfl (fun h202 => ?_) (fun h202 => ?_)
          · rw [if_pos h202] at kk
            refine Ev_iload_n d_Mod_init_209 rfl ?_
            refine Ev_sipush (v := (4000)) d_Mod_init_210 (by decide) ?_
            refine Ev_icmp_le (tgt := 222) d_Mod_init_213 rfl (fun h213 => ?_) (fun h213 => ?_)
            · rw [if_pos h213] at kk
              refine Ev_iload_n d_Mod_init_222 rfl ?_
              refine Ev_putiF (ci := 11) (k := 2) (C := "TrainGuardModel") (T := x_TMod) (N := 44) xw_fMod_72 d_Mod_init_223 rfl (by decide) rfl rfl rfl (by decide) rfl (Or.inl rfl) ?_
              exact Ev_return d_Mod_init_226 rfl kk
            · rw [if_neg h213] at kk
              refine Ev_sipush (v := (4000)) d_Mod_init_216 (by decide) ?_
              refine Ev_goto (tgt := 223) d_Mod_init_219 rfl ?_
              refine Ev_putiF (ci := 11) (k := 2) (C := "TrainGuardModel") (T := x_TMod) (N := 44) xw_fMod_72 d_Mod_init_223 rfl (by decide) rfl rfl rfl (by decide) rfl (Or.inl rfl) ?_
              exact Ev_return d_Mod_init_226 rfl kk
          · rw [if_neg h202] at kk
            refine Ev_iconst (v := (0)) d_Mod_init_205 (by decide) ?_
            refine Ev_goto (tgt := 223) d_Mod_init_206 rfl ?_
            refine Ev_putiF (ci := 11) (k := 2) (C := "TrainGuardModel") (T := x_TMod) (N := 44) xw_fMod_72 d_Mod_init_223 rfl (by decide) rfl rfl rfl (by decide) rfl (Or.inl rfl) ?_
            exact Ev_return d_Mod_init_226 rfl kk
        · rw [if_neg h188] at kk
          refine Ev_iload d_Mod_init_191 rfl ?_
          refine Ev_goto (tgt := 197) d_Mod_init_193 rfl ?_
          refine Ev_putiF (ci := 11) (k := 1) (C := "TrainGuardModel") (T := x_TMod) (N := 44) xw_fMod_69 d_Mod_init_197 rfl (by decide) rfl rfl rfl (by decide) rfl (Or.inl rfl) ?_
          refine Ev_aload_n d_Mod_init_200 rfl ?_
          refine Ev_iload_n d_Mod_init_201 rfl ?_
          refine Ev_if_ge (tgt := 209) d_Mod_init_202 rfl (fun h202 => ?_) (fun h202 => ?_)
          · rw [if_pos h202] at kk
            refine Ev_iload_n d_Mod_init_209 rfl ?_
            refine Ev_sipush (v := (4000)) d_Mod_init_210 (by decide) ?_
            refine Ev_icmp_le (tgt := 222) d_Mod_init_213 rfl (fun h213 => ?_) (fun h213 => ?_)
            · rw [if_pos h213] at kk
              refine Ev_iload_n d_Mod_init_222 rfl ?_
              refine Ev_putiF (ci := 11) (k := 2) (C := "TrainGuardModel") (T := x_TMod) (N := 44) xw_fMod_72 d_Mod_init_223 rfl (by decide) rfl rfl rfl (by decide) rfl (Or.inl rfl) ?_
              exact Ev_return d_Mod_init_226 rfl kk
            · rw [if_neg h213] at kk
              refine Ev_sipush (v := (4000)) d_Mod_init_216 (by decide) ?_
              refine Ev_goto (tgt := 223) d_Mod_init_219 rfl ?_
              refine Ev_putiF (ci := 11) (k := 2) (C := "TrainGuardModel") (T := x_TMod) (N := 44) xw_fMod_72 d_Mod_init_223 rfl (by decide) rfl rfl rfl (by decide) rfl (Or.inl rfl) ?_
              exact Ev_return d_Mod_init_226 rfl kk
          · rw [if_neg h202] at kk
            refine Ev_iconst (v := (0)) d_Mod_init_205 (by decide) ?_
            refine Ev_goto (tgt := 223) d_Mod_init_206 rfl ?_
            refine Ev_putiF (ci := 11) (k := 2) (C := "TrainGuardModel") (T := x_TMod) (N := 44) xw_fMod_72 d_Mod_init_223 rfl (by decide) rfl rfl rfl (by decide) rfl (Or.inl rfl) ?_
            exact Ev_return d_Mod_init_226 rfl kk
      · rw [if_neg h178] at kk
        refine Ev_iconst (v := (2)) d_Mod_init_181 (by decide) ?_
        refine Ev_goto (tgt := 197) d_Mod_init_182 rfl ?_
        refine Ev_putiF (ci := 11) (k := 1) (C := "TrainGuardModel") (T := x_TMod) (N := 44) xw_fMod_69 d_Mod_init_197 rfl (by decide) rfl rfl rfl (by decide) rfl (Or.inl rfl) ?_
        refine Ev_aload_n d_Mod_init_200 rfl ?_
        refine Ev_iload_n d_Mod_init_201 rfl ?_
        refine Ev_if_ge (tgt := 209) d_Mod_init_202 rfl (fun h202 => ?_) (fun h202 => ?_)
        · rw [if_pos h202] at kk
          refine Ev_iload_n d_Mod_init_209 rfl ?_
          refine Ev_sipush (v := (4000)) d_Mod_init_210 (by decide) ?_
          refine Ev_icmp_le (tgt := 222) d_Mod_init_213 rfl (fun h213 => ?_) (fun h213 => ?_)
          · rw [if_pos h213] at kk
            refine Ev_iload_n d_Mod_init_222 rfl ?_
            refine Ev_putiF (ci := 11) (k := 2) (C := "TrainGuardModel") (T := x_TMod) (N := 44) xw_fMod_72 d_Mod_init_223 rfl (by decide) rfl rfl rfl (by decide) rfl (Or.inl rfl) ?_
            exact Ev_return d_Mod_init_226 rfl kk
          · rw [if_neg h213] at kk
            refine Ev_sipush (v := (4000)) d_Mod_init_216 (by decide) ?_
            refine Ev_goto (tgt := 223) d_Mod_init_219 rfl ?_
            refine Ev_putiF (ci := 11) (k := 2) (C := "TrainGuardModel") (T := x_TMod) (N := 44) xw_fMod_72 d_Mod_init_223 rfl (by decide) rfl rfl rfl (by decide) rfl (Or.inl rfl) ?_
            exact Ev_return d_Mod_init_226 rfl kk
        · rw [if_neg h202] at kk
          refine Ev_iconst (v := (0)) d_Mod_init_205 (by decide) ?_
          refine Ev_goto (tgt := 223) d_Mod_init_206 rfl ?_
          refine Ev_putiF (ci := 11) (k := 2) (C := "TrainGuardModel") (T := x_TMod) (N := 44) xw_fMod_72 d_Mod_init_223 rfl (by decide) rfl rfl rfl (by decide) rfl (Or.inl rfl) ?_
          exact Ev_return d_Mod_init_226 rfl kk
  · rw [if_neg h148] at kk
    refine Ev_iconst (v := (4)) d_Mod_init_151 (by decide) ?_
    refine Ev_goto (tgt := 167) d_Mod_init_152 rfl ?_
    refine Ev_istore (L' := [some (.ref 46), some (.int x1), some (.int x2), some (.int x3), some (.int (4 : Int32))]) d_Mod_init_167 (by decide) rfl ?_
    refine Ev_aload_n d_Mod_init_169 rfl ?_
    refine Ev_iload d_Mod_init_170 rfl ?_
    refine Ev_putiF (ci := 11) (k := 0) (C := "TrainGuardModel") (T := x_TMod) (N := 44) xw_fMod_66 d_Mod_init_172 rfl (by decide) rfl rfl rfl (by decide) rfl (Or.inl rfl) ?_
    refine Ev_aload_n d_Mod_init_175 rfl ?_
    refine Ev_iload_n d_Mod_init_176 rfl ?_
    refine Ev_iconst (v := (2)) d_Mod_init_177 (by decide) ?_
    refine Ev_icmp_ge (tgt := 185) d_Mod_init_178 rfl (fun h178 => ?_) (fun h178 => ?_)
    · rw [if_pos h178] at kk
      refine Ev_iload_n d_Mod_init_185 rfl ?_
      refine Ev_iload d_Mod_init_186 rfl ?_
      refine Ev_icmp_le (tgt := 196) d_Mod_init_188 rfl (fun h188 => ?_) (fun h188 => ?_)
      · rw [if_pos h188] at kk
        refine Ev_iload_n d_Mod_init_196 rfl ?_
        refine Ev_putiF (ci := 11) (k := 1) (C := "TrainGuardModel") (T := x_TMod) (N := 44) xw_fMod_69 d_Mod_init_197 rfl (by decide) rfl rfl rfl (by decide) rfl (Or.inl rfl) ?_
        refine Ev_aload_n d_Mod_init_200 rfl ?_
        refine Ev_iload_n d_Mod_init_201 rfl ?_
        refine Ev_if_ge (tgt := 209) d_Mod_init_202 rfl (fun h202 => ?_) (fun h202 => ?_)
        · rw [if_pos h202] at kk
          refine Ev_iload_n d_Mod_init_209 rfl ?_
          refine Ev_sipush (v := (4000)) d_Mod_init_210 (by decide) ?_
          refine Ev_icmp_le (tgt := 222) d_Mod_init_213 rfl (fun h213 => ?_) (fun h213 => ?_)
          · rw [if_pos h213] at kk
            refine Ev_iload_n d_Mod_init_222 rfl ?_
            refine Ev_putiF (ci := 11) (k := 2) (C := "TrainGuardModel") (T := x_TMod) (N := 44) xw_fMod_72 d_Mod_init_223 rfl (by decide) rfl rfl rfl (by decide) rfl (Or.inl rfl) ?_
            exact Ev_return d_Mod_init_226 rfl kk
          · rw [if_neg h213] at kk
            refine Ev_sipush (v := (4000)) d_Mod_init_216 (by decide) ?_
            refine Ev_goto (tgt := 223) d_Mod_init_219 rfl ?_
            refine Ev_putiF (ci := 11) (k := 2) (C := "TrainGuardModel") (T := x_TMod) (N := 44) xw_fMod_72 d_Mod_init_223 rfl (by decide) rfl rfl rfl (by decide) rfl (Or.inl rfl) ?_
            exact Ev_return d_Mod_init_226 rfl kk
        · rw [if_neg h202] at kk
          refine Ev_iconst (v := (0)) d_Mod_init_205 (by decide) ?_
          refine Ev_goto (tgt := 223) d_Mod_init_206 rfl ?_
          refine Ev_putiF (ci := 11) (k := 2) (C := "TrainGuardModel") (T := x_TMod) (N := 44) xw_fMod_72 d_Mod_init_223 rfl (by decide) rfl rfl rfl (by decide) rfl (Or.inl rfl) ?_
          exact Ev_return d_Mod_init_226 rfl kk
      · rw [if_neg h188] at kk
        refine Ev_iload d_Mod_init_191 rfl ?_
        refine Ev_goto (tgt := 197) d_Mod_init_193 rfl ?_
        refine Ev_putiF (ci := 11) (k := 1) (C := "TrainGuardModel") (T := x_TMod) (N := 44) xw_fMod_69 d_Mod_init_197 rfl (by decide) rfl rfl rfl (by decide) rfl (Or.inl rfl) ?_
        refine Ev_aload_n d_Mod_init_200 rfl ?_
        refine Ev_iload_n d_Mod_init_201 rfl ?_
        refine Ev_if_ge (tgt := 209) d_Mod_init_202 rfl (fun h202 => ?_) (fun h202 => ?_)
        · rw [if_pos h202] at kk
          refine Ev_iload_n d_Mod_init_209 rfl ?_
          refine Ev_sipush (v := (4000)) d_Mod_init_210 (by decide) ?_
          refine Ev_icmp_le (tgt := 222) d_Mod_init_213 rfl (fun h213 => ?_) (fun h213 => ?_)
          · rw [if_pos h213] at kk
            refine Ev_iload_n d_Mod_init_222 rfl ?_
            refine Ev_putiF (ci := 11) (k := 2) (C := "TrainGuardModel") (T := x_TMod) (N := 44) xw_fMod_72 d_Mod_init_223 rfl (by decide) rfl rfl rfl (by decide) rfl (Or.inl rfl) ?_
            exact Ev_return d_Mod_init_226 rfl kk
          · rw [if_neg h213] at kk
            refine Ev_sipush (v := (4000)) d_Mod_init_216 (by decide) ?_
            refine Ev_goto (tgt := 223) d_Mod_init_219 rfl ?_
            refine Ev_putiF (ci := 11) (k := 2) (C := "TrainGuardModel") (T := x_TMod) (N := 44) xw_fMod_72 d_Mod_init_223 rfl (by decide) rfl rfl rfl (by decide) rfl (Or.inl rfl) ?_
            exact Ev_return d_Mod_init_226 rfl kk
        · rw [if_neg h202] at kk
          refine Ev_iconst (v := (0)) d_Mod_init_205 (by decide) ?_
          refine Ev_goto (tgt := 223) d_Mod_init_206 rfl ?_
          refine Ev_putiF (ci := 11) (k := 2) (C := "TrainGuardModel") (T := x_TMod) (N := 44) xw_fMod_72 d_Mod_init_223 rfl (by decide) rfl rfl rfl (by decide) rfl (Or.inl rfl) ?_
          exact Ev_return d_Mod_init_226 rfl kk
    · rw [if_neg h178] at kk
      refine Ev_iconst (v := (2)) d_Mod_init_181 (by decide) ?_
      refine Ev_goto (tgt := 197) d_Mod_init_182 rfl ?_
      refine Ev_putiF (ci := 11) (k := 1) (C := "TrainGuardModel") (T := x_TMod) (N := 44) xw_fMod_69 d_Mod_init_197 rfl (by decide) rfl rfl rfl (by decide) rfl (Or.inl rfl) ?_
      refine Ev_aload_n d_Mod_init_200 rfl ?_
      refine Ev_iload_n d_Mod_init_201 rfl ?_
      refine Ev_if_ge (tgt := 209) d_Mod_init_202 rfl (fun h202 => ?_) (fun h202 => ?_)
      · rw [if_pos h202] at kk
        refine Ev_iload_n d_Mod_init_209 rfl ?_
        refine Ev_sipush (v := (4000)) d_Mod_init_210 (by decide) ?_
        refine Ev_icmp_le (tgt := 222) d_Mod_init_213 rfl (fun h213 => ?_) (fun h213 => ?_)
        · rw [if_pos h213] at kk
          refine Ev_iload_n d_Mod_init_222 rfl ?_
          refine Ev_putiF (ci := 11) (k := 2) (C := "TrainGuardModel") (T := x_TMod) (N := 44) xw_fMod_72 d_Mod_init_223 rfl (by decide) rfl rfl rfl (by decide) rfl (Or.inl rfl) ?_
          exact Ev_return d_Mod_init_226 rfl kk
        · rw [if_neg h213] at kk
          refine Ev_sipush (v := (4000)) d_Mod_init_216 (by decide) ?_
          refine Ev_goto (tgt := 223) d_Mod_init_219 rfl ?_
          refine Ev_putiF (ci := 11) (k := 2) (C := "TrainGuardModel") (T := x_TMod) (N := 44) xw_fMod_72 d_Mod_init_223 rfl (by decide) rfl rfl rfl (by decide) rfl (Or.inl rfl) ?_
          exact Ev_return d_Mod_init_226 rfl kk
      · rw [if_neg h202] at kk
        refine Ev_iconst (v := (0)) d_Mod_init_205 (by decide) ?_
        refine Ev_goto (tgt := 223) d_Mod_init_206 rfl ?_
        refine Ev_putiF (ci := 11) (k := 2) (C := "TrainGuardModel") (T := x_TMod) (N := 44) xw_fMod_72 d_Mod_init_223 rfl (by decide) rfl rfl rfl (by decide) rfl (Or.inl rfl) ?_
        exact Ev_return d_Mod_init_226 rfl kk
