/-! the classes: their fields' words, types and names -/
theorem x_layG : ∀ k, k < 14 → u_lay "TrainGuard" x_TG k ∈ x_W := fun k hk => match k, hk with
  | 0, _ => xw_lG_0
  | 1, _ => xw_lG_1
  | 2, _ => xw_lG_2
  | 3, _ => xw_lG_3
  | 4, _ => xw_lG_4
  | 5, _ => xw_lG_5
  | 6, _ => xw_lG_6
  | 7, _ => xw_lG_7
  | 8, _ => xw_lG_8
  | 9, _ => xw_lG_9
  | 10, _ => xw_lG_10
  | 11, _ => xw_lG_11
  | 12, _ => xw_lG_12
  | 13, _ => xw_lG_13
  | k + 14, h => absurd h (by omega)
theorem x_tokG : ∀ k, k < 14 → parseFieldDescriptor (x_TG k).2.2.1 = some (x_tyG k) := by decide +kernel
theorem x_nmG : ∀ a, a < 14 → ∀ b, b < 14 → a ≠ b → (x_TG a).2.1 ≠ (x_TG b).2.1 := by decide +kernel
theorem x_ownG : ∀ k, k < 14 → (x_TG k).1 = "TrainGuard" := by decide +kernel
theorem x_layFrt : ∀ k, k < 3 → u_lay "TrainGuard$Front" x_TFrt k ∈ x_W := fun k hk => match k, hk with
  | 0, _ => xw_lFrt_0
  | 1, _ => xw_lFrt_1
  | 2, _ => xw_lFrt_2
  | k + 3, h => absurd h (by omega)
theorem x_tokFrt : ∀ k, k < 3 → parseFieldDescriptor (x_TFrt k).2.2.1 = some (x_tyFrt k) := by decide +kernel
theorem x_nmFrt : ∀ a, a < 3 → ∀ b, b < 3 → a ≠ b → (x_TFrt a).2.1 ≠ (x_TFrt b).2.1 := by decide +kernel
theorem x_ownFrt : ∀ k, k < 3 → (x_TFrt k).1 = "TrainGuard$Front" := by decide +kernel
theorem x_layTrk : ∀ k, k < 8 → u_lay "TrainGuard$Track" x_TTrk k ∈ x_W := fun k hk => match k, hk with
  | 0, _ => xw_lTrk_0
  | 1, _ => xw_lTrk_1
  | 2, _ => xw_lTrk_2
  | 3, _ => xw_lTrk_3
  | 4, _ => xw_lTrk_4
  | 5, _ => xw_lTrk_5
  | 6, _ => xw_lTrk_6
  | 7, _ => xw_lTrk_7
  | k + 8, h => absurd h (by omega)
theorem x_tokTrk : ∀ k, k < 8 → parseFieldDescriptor (x_TTrk k).2.2.1 = some (x_tyTrk k) := by decide +kernel
theorem x_nmTrk : ∀ a, a < 8 → ∀ b, b < 8 → a ≠ b → (x_TTrk a).2.1 ≠ (x_TTrk b).2.1 := by decide +kernel
theorem x_ownTrk : ∀ k, k < 8 → (x_TTrk k).1 = "TrainGuard$Track" := by decide +kernel
theorem x_laySpn : ∀ k, k < 4 → u_lay "TrainGuard$SpanRow" x_TSpn k ∈ x_W := fun k hk => match k, hk with
  | 0, _ => xw_lSpn_0
  | 1, _ => xw_lSpn_1
  | 2, _ => xw_lSpn_2
  | 3, _ => xw_lSpn_3
  | k + 4, h => absurd h (by omega)
theorem x_tokSpn : ∀ k, k < 4 → parseFieldDescriptor (x_TSpn k).2.2.1 = some (x_tySpn k) := by decide +kernel
theorem x_nmSpn : ∀ a, a < 4 → ∀ b, b < 4 → a ≠ b → (x_TSpn a).2.1 ≠ (x_TSpn b).2.1 := by decide +kernel
theorem x_ownSpn : ∀ k, k < 4 → (x_TSpn k).1 = "TrainGuard$SpanRow" := by decide +kernel
theorem x_layRes : ∀ k, k < 2 → u_lay "TrainGuard$Restrictions" x_TRes k ∈ x_W := fun k hk => match k, hk with
  | 0, _ => xw_lRes_0
  | 1, _ => xw_lRes_1
  | k + 2, h => absurd h (by omega)
theorem x_tokRes : ∀ k, k < 2 → parseFieldDescriptor (x_TRes k).2.2.1 = some (x_tyRes k) := by decide +kernel
theorem x_nmRes : ∀ a, a < 2 → ∀ b, b < 2 → a ≠ b → (x_TRes a).2.1 ≠ (x_TRes b).2.1 := by decide +kernel
theorem x_ownRes : ∀ k, k < 2 → (x_TRes k).1 = "TrainGuard$Restrictions" := by decide +kernel
theorem x_layMrk : ∀ k, k < 5 → u_lay "TrainGuard$MarkRow" x_TMrk k ∈ x_W := fun k hk => match k, hk with
  | 0, _ => xw_lMrk_0
  | 1, _ => xw_lMrk_1
  | 2, _ => xw_lMrk_2
  | 3, _ => xw_lMrk_3
  | 4, _ => xw_lMrk_4
  | k + 5, h => absurd h (by omega)
theorem x_tokMrk : ∀ k, k < 5 → parseFieldDescriptor (x_TMrk k).2.2.1 = some (x_tyMrk k) := by decide +kernel
theorem x_nmMrk : ∀ a, a < 5 → ∀ b, b < 5 → a ≠ b → (x_TMrk a).2.1 ≠ (x_TMrk b).2.1 := by decide +kernel
theorem x_ownMrk : ∀ k, k < 5 → (x_TMrk k).1 = "TrainGuard$MarkRow" := by decide +kernel
theorem x_layBit : ∀ k, k < 4 → u_lay "TrainGuard$BitRow" x_TBit k ∈ x_W := fun k hk => match k, hk with
  | 0, _ => xw_lBit_0
  | 1, _ => xw_lBit_1
  | 2, _ => xw_lBit_2
  | 3, _ => xw_lBit_3
  | k + 4, h => absurd h (by omega)
theorem x_tokBit : ∀ k, k < 4 → parseFieldDescriptor (x_TBit k).2.2.1 = some (x_tyBit k) := by decide +kernel
theorem x_nmBit : ∀ a, a < 4 → ∀ b, b < 4 → a ≠ b → (x_TBit a).2.1 ≠ (x_TBit b).2.1 := by decide +kernel
theorem x_ownBit : ∀ k, k < 4 → (x_TBit k).1 = "TrainGuard$BitRow" := by decide +kernel
theorem x_layMsg : ∀ k, k < 14 → u_lay "TrainGuard$Message" x_TMsg k ∈ x_W := fun k hk => match k, hk with
  | 0, _ => xw_lMsg_0
  | 1, _ => xw_lMsg_1
  | 2, _ => xw_lMsg_2
  | 3, _ => xw_lMsg_3
  | 4, _ => xw_lMsg_4
  | 5, _ => xw_lMsg_5
  | 6, _ => xw_lMsg_6
  | 7, _ => xw_lMsg_7
  | 8, _ => xw_lMsg_8
  | 9, _ => xw_lMsg_9
  | 10, _ => xw_lMsg_10
  | 11, _ => xw_lMsg_11
  | 12, _ => xw_lMsg_12
  | 13, _ => xw_lMsg_13
  | k + 14, h => absurd h (by omega)
theorem x_tokMsg : ∀ k, k < 14 → parseFieldDescriptor (x_TMsg k).2.2.1 = some (x_tyMsg k) := by decide +kernel
theorem x_nmMsg : ∀ a, a < 14 → ∀ b, b < 14 → a ≠ b → (x_TMsg a).2.1 ≠ (x_TMsg b).2.1 := by decide +kernel
theorem x_ownMsg : ∀ k, k < 14 → (x_TMsg k).1 = "TrainGuard$Message" := by decide +kernel
theorem x_layCur : ∀ k, k < 8 → u_lay "TrainGuard$Curves" x_TCur k ∈ x_W := fun k hk => match k, hk with
  | 0, _ => xw_lCur_0
  | 1, _ => xw_lCur_1
  | 2, _ => xw_lCur_2
  | 3, _ => xw_lCur_3
  | 4, _ => xw_lCur_4
  | 5, _ => xw_lCur_5
  | 6, _ => xw_lCur_6
  | 7, _ => xw_lCur_7
  | k + 8, h => absurd h (by omega)
theorem x_tokCur : ∀ k, k < 8 → parseFieldDescriptor (x_TCur k).2.2.1 = some (x_tyCur k) := by decide +kernel
theorem x_nmCur : ∀ a, a < 8 → ∀ b, b < 8 → a ≠ b → (x_TCur a).2.1 ≠ (x_TCur b).2.1 := by decide +kernel
theorem x_ownCur : ∀ k, k < 8 → (x_TCur k).1 = "TrainGuard$Curves" := by decide +kernel
theorem x_layBrk : ∀ k, k < 3 → u_lay "TrainGuard$Brakes" x_TBrk k ∈ x_W := fun k hk => match k, hk with
  | 0, _ => xw_lBrk_0
  | 1, _ => xw_lBrk_1
  | 2, _ => xw_lBrk_2
  | k + 3, h => absurd h (by omega)
theorem x_tokBrk : ∀ k, k < 3 → parseFieldDescriptor (x_TBrk k).2.2.1 = some (x_tyBrk k) := by decide +kernel
theorem x_nmBrk : ∀ a, a < 3 → ∀ b, b < 3 → a ≠ b → (x_TBrk a).2.1 ≠ (x_TBrk b).2.1 := by decide +kernel
theorem x_ownBrk : ∀ k, k < 3 → (x_TBrk k).1 = "TrainGuard$Brakes" := by decide +kernel
theorem x_layNot : ∀ k, k < 3 → u_lay "TrainGuard$Notes" x_TNot k ∈ x_W := fun k hk => match k, hk with
  | 0, _ => xw_lNot_0
  | 1, _ => xw_lNot_1
  | 2, _ => xw_lNot_2
  | k + 3, h => absurd h (by omega)
theorem x_tokNot : ∀ k, k < 3 → parseFieldDescriptor (x_TNot k).2.2.1 = some (x_tyNot k) := by decide +kernel
theorem x_nmNot : ∀ a, a < 3 → ∀ b, b < 3 → a ≠ b → (x_TNot a).2.1 ≠ (x_TNot b).2.1 := by decide +kernel
theorem x_ownNot : ∀ k, k < 3 → (x_TNot k).1 = "TrainGuard$Notes" := by decide +kernel
theorem x_layMod : ∀ k, k < 44 → u_lay "TrainGuardModel" x_TMod k ∈ x_W := fun k hk => match k, hk with
  | 0, _ => xw_lMod_0
  | 1, _ => xw_lMod_1
  | 2, _ => xw_lMod_2
  | 3, _ => xw_lMod_3
  | 4, _ => xw_lMod_4
  | 5, _ => xw_lMod_5
  | 6, _ => xw_lMod_6
  | 7, _ => xw_lMod_7
  | 8, _ => xw_lMod_8
  | 9, _ => xw_lMod_9
  | 10, _ => xw_lMod_10
  | 11, _ => xw_lMod_11
  | 12, _ => xw_lMod_12
  | 13, _ => xw_lMod_13
  | 14, _ => xw_lMod_14
  | 15, _ => xw_lMod_15
  | 16, _ => xw_lMod_16
  | 17, _ => xw_lMod_17
  | 18, _ => xw_lMod_18
  | 19, _ => xw_lMod_19
  | 20, _ => xw_lMod_20
  | 21, _ => xw_lMod_21
  | 22, _ => xw_lMod_22
  | 23, _ => xw_lMod_23
  | 24, _ => xw_lMod_24
  | 25, _ => xw_lMod_25
  | 26, _ => xw_lMod_26
  | 27, _ => xw_lMod_27
  | 28, _ => xw_lMod_28
  | 29, _ => xw_lMod_29
  | 30, _ => xw_lMod_30
  | 31, _ => xw_lMod_31
  | 32, _ => xw_lMod_32
  | 33, _ => xw_lMod_33
  | 34, _ => xw_lMod_34
  | 35, _ => xw_lMod_35
  | 36, _ => xw_lMod_36
  | 37, _ => xw_lMod_37
  | 38, _ => xw_lMod_38
  | 39, _ => xw_lMod_39
  | 40, _ => xw_lMod_40
  | 41, _ => xw_lMod_41
  | 42, _ => xw_lMod_42
  | 43, _ => xw_lMod_43
  | k + 44, h => absurd h (by omega)
theorem x_tokMod : ∀ k, k < 44 → parseFieldDescriptor (x_TMod k).2.2.1 = some (x_tyMod k) := by decide +kernel
theorem x_nmMod : ∀ a, a < 44 → ∀ b, b < 44 → a ≠ b → (x_TMod a).2.1 ≠ (x_TMod b).2.1 := by decide +kernel
theorem x_ownMod : ∀ k, k < 44 → (x_TMod k).1 = "TrainGuardModel" := by decide +kernel
def x_clOk (ci : Nat) (q : vw_C) : Prop := (∀ w ∈ u_ws q.1 q.2.1 q.2.2, w ∈ x_W) ∧ (∀ k, k < q.2.2 → parseFieldDescriptor (q.2.1 k).2.2.1 = some (x_fty ci k)) ∧ (∀ a, a < q.2.2 → ∀ b, b < q.2.2 → a ≠ b → (q.2.1 a).2.1 ≠ (q.2.1 b).2.1) ∧ (∀ k, k < q.2.2 → (q.2.1 k).1 = q.1) ∧ Cond.instantiable q.1 q.2.2 ∈ x_W ∧ Cond.initialized q.1 ∈ x_W
theorem x_layW {C : String} {T : u_T} {N : Nat} (h : ∀ k, k < N → u_lay C T k ∈ x_W) : ∀ w ∈ u_ws C T N, w ∈ x_W := by
  intro w hw
  obtain ⟨k, hk, rfl⟩ := List.mem_map.mp hw
  exact h k (List.mem_range.mp hk)
theorem x_clok : ∀ (ci : Nat) (q : vw_C), x_cls[ci]? = some q → x_clOk ci q := fun ci q hq => match ci, hq with
  | 0, rfl => ⟨x_layW x_layG, x_tokG, x_nmG, x_ownG, xw_nG, xw_iG⟩
  | 1, rfl => ⟨x_layW x_layFrt, x_tokFrt, x_nmFrt, x_ownFrt, xw_nFrt, xw_iFrt⟩
  | 2, rfl => ⟨x_layW x_layTrk, x_tokTrk, x_nmTrk, x_ownTrk, xw_nTrk, xw_iTrk⟩
  | 3, rfl => ⟨x_layW x_laySpn, x_tokSpn, x_nmSpn, x_ownSpn, xw_nSpn, xw_iSpn⟩
  | 4, rfl => ⟨x_layW x_layRes, x_tokRes, x_nmRes, x_ownRes, xw_nRes, xw_iRes⟩
  | 5, rfl => ⟨x_layW x_layMrk, x_tokMrk, x_nmMrk, x_ownMrk, xw_nMrk, xw_iMrk⟩
  | 6, rfl => ⟨x_layW x_layBit, x_tokBit, x_nmBit, x_ownBit, xw_nBit, xw_iBit⟩
  | 7, rfl => ⟨x_layW x_layMsg, x_tokMsg, x_nmMsg, x_ownMsg, xw_nMsg, xw_iMsg⟩
  | 8, rfl => ⟨x_layW x_layCur, x_tokCur, x_nmCur, x_ownCur, xw_nCur, xw_iCur⟩
  | 9, rfl => ⟨x_layW x_layBrk, x_tokBrk, x_nmBrk, x_ownBrk, xw_nBrk, xw_iBrk⟩
  | 10, rfl => ⟨x_layW x_layNot, x_tokNot, x_nmNot, x_ownNot, xw_nNot, xw_iNot⟩
  | 11, rfl => ⟨x_layW x_layMod, x_tokMod, x_nmMod, x_ownMod, xw_nMod, xw_iMod⟩
  | ci + 12, h => by simp at h
