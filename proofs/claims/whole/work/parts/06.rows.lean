/-! a row an instruction, over EV -/
section
variable {E : x_E} {M : x_M} {a b pc : Nat} {L : List (Option Value)} {st : List Value} {h : x_H} {Q : Int32 → x_H → Prop}
theorem Ev.mono {Q' : Int32 → x_H → Prop} (k : Ev E M a b pc L st h Q) (hq : ∀ r h', Q r h' → Q' r h') : Ev E M a b pc L st h Q' := by
  intro p l e R s mid args below meth c H locs cells slots ls QQ C F ha hb hl kr
  exact k p l e R s mid args below meth c H locs cells slots ls QQ C F ha hb hl (fun r h' H' locs' cells' slots' pc' ls' st' hQ => kr r h' H' locs' cells' slots' pc' ls' st' (hq r h' hQ))
theorem Ev.less {a' b' : Nat} (h1 : a ≤ a') (h2 : b ≤ b') (k : Ev E M a b pc L st h Q) : Ev E M a' b' pc L st h Q := by
  intro p l e R s mid args below meth c H locs cells slots ls QQ C F ha hb hl kr
  exact k p l e R s mid args below meth c H locs cells slots ls QQ C F (by omega) (by omega) hl kr
theorem Ev_iconst {n : Int} {v : Int32} (hd : decode M.2.1 pc = .ok (.iconst n, 1)) (hv : Int32.ofInt n = v) (k : Ev E M a b (pc + 1) L (.int v :: st) h Q) : Ev E M a b pc L st h Q := by
  intro p l e R s mid args below meth c H locs cells slots ls QQ C F ha hb hl kr
  exact lv_iconst C.1 C.2.1 hd hv (k p l e R s mid args below meth c H locs cells slots ls QQ C F ha hb hl kr)
theorem Ev_bipush {n : Int} {v : Int32} (hd : decode M.2.1 pc = .ok (.bipush n, 2)) (hv : (Int8.ofInt n).toInt32 = v) (k : Ev E M a b (pc + 2) L (.int v :: st) h Q) : Ev E M a b pc L st h Q := by
  intro p l e R s mid args below meth c H locs cells slots ls QQ C F ha hb hl kr
  exact lv_bipush C.1 C.2.1 hd hv (k p l e R s mid args below meth c H locs cells slots ls QQ C F ha hb hl kr)
theorem Ev_sipush {n : Int} {v : Int32} (hd : decode M.2.1 pc = .ok (.sipush n, 3)) (hv : (Int16.ofInt n).toInt32 = v) (k : Ev E M a b (pc + 3) L (.int v :: st) h Q) : Ev E M a b pc L st h Q := by
  intro p l e R s mid args below meth c H locs cells slots ls QQ C F ha hb hl kr
  exact lv_sipush C.1 C.2.1 hd hv (k p l e R s mid args below meth c H locs cells slots ls QQ C F ha hb hl kr)
theorem Ev_ldc {index : Nat} {v : Int32} (hw : Cond.constant M.1.cls index v ∈ x_W) (hd : decode M.2.1 pc = .ok (.ldc index, 2)) (k : Ev E M a b (pc + 2) L (.int v :: st) h Q) : Ev E M a b pc L st h Q := by
  intro p l e R s mid args below meth c H locs cells slots ls QQ C F ha hb hl kr
  exact lv_ldc C.1 C.2.1 C.2.2.2.1 (C.2.2.2.2.1 _ hw) hd (k p l e R s mid args below meth c H locs cells slots ls QQ C F ha hb hl kr)
theorem Ev_iload_n {i : Fin 4} {x : Int32} (hd : decode M.2.1 pc = .ok (.iload_n i, 1)) (hi : L[(i : Nat)]? = some (some (.int x))) (k : Ev E M a b (pc + 1) L (.int x :: st) h Q) : Ev E M a b pc L st h Q := by
  intro p l e R s mid args below meth c H locs cells slots ls QQ C F ha hb hl kr
  exact lv_iload_n C.1 C.2.1 hd rfl (hl.at hi) (k p l e R s mid args below meth c H locs cells slots ls QQ C F ha hb hl kr)
theorem Ev_iload {i : Nat} {x : Int32} (hd : decode M.2.1 pc = .ok (.iload i, 2)) (hi : L[i]? = some (some (.int x))) (k : Ev E M a b (pc + 2) L (.int x :: st) h Q) : Ev E M a b pc L st h Q := by
  intro p l e R s mid args below meth c H locs cells slots ls QQ C F ha hb hl kr
  exact lv_iload C.1 C.2.1 hd (hl.at hi) (k p l e R s mid args below meth c H locs cells slots ls QQ C F ha hb hl kr)
theorem Ev_aload_n {i : Fin 4} {x : Nat} (hd : decode M.2.1 pc = .ok (.aload_n i, 1)) (hi : L[(i : Nat)]? = some (some (.ref x))) (k : Ev E M a b (pc + 1) L (.ref x :: st) h Q) : Ev E M a b pc L st h Q := by
  intro p l e R s mid args below meth c H locs cells slots ls QQ C F ha hb hl kr
  exact lv_aload_n C.1 C.2.1 hd rfl (hl.at hi) (k p l e R s mid args below meth c H locs cells slots ls QQ C F ha hb hl kr)
theorem Ev_istore_n {i : Fin 4} {x : Int32} {L' : List (Option Value)} (hd : decode M.2.1 pc = .ok (.istore_n i, 1)) (hn : (i : Nat) < M.2.2.1) (hL : L.set i (some (.int x)) = L') (k : Ev E M a b (pc + 1) L' st h Q) : Ev E M a b pc L (.int x :: st) h Q := by
  subst hL
  intro p l e R s mid args below meth c H locs cells slots ls QQ C F ha hb hl kr
  exact lv_istore_n C.1 C.2.1 hd rfl hl.1 hn rfl (fun ls' h' => k p l e R s mid args below meth c H locs cells slots ls' QQ C F ha hb (hl.set (v := .int x) rfl h') kr)
theorem Ev_istore {i : Nat} {x : Int32} {L' : List (Option Value)} (hd : decode M.2.1 pc = .ok (.istore i, 2)) (hn : i < M.2.2.1) (hL : L.set i (some (.int x)) = L') (k : Ev E M a b (pc + 2) L' st h Q) : Ev E M a b pc L (.int x :: st) h Q := by
  subst hL
  intro p l e R s mid args below meth c H locs cells slots ls QQ C F ha hb hl kr
  exact lv_istore C.1 C.2.1 hd hl.1 hn rfl (fun ls' h' => k p l e R s mid args below meth c H locs cells slots ls' QQ C F ha hb (hl.set (v := .int x) rfl h') kr)
theorem Ev_astore_n {i : Fin 4} {x : Nat} {L' : List (Option Value)} (hd : decode M.2.1 pc = .ok (.astore_n i, 1)) (hn : (i : Nat) < M.2.2.1) (hL : L.set i (some (.ref x)) = L') (k : Ev E M a b (pc + 1) L' st h Q) : Ev E M a b pc L (.ref x :: st) h Q := by
  subst hL
  intro p l e R s mid args below meth c H locs cells slots ls QQ C F ha hb hl kr
  exact lv_astore_n C.1 C.2.1 hd rfl hl.1 hn rfl (fun ls' h' => k p l e R s mid args below meth c H locs cells slots ls' QQ C F ha hb (hl.set (v := .ref x) rfl h') kr)
theorem Ev_iinc {i : Nat} {n : Int} {x v : Int32} {L' : List (Option Value)} (hd : decode M.2.1 pc = .ok (.iinc i n, 3)) (hi : L[i]? = some (some (.int x))) (hv : x + Int32.ofInt n = v) (hn : i < M.2.2.1) (hL : L.set i (some (.int v)) = L') (k : Ev E M a b (pc + 3) L' st h Q) : Ev E M a b pc L st h Q := by
  subst hL
  intro p l e R s mid args below meth c H locs cells slots ls QQ C F ha hb hl kr
  obtain ⟨j, hj⟩ := List.getElem?_of_mem (x_lv_mem.mpr ⟨.int x, hi, rfl⟩ : (i, Value.int x) ∈ x_lv E L)
  exact lv_iinc C.1 C.2.1 hd hl.1 hj hv hn rfl (fun ls' h' => k p l e R s mid args below meth c H locs cells slots ls' QQ C F ha hb (hl.set (v := .int v) rfl h') kr)
theorem Ev_iadd {x y : Int32} (hd : decode M.2.1 pc = .ok (.iadd, 1)) (k : Ev E M a b (pc + 1) L (.int (x + y) :: st) h Q) : Ev E M a b pc L (.int y :: .int x :: st) h Q := by
  intro p l e R s mid args below meth c H locs cells slots ls QQ C F ha hb hl kr
  exact lv_iadd C.1 C.2.1 hd (k p l e R s mid args below meth c H locs cells slots ls QQ C F ha hb hl kr)
theorem Ev_isub {x y : Int32} (hd : decode M.2.1 pc = .ok (.isub, 1)) (k : Ev E M a b (pc + 1) L (.int (x - y) :: st) h Q) : Ev E M a b pc L (.int y :: .int x :: st) h Q := by
  intro p l e R s mid args below meth c H locs cells slots ls QQ C F ha hb hl kr
  exact lv_isub C.1 C.2.1 hd (k p l e R s mid args below meth c H locs cells slots ls QQ C F ha hb hl kr)
theorem Ev_imul {x y : Int32} (hd : decode M.2.1 pc = .ok (.imul, 1)) (k : Ev E M a b (pc + 1) L (.int (x * y) :: st) h Q) : Ev E M a b pc L (.int y :: .int x :: st) h Q := by
  intro p l e R s mid args below meth c H locs cells slots ls QQ C F ha hb hl kr
  exact lv_imul C.1 C.2.1 hd (k p l e R s mid args below meth c H locs cells slots ls QQ C F ha hb hl kr)
theorem Ev_iand {x y : Int32} (hd : decode M.2.1 pc = .ok (.iand, 1)) (k : Ev E M a b (pc + 1) L (.int (x &&& y) :: st) h Q) : Ev E M a b pc L (.int y :: .int x :: st) h Q := by
  intro p l e R s mid args below meth c H locs cells slots ls QQ C F ha hb hl kr
  exact lv_iand C.1 C.2.1 hd (k p l e R s mid args below meth c H locs cells slots ls QQ C F ha hb hl kr)
theorem Ev_ishr {x y : Int32} (hd : decode M.2.1 pc = .ok (.ishr, 1)) (k : Ev E M a b (pc + 1) L (.int (x >>> (y &&& 31)) :: st) h Q) : Ev E M a b pc L (.int y :: .int x :: st) h Q := by
  intro p l e R s mid args below meth c H locs cells slots ls QQ C F ha hb hl kr
  exact lv_ishr C.1 C.2.1 hd (k p l e R s mid args below meth c H locs cells slots ls QQ C F ha hb hl kr)
theorem Ev_idiv {x y : Int32} (hd : decode M.2.1 pc = .ok (.idiv, 1)) (hne : ¬ y = 0) (k : Ev E M a b (pc + 1) L (.int (x / y) :: st) h Q) : Ev E M a b pc L (.int y :: .int x :: st) h Q := by
  intro p l e R s mid args below meth c H locs cells slots ls QQ C F ha hb hl kr
  exact lv_idiv C.1 C.2.1 hd hne (k p l e R s mid args below meth c H locs cells slots ls QQ C F ha hb hl kr)
theorem Ev_irem {x y : Int32} (hd : decode M.2.1 pc = .ok (.irem, 1)) (hne : ¬ y = 0) (k : Ev E M a b (pc + 1) L (.int (x - x / y * y) :: st) h Q) : Ev E M a b pc L (.int y :: .int x :: st) h Q := by
  intro p l e R s mid args below meth c H locs cells slots ls QQ C F ha hb hl kr
  exact lv_irem C.1 C.2.1 hd hne (k p l e R s mid args below meth c H locs cells slots ls QQ C F ha hb hl kr)
theorem Ev_i2b {x : Int32} (hd : decode M.2.1 pc = .ok (.i2b, 1)) (k : Ev E M a b (pc + 1) L (.int x.toInt8.toInt32 :: st) h Q) : Ev E M a b pc L (.int x :: st) h Q := by
  intro p l e R s mid args below meth c H locs cells slots ls QQ C F ha hb hl kr
  exact lv_i2b C.1 C.2.1 hd rfl (k p l e R s mid args below meth c H locs cells slots ls QQ C F ha hb hl kr)
theorem Ev_dup {v : Value} (hd : decode M.2.1 pc = .ok (.dup, 1)) (hc : v.category = 1) (k : Ev E M a b (pc + 1) L (v :: v :: st) h Q) : Ev E M a b pc L (v :: st) h Q := by
  intro p l e R s mid args below meth c H locs cells slots ls QQ C F ha hb hl kr
  exact lv_dup C.1 C.2.1 hd (by rw [x_cv_cat]; exact hc) (k p l e R s mid args below meth c H locs cells slots ls QQ C F ha hb hl kr)
theorem Ev_pop {v : Value} (hd : decode M.2.1 pc = .ok (.pop, 1)) (hc : v.category = 1) (k : Ev E M a b (pc + 1) L st h Q) : Ev E M a b pc L (v :: st) h Q := by
  intro p l e R s mid args below meth c H locs cells slots ls QQ C F ha hb hl kr
  exact lv_pop C.1 C.2.1 hd (by rw [x_cv_cat]; exact hc) (k p l e R s mid args below meth c H locs cells slots ls QQ C F ha hb hl kr)
theorem Ev_goto {off : Int} {tgt : Nat} (hd : decode M.2.1 pc = .ok (.goto off, 3)) (ht : (pc : Int) + off = (tgt : Int)) (k : Ev E M a b tgt L st h Q) : Ev E M a b pc L st h Q := by
  intro p l e R s mid args below meth c H locs cells slots ls QQ C F ha hb hl kr
  exact lv_goto C.1 C.2.1 hd ht (k p l e R s mid args below meth c H locs cells slots ls QQ C F ha hb hl kr)
theorem Ev_icmp_eq {x y : Int32} {off : Int} {tgt : Nat} (hd : decode M.2.1 pc = .ok (.if_icmp .eq off, 3)) (ht : (pc : Int) + off = (tgt : Int)) (kt : x = y → Ev E M a b tgt L st h Q) (kf : ¬ x = y → Ev E M a b (pc + 3) L st h Q) : Ev E M a b pc L (.int y :: .int x :: st) h Q := by
  intro p l e R s mid args below meth c H locs cells slots ls QQ C F ha hb hl kr
  exact lv_icmp_eq C.1 C.2.1 hd ht (fun z => kt z p l e R s mid args below meth c H locs cells slots ls QQ C F ha hb hl kr) (fun z => kf z p l e R s mid args below meth c H locs cells slots ls QQ C F ha hb hl kr)
theorem Ev_if_eq {x : Int32} {off : Int} {tgt : Nat} (hd : decode M.2.1 pc = .ok (.ifCond .eq off, 3)) (ht : (pc : Int) + off = (tgt : Int)) (kt : x = 0 → Ev E M a b tgt L st h Q) (kf : ¬ x = 0 → Ev E M a b (pc + 3) L st h Q) : Ev E M a b pc L (.int x :: st) h Q := by
  intro p l e R s mid args below meth c H locs cells slots ls QQ C F ha hb hl kr
  exact lv_if_eq C.1 C.2.1 hd ht (fun z => kt z p l e R s mid args below meth c H locs cells slots ls QQ C F ha hb hl kr) (fun z => kf z p l e R s mid args below meth c H locs cells slots ls QQ C F ha hb hl kr)
theorem Ev_icmp_ne {x y : Int32} {off : Int} {tgt : Nat} (hd : decode M.2.1 pc = .ok (.if_icmp .ne off, 3)) (ht : (pc : Int) + off = (tgt : Int)) (kt : ¬ x = y → Ev E M a b tgt L st h Q) (kf : x = y → Ev E M a b (pc + 3) L st h Q) : Ev E M a b pc L (.int y :: .int x :: st) h Q := by
  intro p l e R s mid args below meth c H locs cells slots ls QQ C F ha hb hl kr
  exact lv_icmp_ne C.1 C.2.1 hd ht (fun z => kt z p l e R s mid args below meth c H locs cells slots ls QQ C F ha hb hl kr) (fun z => kf z p l e R s mid args below meth c H locs cells slots ls QQ C F ha hb hl kr)
theorem Ev_if_ne {x : Int32} {off : Int} {tgt : Nat} (hd : decode M.2.1 pc = .ok (.ifCond .ne off, 3)) (ht : (pc : Int) + off = (tgt : Int)) (kt : ¬ x = 0 → Ev E M a b tgt L st h Q) (kf : x = 0 → Ev E M a b (pc + 3) L st h Q) : Ev E M a b pc L (.int x :: st) h Q := by
  intro p l e R s mid args below meth c H locs cells slots ls QQ C F ha hb hl kr
  exact lv_if_ne C.1 C.2.1 hd ht (fun z => kt z p l e R s mid args below meth c H locs cells slots ls QQ C F ha hb hl kr) (fun z => kf z p l e R s mid args below meth c H locs cells slots ls QQ C F ha hb hl kr)
theorem Ev_icmp_lt {x y : Int32} {off : Int} {tgt : Nat} (hd : decode M.2.1 pc = .ok (.if_icmp .lt off, 3)) (ht : (pc : Int) + off = (tgt : Int)) (kt : x < y → Ev E M a b tgt L st h Q) (kf : ¬ x < y → Ev E M a b (pc + 3) L st h Q) : Ev E M a b pc L (.int y :: .int x :: st) h Q := by
  intro p l e R s mid args below meth c H locs cells slots ls QQ C F ha hb hl kr
  exact lv_icmp_lt C.1 C.2.1 hd ht (fun z => kt z p l e R s mid args below meth c H locs cells slots ls QQ C F ha hb hl kr) (fun z => kf z p l e R s mid args below meth c H locs cells slots ls QQ C F ha hb hl kr)
theorem Ev_if_lt {x : Int32} {off : Int} {tgt : Nat} (hd : decode M.2.1 pc = .ok (.ifCond .lt off, 3)) (ht : (pc : Int) + off = (tgt : Int)) (kt : x < 0 → Ev E M a b tgt L st h Q) (kf : ¬ x < 0 → Ev E M a b (pc + 3) L st h Q) : Ev E M a b pc L (.int x :: st) h Q := by
  intro p l e R s mid args below meth c H locs cells slots ls QQ C F ha hb hl kr
  exact lv_if_lt C.1 C.2.1 hd ht (fun z => kt z p l e R s mid args below meth c H locs cells slots ls QQ C F ha hb hl kr) (fun z => kf z p l e R s mid args below meth c H locs cells slots ls QQ C F ha hb hl kr)
theorem Ev_icmp_ge {x y : Int32} {off : Int} {tgt : Nat} (hd : decode M.2.1 pc = .ok (.if_icmp .ge off, 3)) (ht : (pc : Int) + off = (tgt : Int)) (kt : y ≤ x → Ev E M a b tgt L st h Q) (kf : ¬ y ≤ x → Ev E M a b (pc + 3) L st h Q) : Ev E M a b pc L (.int y :: .int x :: st) h Q := by
  intro p l e R s mid args below meth c H locs cells slots ls QQ C F ha hb hl kr
  exact lv_icmp_ge C.1 C.2.1 hd ht (fun z => kt z p l e R s mid args below meth c H locs cells slots ls QQ C F ha hb hl kr) (fun z => kf z p l e R s mid args below meth c H locs cells slots ls QQ C F ha hb hl kr)
theorem Ev_if_ge {x : Int32} {off : Int} {tgt : Nat} (hd : decode M.2.1 pc = .ok (.ifCond .ge off, 3)) (ht : (pc : Int) + off = (tgt : Int)) (kt : 0 ≤ x → Ev E M a b tgt L st h Q) (kf : ¬ 0 ≤ x → Ev E M a b (pc + 3) L st h Q) : Ev E M a b pc L (.int x :: st) h Q := by
  intro p l e R s mid args below meth c H locs cells slots ls QQ C F ha hb hl kr
  exact lv_if_ge C.1 C.2.1 hd ht (fun z => kt z p l e R s mid args below meth c H locs cells slots ls QQ C F ha hb hl kr) (fun z => kf z p l e R s mid args below meth c H locs cells slots ls QQ C F ha hb hl kr)
theorem Ev_icmp_gt {x y : Int32} {off : Int} {tgt : Nat} (hd : decode M.2.1 pc = .ok (.if_icmp .gt off, 3)) (ht : (pc : Int) + off = (tgt : Int)) (kt : y < x → Ev E M a b tgt L st h Q) (kf : ¬ y < x → Ev E M a b (pc + 3) L st h Q) : Ev E M a b pc L (.int y :: .int x :: st) h Q := by
  intro p l e R s mid args below meth c H locs cells slots ls QQ C F ha hb hl kr
  exact lv_icmp_gt C.1 C.2.1 hd ht (fun z => kt z p l e R s mid args below meth c H locs cells slots ls QQ C F ha hb hl kr) (fun z => kf z p l e R s mid args below meth c H locs cells slots ls QQ C F ha hb hl kr)
theorem Ev_if_gt {x : Int32} {off : Int} {tgt : Nat} (hd : decode M.2.1 pc = .ok (.ifCond .gt off, 3)) (ht : (pc : Int) + off = (tgt : Int)) (kt : 0 < x → Ev E M a b tgt L st h Q) (kf : ¬ 0 < x → Ev E M a b (pc + 3) L st h Q) : Ev E M a b pc L (.int x :: st) h Q := by
  intro p l e R s mid args below meth c H locs cells slots ls QQ C F ha hb hl kr
  exact lv_if_gt C.1 C.2.1 hd ht (fun z => kt z p l e R s mid args below meth c H locs cells slots ls QQ C F ha hb hl kr) (fun z => kf z p l e R s mid args below meth c H locs cells slots ls QQ C F ha hb hl kr)
theorem Ev_icmp_le {x y : Int32} {off : Int} {tgt : Nat} (hd : decode M.2.1 pc = .ok (.if_icmp .le off, 3)) (ht : (pc : Int) + off = (tgt : Int)) (kt : x ≤ y → Ev E M a b tgt L st h Q) (kf : ¬ x ≤ y → Ev E M a b (pc + 3) L st h Q) : Ev E M a b pc L (.int y :: .int x :: st) h Q := by
  intro p l e R s mid args below meth c H locs cells slots ls QQ C F ha hb hl kr
  exact lv_icmp_le C.1 C.2.1 hd ht (fun z => kt z p l e R s mid args below meth c H locs cells slots ls QQ C F ha hb hl kr) (fun z => kf z p l e R s mid args below meth c H locs cells slots ls QQ C F ha hb hl kr)
theorem Ev_if_le {x : Int32} {off : Int} {tgt : Nat} (hd : decode M.2.1 pc = .ok (.ifCond .le off, 3)) (ht : (pc : Int) + off = (tgt : Int)) (kt : x ≤ 0 → Ev E M a b tgt L st h Q) (kf : ¬ x ≤ 0 → Ev E M a b (pc + 3) L st h Q) : Ev E M a b pc L (.int x :: st) h Q := by
  intro p l e R s mid args below meth c H locs cells slots ls QQ C F ha hb hl kr
  exact lv_if_le C.1 C.2.1 hd ht (fun z => kt z p l e R s mid args below meth c H locs cells slots ls QQ C F ha hb hl kr) (fun z => kf z p l e R s mid args below meth c H locs cells slots ls QQ C F ha hb hl kr)
theorem Ev_tableOut {dflt lo hi : Int} {offs : Array Int} {len : Nat} {x : Int32} {tgt : Nat} (hd : decode M.2.1 pc = .ok (.tableswitch dflt lo hi offs, len)) (hx : x.toInt < lo ∨ hi < x.toInt) (ht : (pc : Int) + dflt = (tgt : Int)) (k : Ev E M a b tgt L st h Q) : Ev E M a b pc L (.int x :: st) h Q := by
  intro p l e R s mid args below meth c H locs cells slots ls QQ C F ha hb hl kr
  exact lv_tableOut C.1 C.2.1 hd hx ht (k p l e R s mid args below meth c H locs cells slots ls QQ C F ha hb hl kr)
theorem Ev_tableIn {dflt lo hi : Int} {offs : Array Int} {len : Nat} {x : Int32} {off : Int} {tgt : Nat} (hd : decode M.2.1 pc = .ok (.tableswitch dflt lo hi offs, len)) (h1 : ¬ x.toInt < lo) (h2 : ¬ hi < x.toInt) (ho : offs[(x.toInt - lo).toNat]? = some off) (ht : (pc : Int) + off = (tgt : Int)) (k : Ev E M a b tgt L st h Q) : Ev E M a b pc L (.int x :: st) h Q := by
  intro p l e R s mid args below meth c H locs cells slots ls QQ C F ha hb hl kr
  exact lv_tableIn C.1 C.2.1 hd h1 h2 ho ht (k p l e R s mid args below meth c H locs cells slots ls QQ C F ha hb hl kr)
theorem Ev_ireturn {x : Int32} (hd : decode M.2.1 pc = .ok (.ireturn, 1)) (hr : M.2.2.2.1 = some .int) (hq : Q x h) : Ev E M a b pc L [.int x] h Q := by
  intro p l e R s mid args below meth c H locs cells slots ls QQ C F ha hb hl kr
  exact kr x h H locs cells slots pc ls [.int x] hq F (by omega) (by omega) (Or.inr ⟨rfl, hd, Or.inl hr⟩)
theorem Ev_zreturn {x : Int32} (hd : decode M.2.1 pc = .ok (.ireturn, 1)) (hr : M.2.2.2.1 = some .boolean) (hx : x = 0 ∨ x = 1) (hq : Q x h) : Ev E M a b pc L [.int x] h Q := by
  intro p l e R s mid args below meth c H locs cells slots ls QQ C F ha hb hl kr
  exact kr x h H locs cells slots pc ls [.int x] hq F (by omega) (by omega) (Or.inr ⟨rfl, hd, Or.inr ⟨hr, hx⟩⟩)
theorem Ev_return (hd : decode M.2.1 pc = .ok (.return_, 1)) (hr : M.2.2.2.1 = none) (hq : Q 0 h) : Ev E M a b pc L [] h Q := by
  intro p l e R s mid args below meth c H locs cells slots ls QQ C F ha hb hl kr
  exact kr 0 h H locs cells slots pc ls [] hq F (by omega) (by omega) (Or.inl ⟨hr, rfl, rfl, hd⟩)
end
