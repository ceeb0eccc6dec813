section
-- ===== PART A: goes FIRST, ahead of the names: the tables' words, and 'selects' of the private methods out of them =====
/-- a private method of a class that the tables say can be made, by its rows of tables_1 -/
def lw_okq (q : MethodName × Nat) : Prop := (q.1.cls ≠ "java/lang/invoke/MethodHandle" ∧ q.1.cls ≠ "java/lang/invoke/VarHandle") ∧ Cond.instantiable q.1.cls q.2 ∈ tables_1 ∧ Cond.privateMethod q.1 ∈ tables_1 ∧ Cond.instanceMethod q.1 ∈ tables_1
theorem lw_p0 : lw_okq (⟨"TrainGuard$Message", "readPacket", "(LTrainGuard$BitRow;)V"⟩, 14) := ⟨⟨by decide +kernel, by decide +kernel⟩, List.mem_of_getElem? (i := 168) (by decide +kernel), List.mem_of_getElem? (i := 395) (by decide +kernel), List.mem_of_getElem? (i := 396) (by decide +kernel)⟩
theorem lw_p1 : lw_okq (⟨"TrainGuard$Message", "readNumbers", "(LTrainGuard$BitRow;I)V"⟩, 14) := ⟨⟨by decide +kernel, by decide +kernel⟩, List.mem_of_getElem? (i := 168) (by decide +kernel), List.mem_of_getElem? (i := 402) (by decide +kernel), List.mem_of_getElem? (i := 403) (by decide +kernel)⟩
theorem lw_p2 : lw_okq (⟨"TrainGuard$Message", "readMarks", "(LTrainGuard$BitRow;)V"⟩, 14) := ⟨⟨by decide +kernel, by decide +kernel⟩, List.mem_of_getElem? (i := 168) (by decide +kernel), List.mem_of_getElem? (i := 406) (by decide +kernel), List.mem_of_getElem? (i := 407) (by decide +kernel)⟩
theorem lw_p3 : lw_okq (⟨"TrainGuard$Message", "readAuthority", "(LTrainGuard$BitRow;)V"⟩, 14) := ⟨⟨by decide +kernel, by decide +kernel⟩, List.mem_of_getElem? (i := 168) (by decide +kernel), List.mem_of_getElem? (i := 421) (by decide +kernel), List.mem_of_getElem? (i := 422) (by decide +kernel)⟩
theorem lw_p4 : lw_okq (⟨"TrainGuard$Message", "readSteps", "(LTrainGuard$BitRow;LTrainGuard$SpanRow;Z)V"⟩, 14) := ⟨⟨by decide +kernel, by decide +kernel⟩, List.mem_of_getElem? (i := 168) (by decide +kernel), List.mem_of_getElem? (i := 425) (by decide +kernel), List.mem_of_getElem? (i := 426) (by decide +kernel)⟩
theorem lw_p5 : lw_okq (⟨"TrainGuard$Message", "readRestriction", "(LTrainGuard$BitRow;)V"⟩, 14) := ⟨⟨by decide +kernel, by decide +kernel⟩, List.mem_of_getElem? (i := 168) (by decide +kernel), List.mem_of_getElem? (i := 446) (by decide +kernel), List.mem_of_getElem? (i := 447) (by decide +kernel)⟩
theorem lw_p6 : lw_okq (⟨"TrainGuard", "faultOfReceived", "()I"⟩, 14) := ⟨⟨by decide +kernel, by decide +kernel⟩, List.mem_of_getElem? (i := 15) (by decide +kernel), List.mem_of_getElem? (i := 454) (by decide +kernel), List.mem_of_getElem? (i := 455) (by decide +kernel)⟩
theorem lw_p7 : lw_okq (⟨"TrainGuard", "isGuided", "()Z"⟩, 14) := ⟨⟨by decide +kernel, by decide +kernel⟩, List.mem_of_getElem? (i := 15) (by decide +kernel), List.mem_of_getElem? (i := 458) (by decide +kernel), List.mem_of_getElem? (i := 459) (by decide +kernel)⟩
theorem lw_p8 : lw_okq (⟨"TrainGuard", "gradeWithEnd", "(I)I"⟩, 14) := ⟨⟨by decide +kernel, by decide +kernel⟩, List.mem_of_getElem? (i := 15) (by decide +kernel), List.mem_of_getElem? (i := 462) (by decide +kernel), List.mem_of_getElem? (i := 463) (by decide +kernel)⟩
theorem lw_p9 : lw_okq (⟨"TrainGuard", "isStopped", "()Z"⟩, 14) := ⟨⟨by decide +kernel, by decide +kernel⟩, List.mem_of_getElem? (i := 15) (by decide +kernel), List.mem_of_getElem? (i := 466) (by decide +kernel), List.mem_of_getElem? (i := 467) (by decide +kernel)⟩
theorem lw_p10 : lw_okq (⟨"TrainGuard", "lookAhead", "(I)V"⟩, 14) := ⟨⟨by decide +kernel, by decide +kernel⟩, List.mem_of_getElem? (i := 15) (by decide +kernel), List.mem_of_getElem? (i := 470) (by decide +kernel), List.mem_of_getElem? (i := 471) (by decide +kernel)⟩
theorem lw_p11 : lw_okq (⟨"TrainGuard", "ceilingNow", "()I"⟩, 14) := ⟨⟨by decide +kernel, by decide +kernel⟩, List.mem_of_getElem? (i := 15) (by decide +kernel), List.mem_of_getElem? (i := 474) (by decide +kernel), List.mem_of_getElem? (i := 475) (by decide +kernel)⟩
theorem lw_p12 : lw_okq (⟨"TrainGuard", "addTarget", "(II)V"⟩, 14) := ⟨⟨by decide +kernel, by decide +kernel⟩, List.mem_of_getElem? (i := 15) (by decide +kernel), List.mem_of_getElem? (i := 491) (by decide +kernel), List.mem_of_getElem? (i := 492) (by decide +kernel)⟩
theorem lw_p13 : lw_okq (⟨"TrainGuard", "addTargetsOf", "(LTrainGuard$SpanRow;)V"⟩, 14) := ⟨⟨by decide +kernel, by decide +kernel⟩, List.mem_of_getElem? (i := 15) (by decide +kernel), List.mem_of_getElem? (i := 503) (by decide +kernel), List.mem_of_getElem? (i := 504) (by decide +kernel)⟩
theorem lw_p14 : lw_okq (⟨"TrainGuard$Curves", "isOverEmergency", "(I)Z"⟩, 8) := ⟨⟨by decide +kernel, by decide +kernel⟩, List.mem_of_getElem? (i := 282) (by decide +kernel), List.mem_of_getElem? (i := 511) (by decide +kernel), List.mem_of_getElem? (i := 512) (by decide +kernel)⟩
theorem lw_p15 : lw_okq (⟨"TrainGuard$Curves", "isOver", "(IIIII)Z"⟩, 8) := ⟨⟨by decide +kernel, by decide +kernel⟩, List.mem_of_getElem? (i := 282) (by decide +kernel), List.mem_of_getElem? (i := 515) (by decide +kernel), List.mem_of_getElem? (i := 516) (by decide +kernel)⟩
def lw_privs_1 : List (MethodName × Nat) := [(⟨"TrainGuard$Message", "readPacket", "(LTrainGuard$BitRow;)V"⟩, 14), (⟨"TrainGuard$Message", "readNumbers", "(LTrainGuard$BitRow;I)V"⟩, 14), (⟨"TrainGuard$Message", "readMarks", "(LTrainGuard$BitRow;)V"⟩, 14), (⟨"TrainGuard$Message", "readAuthority", "(LTrainGuard$BitRow;)V"⟩, 14), (⟨"TrainGuard$Message", "readSteps", "(LTrainGuard$BitRow;LTrainGuard$SpanRow;Z)V"⟩, 14), (⟨"TrainGuard$Message", "readRestriction", "(LTrainGuard$BitRow;)V"⟩, 14), (⟨"TrainGuard", "faultOfReceived", "()I"⟩, 14), (⟨"TrainGuard", "isGuided", "()Z"⟩, 14), (⟨"TrainGuard", "gradeWithEnd", "(I)I"⟩, 14), (⟨"TrainGuard", "isStopped", "()Z"⟩, 14), (⟨"TrainGuard", "lookAhead", "(I)V"⟩, 14), (⟨"TrainGuard", "ceilingNow", "()I"⟩, 14), (⟨"TrainGuard", "addTarget", "(II)V"⟩, 14), (⟨"TrainGuard", "addTargetsOf", "(LTrainGuard$SpanRow;)V"⟩, 14), (⟨"TrainGuard$Curves", "isOverEmergency", "(I)Z"⟩, 8), (⟨"TrainGuard$Curves", "isOver", "(IIIII)Z"⟩, 8)]
theorem lw_r1 : ∀ q ∈ lw_privs_1, lw_okq q := List.forall_mem_cons.mpr ⟨lw_p0, List.forall_mem_cons.mpr ⟨lw_p1, List.forall_mem_cons.mpr ⟨lw_p2, List.forall_mem_cons.mpr ⟨lw_p3, List.forall_mem_cons.mpr ⟨lw_p4, List.forall_mem_cons.mpr ⟨lw_p5, List.forall_mem_cons.mpr ⟨lw_p6, List.forall_mem_cons.mpr ⟨lw_p7, List.forall_mem_cons.mpr ⟨lw_p8, List.forall_mem_cons.mpr ⟨lw_p9, List.forall_mem_cons.mpr ⟨lw_p10, List.forall_mem_cons.mpr ⟨lw_p11, List.forall_mem_cons.mpr ⟨lw_p12, List.forall_mem_cons.mpr ⟨lw_p13, List.forall_mem_cons.mpr ⟨lw_p14, List.forall_mem_cons.mpr ⟨lw_p15, fun _ h => absurd h List.not_mem_nil⟩⟩⟩⟩⟩⟩⟩⟩⟩⟩⟩⟩⟩⟩⟩⟩
theorem lw_p16 : lw_okq (⟨"TrainGuard$Curves", "isOverService", "(II)Z"⟩, 8) := ⟨⟨by decide +kernel, by decide +kernel⟩, List.mem_of_getElem? (i := 282) (by decide +kernel), List.mem_of_getElem? (i := 522) (by decide +kernel), List.mem_of_getElem? (i := 523) (by decide +kernel)⟩
theorem lw_p17 : lw_okq (⟨"TrainGuard$Restrictions", "indexOf", "(I)I"⟩, 2) := ⟨⟨by decide +kernel, by decide +kernel⟩, List.mem_of_getElem? (i := 72) (by decide +kernel), List.mem_of_getElem? (i := 534) (by decide +kernel), List.mem_of_getElem? (i := 535) (by decide +kernel)⟩
theorem lw_p18 : lw_okq (⟨"TrainGuard", "write", "(II)V"⟩, 14) := ⟨⟨by decide +kernel, by decide +kernel⟩, List.mem_of_getElem? (i := 15) (by decide +kernel), List.mem_of_getElem? (i := 538) (by decide +kernel), List.mem_of_getElem? (i := 539) (by decide +kernel)⟩
theorem lw_p19 : lw_okq (⟨"TrainGuard", "obeyReceived", "()V"⟩, 14) := ⟨⟨by decide +kernel, by decide +kernel⟩, List.mem_of_getElem? (i := 15) (by decide +kernel), List.mem_of_getElem? (i := 546) (by decide +kernel), List.mem_of_getElem? (i := 547) (by decide +kernel)⟩
theorem lw_p20 : lw_okq (⟨"TrainGuard", "trip", "()V"⟩, 14) := ⟨⟨by decide +kernel, by decide +kernel⟩, List.mem_of_getElem? (i := 15) (by decide +kernel), List.mem_of_getElem? (i := 550) (by decide +kernel), List.mem_of_getElem? (i := 551) (by decide +kernel)⟩
theorem lw_p21 : lw_okq (⟨"TrainGuard", "become", "(I)V"⟩, 14) := ⟨⟨by decide +kernel, by decide +kernel⟩, List.mem_of_getElem? (i := 15) (by decide +kernel), List.mem_of_getElem? (i := 554) (by decide +kernel), List.mem_of_getElem? (i := 555) (by decide +kernel)⟩
theorem lw_p22 : lw_okq (⟨"TrainGuard", "enterModeOfAuthority", "()V"⟩, 14) := ⟨⟨by decide +kernel, by decide +kernel⟩, List.mem_of_getElem? (i := 15) (by decide +kernel), List.mem_of_getElem? (i := 605) (by decide +kernel), List.mem_of_getElem? (i := 606) (by decide +kernel)⟩
theorem lw_p23 : lw_okq (⟨"TrainGuard", "faultOfMarks", "()V"⟩, 14) := ⟨⟨by decide +kernel, by decide +kernel⟩, List.mem_of_getElem? (i := 15) (by decide +kernel), List.mem_of_getElem? (i := 630) (by decide +kernel), List.mem_of_getElem? (i := 631) (by decide +kernel)⟩
theorem lw_p24 : lw_okq (⟨"TrainGuard", "lookForTrip", "()V"⟩, 14) := ⟨⟨by decide +kernel, by decide +kernel⟩, List.mem_of_getElem? (i := 15) (by decide +kernel), List.mem_of_getElem? (i := 648) (by decide +kernel), List.mem_of_getElem? (i := 649) (by decide +kernel)⟩
theorem lw_p25 : lw_okq (⟨"TrainGuard", "gradeNow", "()I"⟩, 14) := ⟨⟨by decide +kernel, by decide +kernel⟩, List.mem_of_getElem? (i := 15) (by decide +kernel), List.mem_of_getElem? (i := 653) (by decide +kernel), List.mem_of_getElem? (i := 654) (by decide +kernel)⟩
theorem lw_p26 : lw_okq (⟨"TrainGuard", "driverMay", "(I)Z"⟩, 14) := ⟨⟨by decide +kernel, by decide +kernel⟩, List.mem_of_getElem? (i := 15) (by decide +kernel), List.mem_of_getElem? (i := 665) (by decide +kernel), List.mem_of_getElem? (i := 666) (by decide +kernel)⟩
theorem lw_p27 : lw_okq (⟨"TrainGuard", "start", "()V"⟩, 14) := ⟨⟨by decide +kernel, by decide +kernel⟩, List.mem_of_getElem? (i := 15) (by decide +kernel), List.mem_of_getElem? (i := 669) (by decide +kernel), List.mem_of_getElem? (i := 670) (by decide +kernel)⟩
theorem lw_p28 : lw_okq (⟨"TrainGuard", "allowedNow", "()I"⟩, 14) := ⟨⟨by decide +kernel, by decide +kernel⟩, List.mem_of_getElem? (i := 15) (by decide +kernel), List.mem_of_getElem? (i := 685) (by decide +kernel), List.mem_of_getElem? (i := 686) (by decide +kernel)⟩
theorem lw_p29 : lw_okq (⟨"TrainGuardModel", "read", "(I)I"⟩, 44) := ⟨⟨by decide +kernel, by decide +kernel⟩, List.mem_of_getElem? (i := 722) (by decide +kernel), List.mem_of_getElem? (i := 869) (by decide +kernel), List.mem_of_getElem? (i := 870) (by decide +kernel)⟩
theorem lw_p30 : lw_okq (⟨"TrainGuardModel", "check", "(ZI)V"⟩, 44) := ⟨⟨by decide +kernel, by decide +kernel⟩, List.mem_of_getElem? (i := 722) (by decide +kernel), List.mem_of_getElem? (i := 873) (by decide +kernel), List.mem_of_getElem? (i := 874) (by decide +kernel)⟩
theorem lw_p31 : lw_okq (⟨"TrainGuardModel", "packets", "()V"⟩, 44) := ⟨⟨by decide +kernel, by decide +kernel⟩, List.mem_of_getElem? (i := 722) (by decide +kernel), List.mem_of_getElem? (i := 877) (by decide +kernel), List.mem_of_getElem? (i := 878) (by decide +kernel)⟩
def lw_privs_2 : List (MethodName × Nat) := [(⟨"TrainGuard$Curves", "isOverService", "(II)Z"⟩, 8), (⟨"TrainGuard$Restrictions", "indexOf", "(I)I"⟩, 2), (⟨"TrainGuard", "write", "(II)V"⟩, 14), (⟨"TrainGuard", "obeyReceived", "()V"⟩, 14), (⟨"TrainGuard", "trip", "()V"⟩, 14), (⟨"TrainGuard", "become", "(I)V"⟩, 14), (⟨"TrainGuard", "enterModeOfAuthority", "()V"⟩, 14), (⟨"TrainGuard", "faultOfMarks", "()V"⟩, 14), (⟨"TrainGuard", "lookForTrip", "()V"⟩, 14), (⟨"TrainGuard", "gradeNow", "()I"⟩, 14), (⟨"TrainGuard", "driverMay", "(I)Z"⟩, 14), (⟨"TrainGuard", "start", "()V"⟩, 14), (⟨"TrainGuard", "allowedNow", "()I"⟩, 14), (⟨"TrainGuardModel", "read", "(I)I"⟩, 44), (⟨"TrainGuardModel", "check", "(ZI)V"⟩, 44), (⟨"TrainGuardModel", "packets", "()V"⟩, 44)]
theorem lw_r2 : ∀ q ∈ lw_privs_2, lw_okq q := List.forall_mem_cons.mpr ⟨lw_p16, List.forall_mem_cons.mpr ⟨lw_p17, List.forall_mem_cons.mpr ⟨lw_p18, List.forall_mem_cons.mpr ⟨lw_p19, List.forall_mem_cons.mpr ⟨lw_p20, List.forall_mem_cons.mpr ⟨lw_p21, List.forall_mem_cons.mpr ⟨lw_p22, List.forall_mem_cons.mpr ⟨lw_p23, List.forall_mem_cons.mpr ⟨lw_p24, List.forall_mem_cons.mpr ⟨lw_p25, List.forall_mem_cons.mpr ⟨lw_p26, List.forall_mem_cons.mpr ⟨lw_p27, List.forall_mem_cons.mpr ⟨lw_p28, List.forall_mem_cons.mpr ⟨lw_p29, List.forall_mem_cons.mpr ⟨lw_p30, List.forall_mem_cons.mpr ⟨lw_p31, fun _ h => absurd h List.not_mem_nil⟩⟩⟩⟩⟩⟩⟩⟩⟩⟩⟩⟩⟩⟩⟩⟩
theorem lw_p32 : lw_okq (⟨"TrainGuardModel", "numbers", "(I)V"⟩, 44) := ⟨⟨by decide +kernel, by decide +kernel⟩, List.mem_of_getElem? (i := 722) (by decide +kernel), List.mem_of_getElem? (i := 884) (by decide +kernel), List.mem_of_getElem? (i := 885) (by decide +kernel)⟩
theorem lw_p33 : lw_okq (⟨"TrainGuardModel", "tell", "(IIII)V"⟩, 44) := ⟨⟨by decide +kernel, by decide +kernel⟩, List.mem_of_getElem? (i := 722) (by decide +kernel), List.mem_of_getElem? (i := 888) (by decide +kernel), List.mem_of_getElem? (i := 889) (by decide +kernel)⟩
theorem lw_p34 : lw_okq (⟨"TrainGuardModel", "told", "(III)I"⟩, 44) := ⟨⟨by decide +kernel, by decide +kernel⟩, List.mem_of_getElem? (i := 722) (by decide +kernel), List.mem_of_getElem? (i := 892) (by decide +kernel), List.mem_of_getElem? (i := 893) (by decide +kernel)⟩
theorem lw_p35 : lw_okq (⟨"TrainGuardModel", "watched", "()Z"⟩, 44) := ⟨⟨by decide +kernel, by decide +kernel⟩, List.mem_of_getElem? (i := 722) (by decide +kernel), List.mem_of_getElem? (i := 899) (by decide +kernel), List.mem_of_getElem? (i := 900) (by decide +kernel)⟩
theorem lw_p36 : lw_okq (⟨"TrainGuardModel", "grade", "(II)I"⟩, 44) := ⟨⟨by decide +kernel, by decide +kernel⟩, List.mem_of_getElem? (i := 722) (by decide +kernel), List.mem_of_getElem? (i := 903) (by decide +kernel), List.mem_of_getElem? (i := 904) (by decide +kernel)⟩
theorem lw_p37 : lw_okq (⟨"TrainGuardModel", "ceiling", "()I"⟩, 44) := ⟨⟨by decide +kernel, by decide +kernel⟩, List.mem_of_getElem? (i := 722) (by decide +kernel), List.mem_of_getElem? (i := 907) (by decide +kernel), List.mem_of_getElem? (i := 908) (by decide +kernel)⟩
theorem lw_p38 : lw_okq (⟨"TrainGuardModel", "least", "(II)I"⟩, 44) := ⟨⟨by decide +kernel, by decide +kernel⟩, List.mem_of_getElem? (i := 722) (by decide +kernel), List.mem_of_getElem? (i := 911) (by decide +kernel), List.mem_of_getElem? (i := 912) (by decide +kernel)⟩
theorem lw_p39 : lw_okq (⟨"TrainGuardModel", "over", "(IIIII)Z"⟩, 44) := ⟨⟨by decide +kernel, by decide +kernel⟩, List.mem_of_getElem? (i := 722) (by decide +kernel), List.mem_of_getElem? (i := 915) (by decide +kernel), List.mem_of_getElem? (i := 916) (by decide +kernel)⟩
theorem lw_p40 : lw_okq (⟨"TrainGuardModel", "past", "(IIIIII)Z"⟩, 44) := ⟨⟨by decide +kernel, by decide +kernel⟩, List.mem_of_getElem? (i := 722) (by decide +kernel), List.mem_of_getElem? (i := 919) (by decide +kernel), List.mem_of_getElem? (i := 920) (by decide +kernel)⟩
theorem lw_p41 : lw_okq (⟨"TrainGuardModel", "fall", "(I)I"⟩, 44) := ⟨⟨by decide +kernel, by decide +kernel⟩, List.mem_of_getElem? (i := 722) (by decide +kernel), List.mem_of_getElem? (i := 923) (by decide +kernel), List.mem_of_getElem? (i := 924) (by decide +kernel)⟩
theorem lw_p42 : lw_okq (⟨"TrainGuardModel", "fits", "()Z"⟩, 44) := ⟨⟨by decide +kernel, by decide +kernel⟩, List.mem_of_getElem? (i := 722) (by decide +kernel), List.mem_of_getElem? (i := 930) (by decide +kernel), List.mem_of_getElem? (i := 931) (by decide +kernel)⟩
theorem lw_p43 : lw_okq (⟨"TrainGuardModel", "write", "(II)V"⟩, 44) := ⟨⟨by decide +kernel, by decide +kernel⟩, List.mem_of_getElem? (i := 722) (by decide +kernel), List.mem_of_getElem? (i := 934) (by decide +kernel), List.mem_of_getElem? (i := 935) (by decide +kernel)⟩
theorem lw_p44 : lw_okq (⟨"TrainGuardModel", "take", "(II)V"⟩, 44) := ⟨⟨by decide +kernel, by decide +kernel⟩, List.mem_of_getElem? (i := 722) (by decide +kernel), List.mem_of_getElem? (i := 938) (by decide +kernel), List.mem_of_getElem? (i := 939) (by decide +kernel)⟩
theorem lw_p45 : lw_okq (⟨"TrainGuardModel", "trips", "()V"⟩, 44) := ⟨⟨by decide +kernel, by decide +kernel⟩, List.mem_of_getElem? (i := 722) (by decide +kernel), List.mem_of_getElem? (i := 942) (by decide +kernel), List.mem_of_getElem? (i := 943) (by decide +kernel)⟩
theorem lw_p46 : lw_okq (⟨"TrainGuardModel", "become", "(I)V"⟩, 44) := ⟨⟨by decide +kernel, by decide +kernel⟩, List.mem_of_getElem? (i := 722) (by decide +kernel), List.mem_of_getElem? (i := 946) (by decide +kernel), List.mem_of_getElem? (i := 947) (by decide +kernel)⟩
theorem lw_p47 : lw_okq (⟨"TrainGuardModel", "drop", "(I)V"⟩, 44) := ⟨⟨by decide +kernel, by decide +kernel⟩, List.mem_of_getElem? (i := 722) (by decide +kernel), List.mem_of_getElem? (i := 950) (by decide +kernel), List.mem_of_getElem? (i := 951) (by decide +kernel)⟩
def lw_privs_3 : List (MethodName × Nat) := [(⟨"TrainGuardModel", "numbers", "(I)V"⟩, 44), (⟨"TrainGuardModel", "tell", "(IIII)V"⟩, 44), (⟨"TrainGuardModel", "told", "(III)I"⟩, 44), (⟨"TrainGuardModel", "watched", "()Z"⟩, 44), (⟨"TrainGuardModel", "grade", "(II)I"⟩, 44), (⟨"TrainGuardModel", "ceiling", "()I"⟩, 44), (⟨"TrainGuardModel", "least", "(II)I"⟩, 44), (⟨"TrainGuardModel", "over", "(IIIII)Z"⟩, 44), (⟨"TrainGuardModel", "past", "(IIIIII)Z"⟩, 44), (⟨"TrainGuardModel", "fall", "(I)I"⟩, 44), (⟨"TrainGuardModel", "fits", "()Z"⟩, 44), (⟨"TrainGuardModel", "write", "(II)V"⟩, 44), (⟨"TrainGuardModel", "take", "(II)V"⟩, 44), (⟨"TrainGuardModel", "trips", "()V"⟩, 44), (⟨"TrainGuardModel", "become", "(I)V"⟩, 44), (⟨"TrainGuardModel", "drop", "(I)V"⟩, 44)]
theorem lw_r3 : ∀ q ∈ lw_privs_3, lw_okq q := List.forall_mem_cons.mpr ⟨lw_p32, List.forall_mem_cons.mpr ⟨lw_p33, List.forall_mem_cons.mpr ⟨lw_p34, List.forall_mem_cons.mpr ⟨lw_p35, List.forall_mem_cons.mpr ⟨lw_p36, List.forall_mem_cons.mpr ⟨lw_p37, List.forall_mem_cons.mpr ⟨lw_p38, List.forall_mem_cons.mpr ⟨lw_p39, List.forall_mem_cons.mpr ⟨lw_p40, List.forall_mem_cons.mpr ⟨lw_p41, List.forall_mem_cons.mpr ⟨lw_p42, List.forall_mem_cons.mpr ⟨lw_p43, List.forall_mem_cons.mpr ⟨lw_p44, List.forall_mem_cons.mpr ⟨lw_p45, List.forall_mem_cons.mpr ⟨lw_p46, List.forall_mem_cons.mpr ⟨lw_p47, fun _ h => absurd h List.not_mem_nil⟩⟩⟩⟩⟩⟩⟩⟩⟩⟩⟩⟩⟩⟩⟩⟩
theorem lw_p48 : lw_okq (⟨"TrainGuardModel", "lists", "()V"⟩, 44) := ⟨⟨by decide +kernel, by decide +kernel⟩, List.mem_of_getElem? (i := 722) (by decide +kernel), List.mem_of_getElem? (i := 954) (by decide +kernel), List.mem_of_getElem? (i := 955) (by decide +kernel)⟩
theorem lw_p49 : lw_okq (⟨"TrainGuardModel", "enters", "()V"⟩, 44) := ⟨⟨by decide +kernel, by decide +kernel⟩, List.mem_of_getElem? (i := 722) (by decide +kernel), List.mem_of_getElem? (i := 958) (by decide +kernel), List.mem_of_getElem? (i := 959) (by decide +kernel)⟩
theorem lw_p50 : lw_okq (⟨"TrainGuardModel", "moves", "(I)V"⟩, 44) := ⟨⟨by decide +kernel, by decide +kernel⟩, List.mem_of_getElem? (i := 722) (by decide +kernel), List.mem_of_getElem? (i := 978) (by decide +kernel), List.mem_of_getElem? (i := 979) (by decide +kernel)⟩
theorem lw_p51 : lw_okq (⟨"TrainGuardModel", "allowed", "()I"⟩, 44) := ⟨⟨by decide +kernel, by decide +kernel⟩, List.mem_of_getElem? (i := 722) (by decide +kernel), List.mem_of_getElem? (i := 998) (by decide +kernel), List.mem_of_getElem? (i := 999) (by decide +kernel)⟩
def lw_privs_4 : List (MethodName × Nat) := [(⟨"TrainGuardModel", "lists", "()V"⟩, 44), (⟨"TrainGuardModel", "enters", "()V"⟩, 44), (⟨"TrainGuardModel", "moves", "(I)V"⟩, 44), (⟨"TrainGuardModel", "allowed", "()I"⟩, 44)]
theorem lw_r4 : ∀ q ∈ lw_privs_4, lw_okq q := List.forall_mem_cons.mpr ⟨lw_p48, List.forall_mem_cons.mpr ⟨lw_p49, List.forall_mem_cons.mpr ⟨lw_p50, List.forall_mem_cons.mpr ⟨lw_p51, fun _ h => absurd h List.not_mem_nil⟩⟩⟩⟩
def lw_privs : List (MethodName × Nat) := lw_privs_1 ++ (lw_privs_2 ++ (lw_privs_3 ++ (lw_privs_4)))
def lw_tbl : List Cond := k2_sels lw_privs ++ tables_1
theorem lw_privs_ok : ∀ q ∈ lw_privs, lw_okq q := by
  show ∀ q ∈ lw_privs_1 ++ (lw_privs_2 ++ (lw_privs_3 ++ (lw_privs_4))), lw_okq q
  exact List.forall_mem_append.mpr ⟨lw_r1, List.forall_mem_append.mpr ⟨lw_r2, List.forall_mem_append.mpr ⟨lw_r3, lw_r4⟩⟩⟩
end
section
/-! names: the classes whose objects the world holds, their fields, the words, the methods (printed by wip/gen/gen1.py) -/
def x_TG : u_T := fun k => match k with
  | 0 => ("TrainGuard", "length", "I", true)
  | 1 => ("TrainGuard", "front", "LTrainGuard$Front;", true)
  | 2 => ("TrainGuard", "track", "LTrainGuard$Track;", true)
  | 3 => ("TrainGuard", "bitRow", "LTrainGuard$BitRow;", true)
  | 4 => ("TrainGuard", "received", "LTrainGuard$Message;", true)
  | 5 => ("TrainGuard", "curves", "LTrainGuard$Curves;", true)
  | 6 => ("TrainGuard", "brakes", "LTrainGuard$Brakes;", true)
  | 7 => ("TrainGuard", "notes", "LTrainGuard$Notes;", true)
  | 8 => ("TrainGuard", "modeNow", "I", false)
  | 9 => ("TrainGuard", "staffEnd", "I", false)
  | 10 => ("TrainGuard", "cycles", "I", false)
  | 11 => ("TrainGuard", "latestTime", "I", false)
  | 12 => ("TrainGuard", "asked", "Z", false)
  | _ => ("TrainGuard", "askedCycles", "I", false)
def x_tyG : Nat → FieldType := fun k => match k with
  | 0 => .int
  | 1 => .object "TrainGuard$Front"
  | 2 => .object "TrainGuard$Track"
  | 3 => .object "TrainGuard$BitRow"
  | 4 => .object "TrainGuard$Message"
  | 5 => .object "TrainGuard$Curves"
  | 6 => .object "TrainGuard$Brakes"
  | 7 => .object "TrainGuard$Notes"
  | 8 => .int
  | 9 => .int
  | 10 => .int
  | 11 => .int
  | 12 => .boolean
  | _ => .int
def x_TFrt : u_T := fun k => match k with
  | 0 => ("TrainGuard$Front", "low", "I", false)
  | 1 => ("TrainGuard$Front", "high", "I", false)
  | _ => ("TrainGuard$Front", "top", "I", false)
def x_tyFrt : Nat → FieldType := fun k => match k with
  | 0 => .int
  | 1 => .int
  | _ => .int
def x_TTrk : u_T := fun k => match k with
  | 0 => ("TrainGuard$Track", "profile", "LTrainGuard$SpanRow;", true)
  | 1 => ("TrainGuard$Track", "grades", "LTrainGuard$SpanRow;", true)
  | 2 => ("TrainGuard$Track", "restrictions", "LTrainGuard$Restrictions;", true)
  | 3 => ("TrainGuard$Track", "marks", "LTrainGuard$MarkRow;", true)
  | 4 => ("TrainGuard$Track", "hasAuthority", "Z", false)
  | 5 => ("TrainGuard$Track", "end", "I", false)
  | 6 => ("TrainGuard$Track", "overlap", "I", false)
  | _ => ("TrainGuard$Track", "endMode", "I", false)
def x_tyTrk : Nat → FieldType := fun k => match k with
  | 0 => .object "TrainGuard$SpanRow"
  | 1 => .object "TrainGuard$SpanRow"
  | 2 => .object "TrainGuard$Restrictions"
  | 3 => .object "TrainGuard$MarkRow"
  | 4 => .boolean
  | 5 => .int
  | 6 => .int
  | _ => .int
def x_TSpn : u_T := fun k => match k with
  | 0 => ("TrainGuard$SpanRow", "firsts", "[I", true)
  | 1 => ("TrainGuard$SpanRow", "lasts", "[I", true)
  | 2 => ("TrainGuard$SpanRow", "values", "[I", true)
  | _ => ("TrainGuard$SpanRow", "count", "I", false)
def x_tySpn : Nat → FieldType := fun k => match k with
  | 0 => .array .int
  | 1 => .array .int
  | 2 => .array .int
  | _ => .int
def x_TRes : u_T := fun k => match k with
  | 0 => ("TrainGuard$Restrictions", "numbers", "[I", true)
  | _ => ("TrainGuard$Restrictions", "spans", "LTrainGuard$SpanRow;", true)
def x_tyRes : Nat → FieldType := fun k => match k with
  | 0 => .array .int
  | _ => .object "TrainGuard$SpanRow"
def x_TMrk : u_T := fun k => match k with
  | 0 => ("TrainGuard$MarkRow", "places", "[I", true)
  | 1 => ("TrainGuard$MarkRow", "numbers", "[I", true)
  | 2 => ("TrainGuard$MarkRow", "accuracies", "[I", true)
  | 3 => ("TrainGuard$MarkRow", "passed", "[Z", true)
  | _ => ("TrainGuard$MarkRow", "count", "I", false)
def x_tyMrk : Nat → FieldType := fun k => match k with
  | 0 => .array .int
  | 1 => .array .int
  | 2 => .array .int
  | 3 => .array .boolean
  | _ => .int
def x_TBit : u_T := fun k => match k with
  | 0 => ("TrainGuard$BitRow", "row", "[B", true)
  | 1 => ("TrainGuard$BitRow", "count", "I", false)
  | 2 => ("TrainGuard$BitRow", "position", "I", false)
  | _ => ("TrainGuard$BitRow", "fault", "I", false)
def x_tyBit : Nat → FieldType := fun k => match k with
  | 0 => .array .byte
  | 1 => .int
  | 2 => .int
  | _ => .int
def x_TMsg : u_T := fun k => match k with
  | 0 => ("TrainGuard$Message", "came", "[Z", true)
  | 1 => ("TrainGuard$Message", "marks", "LTrainGuard$MarkRow;", true)
  | 2 => ("TrainGuard$Message", "grades", "LTrainGuard$SpanRow;", true)
  | 3 => ("TrainGuard$Message", "profile", "LTrainGuard$SpanRow;", true)
  | 4 => ("TrainGuard$Message", "kind", "I", false)
  | 5 => ("TrainGuard$Message", "time", "I", false)
  | 6 => ("TrainGuard$Message", "end", "I", false)
  | 7 => ("TrainGuard$Message", "overlap", "I", false)
  | 8 => ("TrainGuard$Message", "endMode", "I", false)
  | 9 => ("TrainGuard$Message", "number", "I", false)
  | 10 => ("TrainGuard$Message", "from", "I", false)
  | 11 => ("TrainGuard$Message", "reach", "I", false)
  | 12 => ("TrainGuard$Message", "speed", "I", false)
  | _ => ("TrainGuard$Message", "ended", "I", false)
def x_tyMsg : Nat → FieldType := fun k => match k with
  | 0 => .array .boolean
  | 1 => .object "TrainGuard$MarkRow"
  | 2 => .object "TrainGuard$SpanRow"
  | 3 => .object "TrainGuard$SpanRow"
  | 4 => .int
  | 5 => .int
  | 6 => .int
  | 7 => .int
  | 8 => .int
  | 9 => .int
  | 10 => .int
  | 11 => .int
  | 12 => .int
  | _ => .int
def x_TCur : u_T := fun k => match k with
  | 0 => ("TrainGuard$Curves", "emergency", "I", true)
  | 1 => ("TrainGuard$Curves", "service", "I", true)
  | 2 => ("TrainGuard$Curves", "places", "[I", true)
  | 3 => ("TrainGuard$Curves", "speeds", "[I", true)
  | 4 => ("TrainGuard$Curves", "falls", "[I", true)
  | 5 => ("TrainGuard$Curves", "count", "I", false)
  | 6 => ("TrainGuard$Curves", "ceiling", "I", false)
  | _ => ("TrainGuard$Curves", "high", "I", false)
def x_tyCur : Nat → FieldType := fun k => match k with
  | 0 => .int
  | 1 => .int
  | 2 => .array .int
  | 3 => .array .int
  | 4 => .array .int
  | 5 => .int
  | 6 => .int
  | _ => .int
def x_TBrk : u_T := fun k => match k with
  | 0 => ("TrainGuard$Brakes", "emergency", "Z", false)
  | 1 => ("TrainGuard$Brakes", "service", "Z", false)
  | _ => ("TrainGuard$Brakes", "command", "I", false)
def x_tyBrk : Nat → FieldType := fun k => match k with
  | 0 => .boolean
  | 1 => .boolean
  | _ => .int
def x_TNot : u_T := fun k => match k with
  | 0 => ("TrainGuard$Notes", "row", "[I", true)
  | 1 => ("TrainGuard$Notes", "count", "I", false)
  | _ => ("TrainGuard$Notes", "next", "I", false)
def x_tyNot : Nat → FieldType := fun k => match k with
  | 0 => .array .int
  | 1 => .int
  | _ => .int
def x_TMod : u_T := fun k => match k with
  | 0 => ("TrainGuardModel", "emergency", "I", true)
  | 1 => ("TrainGuardModel", "service", "I", true)
  | 2 => ("TrainGuardModel", "length", "I", true)
  | 3 => ("TrainGuardModel", "low", "I", false)
  | 4 => ("TrainGuardModel", "high", "I", false)
  | 5 => ("TrainGuardModel", "top", "I", false)
  | 6 => ("TrainGuardModel", "mode", "I", false)
  | 7 => ("TrainGuardModel", "cycles", "I", false)
  | 8 => ("TrainGuardModel", "authority", "Z", false)
  | 9 => ("TrainGuardModel", "end", "I", false)
  | 10 => ("TrainGuardModel", "overlap", "I", false)
  | 11 => ("TrainGuardModel", "authorityMode", "I", false)
  | 12 => ("TrainGuardModel", "staffEnd", "I", false)
  | 13 => ("TrainGuardModel", "steps", "I", false)
  | 14 => ("TrainGuardModel", "stepPlace", "[I", true)
  | 15 => ("TrainGuardModel", "stepLimit", "[I", true)
  | 16 => ("TrainGuardModel", "grades", "I", false)
  | 17 => ("TrainGuardModel", "gradePlace", "[I", true)
  | 18 => ("TrainGuardModel", "gradeFall", "[I", true)
  | 19 => ("TrainGuardModel", "marked", "I", false)
  | 20 => ("TrainGuardModel", "markPlace", "[I", true)
  | 21 => ("TrainGuardModel", "markNumber", "[I", true)
  | 22 => ("TrainGuardModel", "markAccuracy", "[I", true)
  | 23 => ("TrainGuardModel", "passed", "[Z", true)
  | 24 => ("TrainGuardModel", "restrictions", "I", false)
  | 25 => ("TrainGuardModel", "slowNumber", "[I", true)
  | 26 => ("TrainGuardModel", "slowPlace", "[I", true)
  | 27 => ("TrainGuardModel", "slowLength", "[I", true)
  | 28 => ("TrainGuardModel", "slowLimit", "[I", true)
  | 29 => ("TrainGuardModel", "asked", "Z", false)
  | 30 => ("TrainGuardModel", "askedCycles", "I", false)
  | 31 => ("TrainGuardModel", "hard", "Z", false)
  | 32 => ("TrainGuardModel", "soft", "Z", false)
  | 33 => ("TrainGuardModel", "command", "I", false)
  | 34 => ("TrainGuardModel", "latest", "I", false)
  | 35 => ("TrainGuardModel", "size", "I", false)
  | 36 => ("TrainGuardModel", "row", "[I", true)
  | 37 => ("TrainGuardModel", "next", "I", false)
  | 38 => ("TrainGuardModel", "fault", "I", false)
  | 39 => ("TrainGuardModel", "came", "[Z", true)
  | 40 => ("TrainGuardModel", "count", "[I", true)
  | 41 => ("TrainGuardModel", "said", "[I", true)
  | 42 => ("TrainGuardModel", "notes", "I", false)
  | _ => ("TrainGuardModel", "noted", "[I", true)
def x_tyMod : Nat → FieldType := fun k => match k with
  | 0 => .int
  | 1 => .int
  | 2 => .int
  | 3 => .int
  | 4 => .int
  | 5 => .int
  | 6 => .int
  | 7 => .int
  | 8 => .boolean
  | 9 => .int
  | 10 => .int
  | 11 => .int
  | 12 => .int
  | 13 => .int
  | 14 => .array .int
  | 15 => .array .int
  | 16 => .int
  | 17 => .array .int
  | 18 => .array .int
  | 19 => .int
  | 20 => .array .int
  | 21 => .array .int
  | 22 => .array .int
  | 23 => .array .boolean
  | 24 => .int
  | 25 => .array .int
  | 26 => .array .int
  | 27 => .array .int
  | 28 => .array .int
  | 29 => .boolean
  | 30 => .int
  | 31 => .boolean
  | 32 => .boolean
  | 33 => .int
  | 34 => .int
  | 35 => .int
  | 36 => .array .int
  | 37 => .int
  | 38 => .int
  | 39 => .array .boolean
  | 40 => .array .int
  | 41 => .array .int
  | 42 => .int
  | _ => .array .int
abbrev x_cls : List vw_C := [("TrainGuard", x_TG, 14), ("TrainGuard$Front", x_TFrt, 3), ("TrainGuard$Track", x_TTrk, 8), ("TrainGuard$SpanRow", x_TSpn, 4), ("TrainGuard$Restrictions", x_TRes, 2), ("TrainGuard$MarkRow", x_TMrk, 5), ("TrainGuard$BitRow", x_TBit, 4), ("TrainGuard$Message", x_TMsg, 14), ("TrainGuard$Curves", x_TCur, 8), ("TrainGuard$Brakes", x_TBrk, 3), ("TrainGuard$Notes", x_TNot, 3), ("TrainGuardModel", x_TMod, 44)]
def x_fty (ci : Nat) : Nat → FieldType := match ci with
  | 0 => x_tyG
  | 1 => x_tyFrt
  | 2 => x_tyTrk
  | 3 => x_tySpn
  | 4 => x_tyRes
  | 5 => x_tyMrk
  | 6 => x_tyBit
  | 7 => x_tyMsg
  | 8 => x_tyCur
  | 9 => x_tyBrk
  | 10 => x_tyNot
  | _ => x_tyMod
/-- is the field a reference? -/
def x_isR (ci k : Nat) : Bool := match x_fty ci k with | .int => false | .boolean => false | _ => true
/-- the words that every method is given, and those of nest mates -/
def x_W : List Cond := lw_tbl.filter goodWord
def x_isN : Cond → Bool
  | .fieldLinkNest .. => true
  | .methodLinkNest .. => true
  | _ => false
theorem x_inW {i : Nat} {w : Cond} (h : tables_1[i]? = some w) (g : goodWord w = true) : w ∈ x_W := List.mem_filter.mpr ⟨List.mem_append_right _ (List.mem_of_getElem? h), g⟩
theorem x_inP {i : Nat} {w : Cond} (h : (k2_sels lw_privs)[i]? = some w) (g : goodWord w = true) : w ∈ x_W := List.mem_filter.mpr ⟨List.mem_append_left _ (List.mem_of_getElem? h), g⟩
def x_N : List Cond := lw_tbl.filter x_isN
theorem x_inN {i : Nat} {w : Cond} (h : tables_1[i]? = some w) (g : x_isN w = true) : w ∈ x_N := List.mem_filter.mpr ⟨List.mem_append_right _ (List.mem_of_getElem? h), g⟩
/-- a method: its name, code, locals, answer; the frames and the locals' words that it needs below it -/
abbrev x_M : Type := MethodName × ByteArray × Nat × Option FieldType × Nat × Nat
def m_G_init : x_M := (⟨"TrainGuard", "<init>", "(III)V"⟩, prog_1_method_1_code, 5, none, 4, 80)
def m_G_bits : x_M := (⟨"TrainGuard", "bits", "(II)Z"⟩, prog_1_method_2_code, 3, (some .boolean), 1, 23)
def m_G_message : x_M := (⟨"TrainGuard", "message", "()I"⟩, prog_1_method_3_code, 2, (some .int), 6, 141)
def m_G_mark : x_M := (⟨"TrainGuard", "mark", "(I)Z"⟩, prog_1_method_4_code, 5, (some .boolean), 5, 104)
def m_G_cycle : x_M := (⟨"TrainGuard", "cycle", "(I)I"⟩, prog_1_method_5_code, 3, (some .int), 6, 138)
def m_G_driver : x_M := (⟨"TrainGuard", "driver", "(I)Z"⟩, prog_1_method_6_code, 2, (some .boolean), 5, 105)
def m_G_mode : x_M := (⟨"TrainGuard", "mode", "()I"⟩, prog_1_method_7_code, 1, (some .int), 0, 0)
def m_G_state : x_M := (⟨"TrainGuard", "state", "(I)I"⟩, prog_1_method_8_code, 2, (some .int), 0, 0)
def m_G_display : x_M := (⟨"TrainGuard", "display", "(I)I"⟩, prog_1_method_9_code, 2, (some .int), 6, 142)
def m_G_limit : x_M := (⟨"TrainGuard", "limit", "(I)I"⟩, prog_1_method_10_code, 2, (some .int), 2, 46)
def m_G_way : x_M := (⟨"TrainGuard", "way", "(III)I"⟩, prog_1_method_11_code, 4, (some .int), 1, 25)
def m_G_marks : x_M := (⟨"TrainGuard", "marks", "(I)I"⟩, prog_1_method_12_code, 2, (some .int), 1, 21)
def m_G_note : x_M := (⟨"TrainGuard", "note", "(I)I"⟩, prog_1_method_13_code, 2, (some .int), 1, 21)
def m_G_within : x_M := (⟨"TrainGuard", "within", "(III)I"⟩, prog_1_method_14_code, 3, (some .int), 1, 21)
def m_G_brakingWay : x_M := (⟨"TrainGuard", "brakingWay", "(III)I"⟩, prog_1_method_15_code, 6, (some .int), 0, 0)
def m_G_isGuided : x_M := (⟨"TrainGuard", "isGuided", "()Z"⟩, prog_1_method_16_code, 1, (some .boolean), 0, 0)
def m_G_isStopped : x_M := (⟨"TrainGuard", "isStopped", "()Z"⟩, prog_1_method_17_code, 1, (some .boolean), 0, 0)
def m_G_write : x_M := (⟨"TrainGuard", "write", "(II)V"⟩, prog_1_method_18_code, 3, none, 1, 21)
def m_G_become : x_M := (⟨"TrainGuard", "become", "(I)V"⟩, prog_1_method_19_code, 2, none, 2, 43)
def m_G_trip : x_M := (⟨"TrainGuard", "trip", "()V"⟩, prog_1_method_20_code, 1, none, 3, 64)
def m_G_faultOfMarks : x_M := (⟨"TrainGuard", "faultOfMarks", "()V"⟩, prog_1_method_21_code, 1, none, 4, 84)
def m_G_lookForTrip : x_M := (⟨"TrainGuard", "lookForTrip", "()V"⟩, prog_1_method_22_code, 1, none, 5, 104)
def m_G_enterModeOfAuthority : x_M := (⟨"TrainGuard", "enterModeOfAuthority", "()V"⟩, prog_1_method_23_code, 2, none, 3, 64)
def m_G_driverMay : x_M := (⟨"TrainGuard", "driverMay", "(I)Z"⟩, prog_1_method_24_code, 2, (some .boolean), 0, 0)
def m_G_start : x_M := (⟨"TrainGuard", "start", "()V"⟩, prog_1_method_25_code, 1, none, 4, 85)
def m_G_faultOfReceived : x_M := (⟨"TrainGuard", "faultOfReceived", "()I"⟩, prog_1_method_26_code, 3, (some .int), 5, 118)
def m_G_obeyReceived : x_M := (⟨"TrainGuard", "obeyReceived", "()V"⟩, prog_1_method_27_code, 2, none, 4, 90)
def m_G_ceilingNow : x_M := (⟨"TrainGuard", "ceilingNow", "()I"⟩, prog_1_method_28_code, 2, (some .int), 2, 46)
def m_G_gradeNow : x_M := (⟨"TrainGuard", "gradeNow", "()I"⟩, prog_1_method_29_code, 1, (some .int), 5, 118)
def m_G_gradeWithEnd : x_M := (⟨"TrainGuard", "gradeWithEnd", "(I)I"⟩, prog_1_method_30_code, 2, (some .int), 4, 97)
def m_G_allowedNow : x_M := (⟨"TrainGuard", "allowedNow", "()I"⟩, prog_1_method_31_code, 1, (some .int), 5, 122)
def m_G_lookAhead : x_M := (⟨"TrainGuard", "lookAhead", "(I)V"⟩, prog_1_method_32_code, 2, none, 3, 68)
def m_G_addTargetsOf : x_M := (⟨"TrainGuard", "addTargetsOf", "(LTrainGuard$SpanRow;)V"⟩, prog_1_method_33_code, 3, none, 2, 46)
def m_G_addTarget : x_M := (⟨"TrainGuard", "addTarget", "(II)V"⟩, prog_1_method_34_code, 3, none, 1, 24)
def m_Mod_init : x_M := (⟨"TrainGuardModel", "<init>", "(III)V"⟩, prog_13_method_1_code, 5, none, 1, 20)
def m_Mod_write : x_M := (⟨"TrainGuardModel", "write", "(II)V"⟩, prog_13_method_2_code, 4, none, 0, 0)
def m_Mod_become : x_M := (⟨"TrainGuardModel", "become", "(I)V"⟩, prog_13_method_3_code, 2, none, 1, 23)
def m_Mod_trips : x_M := (⟨"TrainGuardModel", "trips", "()V"⟩, prog_13_method_4_code, 1, none, 2, 44)
def m_Mod_enters : x_M := (⟨"TrainGuardModel", "enters", "()V"⟩, prog_13_method_5_code, 1, none, 2, 44)
def m_Mod_watched : x_M := (⟨"TrainGuardModel", "watched", "()Z"⟩, prog_13_method_6_code, 1, (some .boolean), 0, 0)
def m_Mod_bits : x_M := (⟨"TrainGuardModel", "bits", "(II)Z"⟩, prog_13_method_7_code, 4, (some .boolean), 0, 0)
def m_Mod_read : x_M := (⟨"TrainGuardModel", "read", "(I)I"⟩, prog_13_method_8_code, 4, (some .int), 0, 0)
def m_Mod_check : x_M := (⟨"TrainGuardModel", "check", "(ZI)V"⟩, prog_13_method_9_code, 3, none, 0, 0)
def m_Mod_slotOf : x_M := (⟨"TrainGuardModel", "slotOf", "(I)I"⟩, prog_13_method_10_code, 1, (some .int), 0, 0)
def m_Mod_told : x_M := (⟨"TrainGuardModel", "told", "(III)I"⟩, prog_13_method_11_code, 4, (some .int), 0, 0)
def m_Mod_tell : x_M := (⟨"TrainGuardModel", "tell", "(IIII)V"⟩, prog_13_method_12_code, 5, none, 0, 0)
def m_Mod_limitOf : x_M := (⟨"TrainGuardModel", "limitOf", "(I)I"⟩, prog_13_method_13_code, 1, (some .int), 0, 0)
def m_Mod_packets : x_M := (⟨"TrainGuardModel", "packets", "()V"⟩, prog_13_method_14_code, 4, none, 2, 47)
def m_Mod_numbers : x_M := (⟨"TrainGuardModel", "numbers", "(I)V"⟩, prog_13_method_15_code, 4, none, 1, 24)
def m_Mod_message : x_M := (⟨"TrainGuardModel", "message", "()I"⟩, prog_13_method_16_code, 5, (some .int), 4, 105)
def m_Mod_fits : x_M := (⟨"TrainGuardModel", "fits", "()Z"⟩, prog_13_method_17_code, 5, (some .boolean), 1, 23)
def m_Mod_drop : x_M := (⟨"TrainGuardModel", "drop", "(I)V"⟩, prog_13_method_18_code, 4, none, 0, 0)
def m_Mod_take : x_M := (⟨"TrainGuardModel", "take", "(II)V"⟩, prog_13_method_19_code, 3, none, 3, 64)
def m_Mod_lists : x_M := (⟨"TrainGuardModel", "lists", "()V"⟩, prog_13_method_20_code, 2, none, 1, 23)
def m_Mod_least : x_M := (⟨"TrainGuardModel", "least", "(II)I"⟩, prog_13_method_21_code, 6, (some .int), 0, 0)
def m_Mod_limit : x_M := (⟨"TrainGuardModel", "limit", "(I)I"⟩, prog_13_method_22_code, 2, (some .int), 1, 25)
def m_Mod_ceiling : x_M := (⟨"TrainGuardModel", "ceiling", "()I"⟩, prog_13_method_23_code, 2, (some .int), 1, 25)
def m_Mod_fall : x_M := (⟨"TrainGuardModel", "fall", "(I)I"⟩, prog_13_method_24_code, 5, (some .int), 0, 0)
def m_Mod_braking : x_M := (⟨"TrainGuardModel", "braking", "(III)I"⟩, prog_13_method_25_code, 6, (some .int), 0, 0)
def m_Mod_way : x_M := (⟨"TrainGuardModel", "way", "(III)I"⟩, prog_13_method_26_code, 4, (some .int), 1, 25)
def m_Mod_past : x_M := (⟨"TrainGuardModel", "past", "(IIIIII)Z"⟩, prog_13_method_27_code, 11, (some .boolean), 1, 25)
def m_Mod_over : x_M := (⟨"TrainGuardModel", "over", "(IIIII)Z"⟩, prog_13_method_28_code, 8, (some .boolean), 2, 55)
def m_Mod_grade : x_M := (⟨"TrainGuardModel", "grade", "(II)I"⟩, prog_13_method_29_code, 4, (some .int), 3, 82)
def m_Mod_allowed : x_M := (⟨"TrainGuardModel", "allowed", "()I"⟩, prog_13_method_30_code, 3, (some .int), 4, 105)
def m_Mod_mark : x_M := (⟨"TrainGuardModel", "mark", "(I)Z"⟩, prog_13_method_31_code, 6, (some .boolean), 3, 64)
def m_Mod_moves : x_M := (⟨"TrainGuardModel", "moves", "(I)V"⟩, prog_13_method_32_code, 5, none, 3, 64)
def m_Mod_cycle : x_M := (⟨"TrainGuardModel", "cycle", "(I)I"⟩, prog_13_method_33_code, 4, (some .int), 4, 105)
def m_Mod_driver : x_M := (⟨"TrainGuardModel", "driver", "(I)Z"⟩, prog_13_method_34_code, 5, (some .boolean), 3, 64)
def m_Mod_mode : x_M := (⟨"TrainGuardModel", "mode", "()I"⟩, prog_13_method_35_code, 1, (some .int), 0, 0)
def m_Mod_state : x_M := (⟨"TrainGuardModel", "state", "(I)I"⟩, prog_13_method_36_code, 2, (some .int), 0, 0)
def m_Mod_display : x_M := (⟨"TrainGuardModel", "display", "(I)I"⟩, prog_13_method_37_code, 3, (some .int), 5, 127)
def m_Mod_marks : x_M := (⟨"TrainGuardModel", "marks", "(I)I"⟩, prog_13_method_38_code, 2, (some .int), 0, 0)
def m_Mod_note : x_M := (⟨"TrainGuardModel", "note", "(I)I"⟩, prog_13_method_39_code, 2, (some .int), 0, 0)
def m_Bit_init : x_M := (⟨"TrainGuard$BitRow", "<init>", "()V"⟩, prog_2_method_1_code, 1, none, 1, 20)
def m_Bit_put : x_M := (⟨"TrainGuard$BitRow", "put", "(II)Z"⟩, prog_2_method_2_code, 4, (some .boolean), 0, 0)
def m_Bit_clear : x_M := (⟨"TrainGuard$BitRow", "clear", "()V"⟩, prog_2_method_3_code, 1, none, 0, 0)
def m_Bit_begin : x_M := (⟨"TrainGuard$BitRow", "begin", "()V"⟩, prog_2_method_4_code, 1, none, 0, 0)
def m_Bit_left : x_M := (⟨"TrainGuard$BitRow", "left", "()I"⟩, prog_2_method_5_code, 1, (some .int), 0, 0)
def m_Bit_isSound : x_M := (⟨"TrainGuard$BitRow", "isSound", "()Z"⟩, prog_2_method_6_code, 1, (some .boolean), 0, 0)
def m_Bit_need : x_M := (⟨"TrainGuard$BitRow", "need", "(ZI)V"⟩, prog_2_method_7_code, 3, none, 0, 0)
def m_Bit_take : x_M := (⟨"TrainGuard$BitRow", "take", "(I)I"⟩, prog_2_method_8_code, 4, (some .int), 0, 0)
def m_Brk_init : x_M := (⟨"TrainGuard$Brakes", "<init>", "()V"⟩, prog_3_method_1_code, 1, none, 1, 20)
def m_Brk_apply : x_M := (⟨"TrainGuard$Brakes", "apply", "(IZZ)Z"⟩, prog_3_method_2_code, 5, (some .boolean), 0, 0)
def m_Cur_init : x_M := (⟨"TrainGuard$Curves", "<init>", "(II)V"⟩, prog_4_method_1_code, 3, none, 1, 20)
def m_Cur_begin : x_M := (⟨"TrainGuard$Curves", "begin", "(II)V"⟩, prog_4_method_2_code, 3, none, 0, 0)
def m_Cur_add : x_M := (⟨"TrainGuard$Curves", "add", "(III)V"⟩, prog_4_method_3_code, 4, none, 0, 0)
def m_Cur_gradeOf : x_M := (⟨"TrainGuard$Curves", "gradeOf", "(I)I"⟩, prog_4_method_4_code, 2, (some .int), 3, 76)
def m_Cur_allowed : x_M := (⟨"TrainGuard$Curves", "allowed", "()I"⟩, prog_4_method_5_code, 6, (some .int), 4, 97)
def m_Cur_isOverEmergency : x_M := (⟨"TrainGuard$Curves", "isOverEmergency", "(I)Z"⟩, prog_4_method_6_code, 3, (some .boolean), 2, 53)
def m_Cur_isOverService : x_M := (⟨"TrainGuard$Curves", "isOverService", "(II)Z"⟩, prog_4_method_7_code, 4, (some .boolean), 2, 53)
def m_Cur_isOver : x_M := (⟨"TrainGuard$Curves", "isOver", "(IIIII)Z"⟩, prog_4_method_8_code, 9, (some .boolean), 1, 25)
def m_Frt_init : x_M := (⟨"TrainGuard$Front", "<init>", "()V"⟩, prog_5_method_1_code, 1, none, 1, 20)
def m_Frt_advance : x_M := (⟨"TrainGuard$Front", "advance", "(I)V"⟩, prog_5_method_2_code, 3, none, 0, 0)
def m_Frt_narrow : x_M := (⟨"TrainGuard$Front", "narrow", "(II)V"⟩, prog_5_method_3_code, 3, none, 1, 21)
def m_Mrk_init : x_M := (⟨"TrainGuard$MarkRow", "<init>", "()V"⟩, prog_6_method_1_code, 1, none, 1, 20)
def m_Mrk_clear : x_M := (⟨"TrainGuard$MarkRow", "clear", "()V"⟩, prog_6_method_2_code, 1, none, 0, 0)
def m_Mrk_add : x_M := (⟨"TrainGuard$MarkRow", "add", "(III)V"⟩, prog_6_method_3_code, 4, none, 0, 0)
def m_Mrk_copyFrom : x_M := (⟨"TrainGuard$MarkRow", "copyFrom", "(LTrainGuard$MarkRow;)V"⟩, prog_6_method_4_code, 3, none, 1, 23)
def m_Mrk_earliest : x_M := (⟨"TrainGuard$MarkRow", "earliest", "(I)I"⟩, prog_6_method_5_code, 2, (some .int), 0, 0)
def m_Mrk_latest : x_M := (⟨"TrainGuard$MarkRow", "latest", "(I)I"⟩, prog_6_method_6_code, 2, (some .int), 0, 0)
def m_Mrk_firstOpen : x_M := (⟨"TrainGuard$MarkRow", "firstOpen", "(I)I"⟩, prog_6_method_7_code, 3, (some .int), 0, 0)
def m_Mrk_anyOpenBefore : x_M := (⟨"TrainGuard$MarkRow", "anyOpenBefore", "(I)Z"⟩, prog_6_method_8_code, 3, (some .boolean), 0, 0)
def m_Mrk_passUpTo : x_M := (⟨"TrainGuard$MarkRow", "passUpTo", "(I)V"⟩, prog_6_method_9_code, 3, none, 0, 0)
def m_Mrk_passBehind : x_M := (⟨"TrainGuard$MarkRow", "passBehind", "(I)Z"⟩, prog_6_method_10_code, 4, (some .boolean), 1, 21)
def m_Mrk_shown : x_M := (⟨"TrainGuard$MarkRow", "shown", "(I)I"⟩, prog_6_method_11_code, 2, (some .int), 0, 0)
def m_Msg_init : x_M := (⟨"TrainGuard$Message", "<init>", "()V"⟩, prog_7_method_1_code, 1, none, 2, 40)
def m_Msg_endedNumber : x_M := (⟨"TrainGuard$Message", "endedNumber", "()I"⟩, prog_7_method_2_code, 1, (some .int), 0, 0)
def m_Msg_readFrom : x_M := (⟨"TrainGuard$Message", "readFrom", "(LTrainGuard$BitRow;I)I"⟩, prog_7_method_3_code, 5, (some .int), 5, 117)
def m_Msg_readPacket : x_M := (⟨"TrainGuard$Message", "readPacket", "(LTrainGuard$BitRow;)V"⟩, prog_7_method_4_code, 5, none, 4, 93)
def m_Msg_slotOf : x_M := (⟨"TrainGuard$Message", "slotOf", "(I)I"⟩, prog_7_method_5_code, 2, (some .int), 0, 0)
def m_Msg_readNumbers : x_M := (⟨"TrainGuard$Message", "readNumbers", "(LTrainGuard$BitRow;I)V"⟩, prog_7_method_6_code, 3, none, 3, 71)
def m_Msg_readMarks : x_M := (⟨"TrainGuard$Message", "readMarks", "(LTrainGuard$BitRow;)V"⟩, prog_7_method_7_code, 6, none, 2, 45)
def m_Msg_readAuthority : x_M := (⟨"TrainGuard$Message", "readAuthority", "(LTrainGuard$BitRow;)V"⟩, prog_7_method_8_code, 3, none, 2, 43)
def m_Msg_readSteps : x_M := (⟨"TrainGuard$Message", "readSteps", "(LTrainGuard$BitRow;LTrainGuard$SpanRow;Z)V"⟩, prog_7_method_9_code, 7, none, 2, 45)
def m_Msg_readRestriction : x_M := (⟨"TrainGuard$Message", "readRestriction", "(LTrainGuard$BitRow;)V"⟩, prog_7_method_10_code, 2, none, 2, 43)
def m_Msg_takePlace : x_M := (⟨"TrainGuard$Message", "takePlace", "(LTrainGuard$BitRow;)I"⟩, prog_7_method_11_code, 1, (some .int), 1, 23)
def m_Msg_takePlaceBehind : x_M := (⟨"TrainGuard$Message", "takePlaceBehind", "(LTrainGuard$BitRow;I)I"⟩, prog_7_method_12_code, 3, (some .int), 1, 23)
def m_Msg_takeLimit : x_M := (⟨"TrainGuard$Message", "takeLimit", "(LTrainGuard$BitRow;)I"⟩, prog_7_method_13_code, 1, (some .int), 1, 23)
def m_Not_init : x_M := (⟨"TrainGuard$Notes", "<init>", "()V"⟩, prog_8_method_1_code, 1, none, 1, 20)
def m_Not_add : x_M := (⟨"TrainGuard$Notes", "add", "(I)V"⟩, prog_8_method_2_code, 2, none, 0, 0)
def m_Not_get : x_M := (⟨"TrainGuard$Notes", "get", "(I)I"⟩, prog_8_method_3_code, 2, (some .int), 0, 0)
def m_Res_init : x_M := (⟨"TrainGuard$Restrictions", "<init>", "()V"⟩, prog_9_method_1_code, 1, none, 2, 40)
def m_Res_hasRoom : x_M := (⟨"TrainGuard$Restrictions", "hasRoom", "(II)Z"⟩, prog_9_method_2_code, 3, (some .boolean), 1, 22)
def m_Res_remove : x_M := (⟨"TrainGuard$Restrictions", "remove", "(I)V"⟩, prog_9_method_3_code, 3, none, 1, 22)
def m_Res_put : x_M := (⟨"TrainGuard$Restrictions", "put", "(IIII)V"⟩, prog_9_method_4_code, 5, none, 2, 44)
def m_Res_indexOf : x_M := (⟨"TrainGuard$Restrictions", "indexOf", "(I)I"⟩, prog_9_method_5_code, 3, (some .int), 0, 0)
def m_Spn_init : x_M := (⟨"TrainGuard$SpanRow", "<init>", "()V"⟩, prog_10_method_1_code, 1, none, 1, 20)
def m_Spn_isEmpty : x_M := (⟨"TrainGuard$SpanRow", "isEmpty", "()Z"⟩, prog_10_method_2_code, 1, (some .boolean), 0, 0)
def m_Spn_clear : x_M := (⟨"TrainGuard$SpanRow", "clear", "()V"⟩, prog_10_method_3_code, 1, none, 0, 0)
def m_Spn_add : x_M := (⟨"TrainGuard$SpanRow", "add", "(III)V"⟩, prog_10_method_4_code, 4, none, 0, 0)
def m_Spn_addStep : x_M := (⟨"TrainGuard$SpanRow", "addStep", "(II)V"⟩, prog_10_method_5_code, 3, none, 1, 23)
def m_Spn_copyFrom : x_M := (⟨"TrainGuard$SpanRow", "copyFrom", "(LTrainGuard$SpanRow;)V"⟩, prog_10_method_6_code, 3, none, 1, 23)
def m_Spn_fillFromLast : x_M := (⟨"TrainGuard$SpanRow", "fillFromLast", "(I)V"⟩, prog_10_method_7_code, 2, none, 0, 0)
def m_Spn_least : x_M := (⟨"TrainGuard$SpanRow", "least", "(II)I"⟩, prog_10_method_8_code, 5, (some .int), 0, 0)
def m_Spn_greatest : x_M := (⟨"TrainGuard$SpanRow", "greatest", "(II)I"⟩, prog_10_method_9_code, 5, (some .int), 0, 0)
def m_Trk_init : x_M := (⟨"TrainGuard$Track", "<init>", "()V"⟩, prog_11_method_1_code, 1, none, 3, 60)
def m_Trk_forget : x_M := (⟨"TrainGuard$Track", "forget", "()V"⟩, prog_11_method_2_code, 1, none, 1, 20)
def m_Trk_leastLimit : x_M := (⟨"TrainGuard$Track", "leastLimit", "(II)I"⟩, prog_11_method_3_code, 3, (some .int), 1, 24)
def m_Trk_put : x_M := (⟨"TrainGuard$Track", "put", "(LTrainGuard$Message;I)V"⟩, prog_11_method_4_code, 3, none, 3, 68)
def m_Law_cell : x_M := (⟨"TrainGuardLaw", "cell", "([II)I"⟩, method_2_code, 2, (some .int), 0, 0)
def m_Law_law : x_M := (⟨"TrainGuardLaw", "law", "([I)Z"⟩, code, 4, (some .boolean), 7, 163)
def m_Mth_max : x_M := (⟨"java/lang/Math", "max", "(II)I"⟩, prog_14_method_65_code, 2, (some .int), 0, 0)
def m_Mth_min : x_M := (⟨"java/lang/Math", "min", "(II)I"⟩, prog_14_method_69_code, 2, (some .int), 0, 0)
end
section
theorem xw_lG_0 : ((Cond.laysFinal "TrainGuard" "TrainGuard" "length" "I") : Cond) ∈ x_W := x_inW (i := 326) (by decide +kernel) (by decide +kernel)
theorem xw_lG_1 : ((Cond.laysFinal "TrainGuard" "TrainGuard" "front" "LTrainGuard$Front;") : Cond) ∈ x_W := x_inW (i := 328) (by decide +kernel) (by decide +kernel)
theorem xw_lG_2 : ((Cond.laysFinal "TrainGuard" "TrainGuard" "track" "LTrainGuard$Track;") : Cond) ∈ x_W := x_inW (i := 330) (by decide +kernel) (by decide +kernel)
theorem xw_lG_3 : ((Cond.laysFinal "TrainGuard" "TrainGuard" "bitRow" "LTrainGuard$BitRow;") : Cond) ∈ x_W := x_inW (i := 332) (by decide +kernel) (by decide +kernel)
theorem xw_lG_4 : ((Cond.laysFinal "TrainGuard" "TrainGuard" "received" "LTrainGuard$Message;") : Cond) ∈ x_W := x_inW (i := 334) (by decide +kernel) (by decide +kernel)
theorem xw_lG_5 : ((Cond.laysFinal "TrainGuard" "TrainGuard" "curves" "LTrainGuard$Curves;") : Cond) ∈ x_W := x_inW (i := 336) (by decide +kernel) (by decide +kernel)
theorem xw_lG_6 : ((Cond.laysFinal "TrainGuard" "TrainGuard" "brakes" "LTrainGuard$Brakes;") : Cond) ∈ x_W := x_inW (i := 338) (by decide +kernel) (by decide +kernel)
theorem xw_lG_7 : ((Cond.laysFinal "TrainGuard" "TrainGuard" "notes" "LTrainGuard$Notes;") : Cond) ∈ x_W := x_inW (i := 340) (by decide +kernel) (by decide +kernel)
theorem xw_lG_8 : ((Cond.lays "TrainGuard" "TrainGuard" "modeNow" "I") : Cond) ∈ x_W := x_inW (i := 342) (by decide +kernel) (by decide +kernel)
theorem xw_lG_9 : ((Cond.lays "TrainGuard" "TrainGuard" "staffEnd" "I") : Cond) ∈ x_W := x_inW (i := 344) (by decide +kernel) (by decide +kernel)
theorem xw_lG_10 : ((Cond.lays "TrainGuard" "TrainGuard" "cycles" "I") : Cond) ∈ x_W := x_inW (i := 346) (by decide +kernel) (by decide +kernel)
theorem xw_lG_11 : ((Cond.lays "TrainGuard" "TrainGuard" "latestTime" "I") : Cond) ∈ x_W := x_inW (i := 348) (by decide +kernel) (by decide +kernel)
theorem xw_lG_12 : ((Cond.lays "TrainGuard" "TrainGuard" "asked" "Z") : Cond) ∈ x_W := x_inW (i := 350) (by decide +kernel) (by decide +kernel)
theorem xw_lG_13 : ((Cond.lays "TrainGuard" "TrainGuard" "askedCycles" "I") : Cond) ∈ x_W := x_inW (i := 352) (by decide +kernel) (by decide +kernel)
theorem xw_lFrt_0 : ((Cond.lays "TrainGuard$Front" "TrainGuard$Front" "low" "I") : Cond) ∈ x_W := x_inW (i := 34) (by decide +kernel) (by decide +kernel)
theorem xw_lFrt_1 : ((Cond.lays "TrainGuard$Front" "TrainGuard$Front" "high" "I") : Cond) ∈ x_W := x_inW (i := 36) (by decide +kernel) (by decide +kernel)
theorem xw_lFrt_2 : ((Cond.lays "TrainGuard$Front" "TrainGuard$Front" "top" "I") : Cond) ∈ x_W := x_inW (i := 38) (by decide +kernel) (by decide +kernel)
theorem xw_lTrk_0 : ((Cond.laysFinal "TrainGuard$Track" "TrainGuard$Track" "profile" "LTrainGuard$SpanRow;") : Cond) ∈ x_W := x_inW (i := 127) (by decide +kernel) (by decide +kernel)
theorem xw_lTrk_1 : ((Cond.laysFinal "TrainGuard$Track" "TrainGuard$Track" "grades" "LTrainGuard$SpanRow;") : Cond) ∈ x_W := x_inW (i := 129) (by decide +kernel) (by decide +kernel)
theorem xw_lTrk_2 : ((Cond.laysFinal "TrainGuard$Track" "TrainGuard$Track" "restrictions" "LTrainGuard$Restrictions;") : Cond) ∈ x_W := x_inW (i := 131) (by decide +kernel) (by decide +kernel)
theorem xw_lTrk_3 : ((Cond.laysFinal "TrainGuard$Track" "TrainGuard$Track" "marks" "LTrainGuard$MarkRow;") : Cond) ∈ x_W := x_inW (i := 133) (by decide +kernel) (by decide +kernel)
theorem xw_lTrk_4 : ((Cond.lays "TrainGuard$Track" "TrainGuard$Track" "hasAuthority" "Z") : Cond) ∈ x_W := x_inW (i := 135) (by decide +kernel) (by decide +kernel)
theorem xw_lTrk_5 : ((Cond.lays "TrainGuard$Track" "TrainGuard$Track" "end" "I") : Cond) ∈ x_W := x_inW (i := 137) (by decide +kernel) (by decide +kernel)
theorem xw_lTrk_6 : ((Cond.lays "TrainGuard$Track" "TrainGuard$Track" "overlap" "I") : Cond) ∈ x_W := x_inW (i := 139) (by decide +kernel) (by decide +kernel)
theorem xw_lTrk_7 : ((Cond.lays "TrainGuard$Track" "TrainGuard$Track" "endMode" "I") : Cond) ∈ x_W := x_inW (i := 141) (by decide +kernel) (by decide +kernel)
theorem xw_lSpn_0 : ((Cond.laysFinal "TrainGuard$SpanRow" "TrainGuard$SpanRow" "firsts" "[I") : Cond) ∈ x_W := x_inW (i := 61) (by decide +kernel) (by decide +kernel)
theorem xw_lSpn_1 : ((Cond.laysFinal "TrainGuard$SpanRow" "TrainGuard$SpanRow" "lasts" "[I") : Cond) ∈ x_W := x_inW (i := 63) (by decide +kernel) (by decide +kernel)
theorem xw_lSpn_2 : ((Cond.laysFinal "TrainGuard$SpanRow" "TrainGuard$SpanRow" "values" "[I") : Cond) ∈ x_W := x_inW (i := 65) (by decide +kernel) (by decide +kernel)
theorem xw_lSpn_3 : ((Cond.lays "TrainGuard$SpanRow" "TrainGuard$SpanRow" "count" "I") : Cond) ∈ x_W := x_inW (i := 67) (by decide +kernel) (by decide +kernel)
theorem xw_lRes_0 : ((Cond.laysFinal "TrainGuard$Restrictions" "TrainGuard$Restrictions" "numbers" "[I") : Cond) ∈ x_W := x_inW (i := 83) (by decide +kernel) (by decide +kernel)
theorem xw_lRes_1 : ((Cond.laysFinal "TrainGuard$Restrictions" "TrainGuard$Restrictions" "spans" "LTrainGuard$SpanRow;") : Cond) ∈ x_W := x_inW (i := 85) (by decide +kernel) (by decide +kernel)
theorem xw_lMrk_0 : ((Cond.laysFinal "TrainGuard$MarkRow" "TrainGuard$MarkRow" "places" "[I") : Cond) ∈ x_W := x_inW (i := 99) (by decide +kernel) (by decide +kernel)
theorem xw_lMrk_1 : ((Cond.laysFinal "TrainGuard$MarkRow" "TrainGuard$MarkRow" "numbers" "[I") : Cond) ∈ x_W := x_inW (i := 101) (by decide +kernel) (by decide +kernel)
theorem xw_lMrk_2 : ((Cond.laysFinal "TrainGuard$MarkRow" "TrainGuard$MarkRow" "accuracies" "[I") : Cond) ∈ x_W := x_inW (i := 103) (by decide +kernel) (by decide +kernel)
theorem xw_lMrk_3 : ((Cond.laysFinal "TrainGuard$MarkRow" "TrainGuard$MarkRow" "passed" "[Z") : Cond) ∈ x_W := x_inW (i := 105) (by decide +kernel) (by decide +kernel)
theorem xw_lMrk_4 : ((Cond.lays "TrainGuard$MarkRow" "TrainGuard$MarkRow" "count" "I") : Cond) ∈ x_W := x_inW (i := 107) (by decide +kernel) (by decide +kernel)
theorem xw_lBit_0 : ((Cond.laysFinal "TrainGuard$BitRow" "TrainGuard$BitRow" "row" "[B") : Cond) ∈ x_W := x_inW (i := 157) (by decide +kernel) (by decide +kernel)
theorem xw_lBit_1 : ((Cond.lays "TrainGuard$BitRow" "TrainGuard$BitRow" "count" "I") : Cond) ∈ x_W := x_inW (i := 159) (by decide +kernel) (by decide +kernel)
theorem xw_lBit_2 : ((Cond.lays "TrainGuard$BitRow" "TrainGuard$BitRow" "position" "I") : Cond) ∈ x_W := x_inW (i := 161) (by decide +kernel) (by decide +kernel)
theorem xw_lBit_3 : ((Cond.lays "TrainGuard$BitRow" "TrainGuard$BitRow" "fault" "I") : Cond) ∈ x_W := x_inW (i := 163) (by decide +kernel) (by decide +kernel)
theorem xw_lMsg_0 : ((Cond.laysFinal "TrainGuard$Message" "TrainGuard$Message" "came" "[Z") : Cond) ∈ x_W := x_inW (i := 210) (by decide +kernel) (by decide +kernel)
theorem xw_lMsg_1 : ((Cond.laysFinal "TrainGuard$Message" "TrainGuard$Message" "marks" "LTrainGuard$MarkRow;") : Cond) ∈ x_W := x_inW (i := 212) (by decide +kernel) (by decide +kernel)
theorem xw_lMsg_2 : ((Cond.laysFinal "TrainGuard$Message" "TrainGuard$Message" "grades" "LTrainGuard$SpanRow;") : Cond) ∈ x_W := x_inW (i := 214) (by decide +kernel) (by decide +kernel)
theorem xw_lMsg_3 : ((Cond.laysFinal "TrainGuard$Message" "TrainGuard$Message" "profile" "LTrainGuard$SpanRow;") : Cond) ∈ x_W := x_inW (i := 216) (by decide +kernel) (by decide +kernel)
theorem xw_lMsg_4 : ((Cond.lays "TrainGuard$Message" "TrainGuard$Message" "kind" "I") : Cond) ∈ x_W := x_inW (i := 218) (by decide +kernel) (by decide +kernel)
theorem xw_lMsg_5 : ((Cond.lays "TrainGuard$Message" "TrainGuard$Message" "time" "I") : Cond) ∈ x_W := x_inW (i := 220) (by decide +kernel) (by decide +kernel)
theorem xw_lMsg_6 : ((Cond.lays "TrainGuard$Message" "TrainGuard$Message" "end" "I") : Cond) ∈ x_W := x_inW (i := 222) (by decide +kernel) (by decide +kernel)
theorem xw_lMsg_7 : ((Cond.lays "TrainGuard$Message" "TrainGuard$Message" "overlap" "I") : Cond) ∈ x_W := x_inW (i := 224) (by decide +kernel) (by decide +kernel)
theorem xw_lMsg_8 : ((Cond.lays "TrainGuard$Message" "TrainGuard$Message" "endMode" "I") : Cond) ∈ x_W := x_inW (i := 226) (by decide +kernel) (by decide +kernel)
theorem xw_lMsg_9 : ((Cond.lays "TrainGuard$Message" "TrainGuard$Message" "number" "I") : Cond) ∈ x_W := x_inW (i := 228) (by decide +kernel) (by decide +kernel)
theorem xw_lMsg_10 : ((Cond.lays "TrainGuard$Message" "TrainGuard$Message" "from" "I") : Cond) ∈ x_W := x_inW (i := 230) (by decide +kernel) (by decide +kernel)
theorem xw_lMsg_11 : ((Cond.lays "TrainGuard$Message" "TrainGuard$Message" "reach" "I") : Cond) ∈ x_W := x_inW (i := 232) (by decide +kernel) (by decide +kernel)
theorem xw_lMsg_12 : ((Cond.lays "TrainGuard$Message" "TrainGuard$Message" "speed" "I") : Cond) ∈ x_W := x_inW (i := 234) (by decide +kernel) (by decide +kernel)
theorem xw_lMsg_13 : ((Cond.lays "TrainGuard$Message" "TrainGuard$Message" "ended" "I") : Cond) ∈ x_W := x_inW (i := 236) (by decide +kernel) (by decide +kernel)
theorem xw_lCur_0 : ((Cond.laysFinal "TrainGuard$Curves" "TrainGuard$Curves" "emergency" "I") : Cond) ∈ x_W := x_inW (i := 295) (by decide +kernel) (by decide +kernel)
theorem xw_lCur_1 : ((Cond.laysFinal "TrainGuard$Curves" "TrainGuard$Curves" "service" "I") : Cond) ∈ x_W := x_inW (i := 297) (by decide +kernel) (by decide +kernel)
theorem xw_lCur_2 : ((Cond.laysFinal "TrainGuard$Curves" "TrainGuard$Curves" "places" "[I") : Cond) ∈ x_W := x_inW (i := 299) (by decide +kernel) (by decide +kernel)
theorem xw_lCur_3 : ((Cond.laysFinal "TrainGuard$Curves" "TrainGuard$Curves" "speeds" "[I") : Cond) ∈ x_W := x_inW (i := 301) (by decide +kernel) (by decide +kernel)
theorem xw_lCur_4 : ((Cond.laysFinal "TrainGuard$Curves" "TrainGuard$Curves" "falls" "[I") : Cond) ∈ x_W := x_inW (i := 303) (by decide +kernel) (by decide +kernel)
theorem xw_lCur_5 : ((Cond.lays "TrainGuard$Curves" "TrainGuard$Curves" "count" "I") : Cond) ∈ x_W := x_inW (i := 305) (by decide +kernel) (by decide +kernel)
theorem xw_lCur_6 : ((Cond.lays "TrainGuard$Curves" "TrainGuard$Curves" "ceiling" "I") : Cond) ∈ x_W := x_inW (i := 307) (by decide +kernel) (by decide +kernel)
theorem xw_lCur_7 : ((Cond.lays "TrainGuard$Curves" "TrainGuard$Curves" "high" "I") : Cond) ∈ x_W := x_inW (i := 309) (by decide +kernel) (by decide +kernel)
theorem xw_lBrk_0 : ((Cond.lays "TrainGuard$Brakes" "TrainGuard$Brakes" "emergency" "Z") : Cond) ∈ x_W := x_inW (i := 249) (by decide +kernel) (by decide +kernel)
theorem xw_lBrk_1 : ((Cond.lays "TrainGuard$Brakes" "TrainGuard$Brakes" "service" "Z") : Cond) ∈ x_W := x_inW (i := 251) (by decide +kernel) (by decide +kernel)
theorem xw_lBrk_2 : ((Cond.lays "TrainGuard$Brakes" "TrainGuard$Brakes" "command" "I") : Cond) ∈ x_W := x_inW (i := 253) (by decide +kernel) (by decide +kernel)
theorem xw_lNot_0 : ((Cond.laysFinal "TrainGuard$Notes" "TrainGuard$Notes" "row" "[I") : Cond) ∈ x_W := x_inW (i := 265) (by decide +kernel) (by decide +kernel)
theorem xw_lNot_1 : ((Cond.lays "TrainGuard$Notes" "TrainGuard$Notes" "count" "I") : Cond) ∈ x_W := x_inW (i := 267) (by decide +kernel) (by decide +kernel)
theorem xw_lNot_2 : ((Cond.lays "TrainGuard$Notes" "TrainGuard$Notes" "next" "I") : Cond) ∈ x_W := x_inW (i := 269) (by decide +kernel) (by decide +kernel)
theorem xw_lMod_0 : ((Cond.laysFinal "TrainGuardModel" "TrainGuardModel" "emergency" "I") : Cond) ∈ x_W := x_inW (i := 771) (by decide +kernel) (by decide +kernel)
theorem xw_lMod_1 : ((Cond.laysFinal "TrainGuardModel" "TrainGuardModel" "service" "I") : Cond) ∈ x_W := x_inW (i := 773) (by decide +kernel) (by decide +kernel)
theorem xw_lMod_2 : ((Cond.laysFinal "TrainGuardModel" "TrainGuardModel" "length" "I") : Cond) ∈ x_W := x_inW (i := 775) (by decide +kernel) (by decide +kernel)
theorem xw_lMod_3 : ((Cond.lays "TrainGuardModel" "TrainGuardModel" "low" "I") : Cond) ∈ x_W := x_inW (i := 777) (by decide +kernel) (by decide +kernel)
theorem xw_lMod_4 : ((Cond.lays "TrainGuardModel" "TrainGuardModel" "high" "I") : Cond) ∈ x_W := x_inW (i := 779) (by decide +kernel) (by decide +kernel)
theorem xw_lMod_5 : ((Cond.lays "TrainGuardModel" "TrainGuardModel" "top" "I") : Cond) ∈ x_W := x_inW (i := 781) (by decide +kernel) (by decide +kernel)
theorem xw_lMod_6 : ((Cond.lays "TrainGuardModel" "TrainGuardModel" "mode" "I") : Cond) ∈ x_W := x_inW (i := 783) (by decide +kernel) (by decide +kernel)
theorem xw_lMod_7 : ((Cond.lays "TrainGuardModel" "TrainGuardModel" "cycles" "I") : Cond) ∈ x_W := x_inW (i := 785) (by decide +kernel) (by decide +kernel)
theorem xw_lMod_8 : ((Cond.lays "TrainGuardModel" "TrainGuardModel" "authority" "Z") : Cond) ∈ x_W := x_inW (i := 787) (by decide +kernel) (by decide +kernel)
theorem xw_lMod_9 : ((Cond.lays "TrainGuardModel" "TrainGuardModel" "end" "I") : Cond) ∈ x_W := x_inW (i := 789) (by decide +kernel) (by decide +kernel)
theorem xw_lMod_10 : ((Cond.lays "TrainGuardModel" "TrainGuardModel" "overlap" "I") : Cond) ∈ x_W := x_inW (i := 791) (by decide +kernel) (by decide +kernel)
theorem xw_lMod_11 : ((Cond.lays "TrainGuardModel" "TrainGuardModel" "authorityMode" "I") : Cond) ∈ x_W := x_inW (i := 793) (by decide +kernel) (by decide +kernel)
theorem xw_lMod_12 : ((Cond.lays "TrainGuardModel" "TrainGuardModel" "staffEnd" "I") : Cond) ∈ x_W := x_inW (i := 795) (by decide +kernel) (by decide +kernel)
theorem xw_lMod_13 : ((Cond.lays "TrainGuardModel" "TrainGuardModel" "steps" "I") : Cond) ∈ x_W := x_inW (i := 797) (by decide +kernel) (by decide +kernel)
theorem xw_lMod_14 : ((Cond.laysFinal "TrainGuardModel" "TrainGuardModel" "stepPlace" "[I") : Cond) ∈ x_W := x_inW (i := 799) (by decide +kernel) (by decide +kernel)
theorem xw_lMod_15 : ((Cond.laysFinal "TrainGuardModel" "TrainGuardModel" "stepLimit" "[I") : Cond) ∈ x_W := x_inW (i := 801) (by decide +kernel) (by decide +kernel)
theorem xw_lMod_16 : ((Cond.lays "TrainGuardModel" "TrainGuardModel" "grades" "I") : Cond) ∈ x_W := x_inW (i := 803) (by decide +kernel) (by decide +kernel)
theorem xw_lMod_17 : ((Cond.laysFinal "TrainGuardModel" "TrainGuardModel" "gradePlace" "[I") : Cond) ∈ x_W := x_inW (i := 805) (by decide +kernel) (by decide +kernel)
theorem xw_lMod_18 : ((Cond.laysFinal "TrainGuardModel" "TrainGuardModel" "gradeFall" "[I") : Cond) ∈ x_W := x_inW (i := 807) (by decide +kernel) (by decide +kernel)
theorem xw_lMod_19 : ((Cond.lays "TrainGuardModel" "TrainGuardModel" "marked" "I") : Cond) ∈ x_W := x_inW (i := 809) (by decide +kernel) (by decide +kernel)
theorem xw_lMod_20 : ((Cond.laysFinal "TrainGuardModel" "TrainGuardModel" "markPlace" "[I") : Cond) ∈ x_W := x_inW (i := 811) (by decide +kernel) (by decide +kernel)
theorem xw_lMod_21 : ((Cond.laysFinal "TrainGuardModel" "TrainGuardModel" "markNumber" "[I") : Cond) ∈ x_W := x_inW (i := 813) (by decide +kernel) (by decide +kernel)
theorem xw_lMod_22 : ((Cond.laysFinal "TrainGuardModel" "TrainGuardModel" "markAccuracy" "[I") : Cond) ∈ x_W := x_inW (i := 815) (by decide +kernel) (by decide +kernel)
theorem xw_lMod_23 : ((Cond.laysFinal "TrainGuardModel" "TrainGuardModel" "passed" "[Z") : Cond) ∈ x_W := x_inW (i := 817) (by decide +kernel) (by decide +kernel)
theorem xw_lMod_24 : ((Cond.lays "TrainGuardModel" "TrainGuardModel" "restrictions" "I") : Cond) ∈ x_W := x_inW (i := 819) (by decide +kernel) (by decide +kernel)
theorem xw_lMod_25 : ((Cond.laysFinal "TrainGuardModel" "TrainGuardModel" "slowNumber" "[I") : Cond) ∈ x_W := x_inW (i := 821) (by decide +kernel) (by decide +kernel)
theorem xw_lMod_26 : ((Cond.laysFinal "TrainGuardModel" "TrainGuardModel" "slowPlace" "[I") : Cond) ∈ x_W := x_inW (i := 823) (by decide +kernel) (by decide +kernel)
theorem xw_lMod_27 : ((Cond.laysFinal "TrainGuardModel" "TrainGuardModel" "slowLength" "[I") : Cond) ∈ x_W := x_inW (i := 825) (by decide +kernel) (by decide +kernel)
theorem xw_lMod_28 : ((Cond.laysFinal "TrainGuardModel" "TrainGuardModel" "slowLimit" "[I") : Cond) ∈ x_W := x_inW (i := 827) (by decide +kernel) (by decide +kernel)
theorem xw_lMod_29 : ((Cond.lays "TrainGuardModel" "TrainGuardModel" "asked" "Z") : Cond) ∈ x_W := x_inW (i := 829) (by decide +kernel) (by decide +kernel)
theorem xw_lMod_30 : ((Cond.lays "TrainGuardModel" "TrainGuardModel" "askedCycles" "I") : Cond) ∈ x_W := x_inW (i := 831) (by decide +kernel) (by decide +kernel)
theorem xw_lMod_31 : ((Cond.lays "TrainGuardModel" "TrainGuardModel" "hard" "Z") : Cond) ∈ x_W := x_inW (i := 833) (by decide +kernel) (by decide +kernel)
theorem xw_lMod_32 : ((Cond.lays "TrainGuardModel" "TrainGuardModel" "soft" "Z") : Cond) ∈ x_W := x_inW (i := 835) (by decide +kernel) (by decide +kernel)
theorem xw_lMod_33 : ((Cond.lays "TrainGuardModel" "TrainGuardModel" "command" "I") : Cond) ∈ x_W := x_inW (i := 837) (by decide +kernel) (by decide +kernel)
theorem xw_lMod_34 : ((Cond.lays "TrainGuardModel" "TrainGuardModel" "latest" "I") : Cond) ∈ x_W := x_inW (i := 839) (by decide +kernel) (by decide +kernel)
theorem xw_lMod_35 : ((Cond.lays "TrainGuardModel" "TrainGuardModel" "size" "I") : Cond) ∈ x_W := x_inW (i := 841) (by decide +kernel) (by decide +kernel)
theorem xw_lMod_36 : ((Cond.laysFinal "TrainGuardModel" "TrainGuardModel" "row" "[I") : Cond) ∈ x_W := x_inW (i := 843) (by decide +kernel) (by decide +kernel)
theorem xw_lMod_37 : ((Cond.lays "TrainGuardModel" "TrainGuardModel" "next" "I") : Cond) ∈ x_W := x_inW (i := 845) (by decide +kernel) (by decide +kernel)
theorem xw_lMod_38 : ((Cond.lays "TrainGuardModel" "TrainGuardModel" "fault" "I") : Cond) ∈ x_W := x_inW (i := 847) (by decide +kernel) (by decide +kernel)
theorem xw_lMod_39 : ((Cond.laysFinal "TrainGuardModel" "TrainGuardModel" "came" "[Z") : Cond) ∈ x_W := x_inW (i := 849) (by decide +kernel) (by decide +kernel)
theorem xw_lMod_40 : ((Cond.laysFinal "TrainGuardModel" "TrainGuardModel" "count" "[I") : Cond) ∈ x_W := x_inW (i := 851) (by decide +kernel) (by decide +kernel)
theorem xw_lMod_41 : ((Cond.laysFinal "TrainGuardModel" "TrainGuardModel" "said" "[I") : Cond) ∈ x_W := x_inW (i := 853) (by decide +kernel) (by decide +kernel)
theorem xw_lMod_42 : ((Cond.lays "TrainGuardModel" "TrainGuardModel" "notes" "I") : Cond) ∈ x_W := x_inW (i := 855) (by decide +kernel) (by decide +kernel)
theorem xw_lMod_43 : ((Cond.laysFinal "TrainGuardModel" "TrainGuardModel" "noted" "[I") : Cond) ∈ x_W := x_inW (i := 857) (by decide +kernel) (by decide +kernel)
theorem xw_iLaw : ((Cond.initialized "TrainGuardLaw") : Cond) ∈ x_W := x_inW (i := 0) (by decide +kernel) (by decide +kernel)
theorem xw_iG : ((Cond.initialized "TrainGuard") : Cond) ∈ x_W := x_inW (i := 1) (by decide +kernel) (by decide +kernel)
theorem xw_iFrt : ((Cond.initialized "TrainGuard$Front") : Cond) ∈ x_W := x_inW (i := 2) (by decide +kernel) (by decide +kernel)
theorem xw_iTrk : ((Cond.initialized "TrainGuard$Track") : Cond) ∈ x_W := x_inW (i := 3) (by decide +kernel) (by decide +kernel)
theorem xw_iSpn : ((Cond.initialized "TrainGuard$SpanRow") : Cond) ∈ x_W := x_inW (i := 4) (by decide +kernel) (by decide +kernel)
theorem xw_iRes : ((Cond.initialized "TrainGuard$Restrictions") : Cond) ∈ x_W := x_inW (i := 5) (by decide +kernel) (by decide +kernel)
theorem xw_iMrk : ((Cond.initialized "TrainGuard$MarkRow") : Cond) ∈ x_W := x_inW (i := 6) (by decide +kernel) (by decide +kernel)
theorem xw_iBit : ((Cond.initialized "TrainGuard$BitRow") : Cond) ∈ x_W := x_inW (i := 7) (by decide +kernel) (by decide +kernel)
theorem xw_iMsg : ((Cond.initialized "TrainGuard$Message") : Cond) ∈ x_W := x_inW (i := 8) (by decide +kernel) (by decide +kernel)
theorem xw_iBrk : ((Cond.initialized "TrainGuard$Brakes") : Cond) ∈ x_W := x_inW (i := 9) (by decide +kernel) (by decide +kernel)
theorem xw_iNot : ((Cond.initialized "TrainGuard$Notes") : Cond) ∈ x_W := x_inW (i := 10) (by decide +kernel) (by decide +kernel)
theorem xw_iMth : ((Cond.initialized "java/lang/Math") : Cond) ∈ x_W := x_inW (i := 11) (by decide +kernel) (by decide +kernel)
theorem xw_iCur : ((Cond.initialized "TrainGuard$Curves") : Cond) ∈ x_W := x_inW (i := 12) (by decide +kernel) (by decide +kernel)
theorem xw_iMod : ((Cond.initialized "TrainGuardModel") : Cond) ∈ x_W := x_inW (i := 13) (by decide +kernel) (by decide +kernel)
theorem xw_kLaw_7 : ((Cond.classLink "TrainGuardLaw" (7 : Nat) "TrainGuard") : Cond) ∈ x_W := x_inW (i := 14) (by decide +kernel) (by decide +kernel)
theorem xw_nG : ((Cond.instantiable "TrainGuard" (14 : Nat)) : Cond) ∈ x_W := x_inW (i := 15) (by decide +kernel) (by decide +kernel)
theorem xw_mLaw_15 : ((Cond.methodLink "TrainGuardLaw" (15 : Nat) ({ cls := "TrainGuard", name := "<init>", desc := "(III)V" } : MethodName)) : Cond) ∈ x_W := x_inW (i := 16) (by decide +kernel) (by decide +kernel)
theorem xw_mG_1 : ((Cond.methodLink "TrainGuard" (1 : Nat) ({ cls := "java/lang/Object", name := "<init>", desc := "()V" } : MethodName)) : Cond) ∈ x_W := x_inW (i := 19) (by decide +kernel) (by decide +kernel)
theorem xw_kG_7 : ((Cond.classLink "TrainGuard" (7 : Nat) "TrainGuard$Front") : Cond) ∈ x_W := x_inW (i := 22) (by decide +kernel) (by decide +kernel)
theorem xw_nFrt : ((Cond.instantiable "TrainGuard$Front" (3 : Nat)) : Cond) ∈ x_W := x_inW (i := 23) (by decide +kernel) (by decide +kernel)
theorem xw_oG_9 : ((Cond.methodLinkNest "TrainGuard" (9 : Nat) ({ cls := "TrainGuard$Front", name := "<init>", desc := "()V" } : MethodName) "TrainGuard") : Cond) ∈ x_N := x_inN (i := 24) (by decide +kernel) (by decide +kernel)
theorem xw_mFrt_1 : ((Cond.methodLink "TrainGuard$Front" (1 : Nat) ({ cls := "java/lang/Object", name := "<init>", desc := "()V" } : MethodName)) : Cond) ∈ x_W := x_inW (i := 27) (by decide +kernel) (by decide +kernel)
theorem xw_fFrt_13 : ((Cond.fieldLink "TrainGuard$Front" (13 : Nat) "TrainGuard$Front" "low" "I") : Cond) ∈ x_W := x_inW (i := 28) (by decide +kernel) (by decide +kernel)
theorem xw_gG_121 : ((Cond.fieldLinkNest "TrainGuard" (121 : Nat) "TrainGuard$Front" "low" "I" "TrainGuard") : Cond) ∈ x_N := x_inN (i := 29) (by decide +kernel) (by decide +kernel)
theorem xw_fFrt_7 : ((Cond.fieldLink "TrainGuard$Front" (7 : Nat) "TrainGuard$Front" "high" "I") : Cond) ∈ x_W := x_inW (i := 30) (by decide +kernel) (by decide +kernel)
theorem xw_gG_115 : ((Cond.fieldLinkNest "TrainGuard" (115 : Nat) "TrainGuard$Front" "high" "I" "TrainGuard") : Cond) ∈ x_N := x_inN (i := 31) (by decide +kernel) (by decide +kernel)
theorem xw_fFrt_16 : ((Cond.fieldLink "TrainGuard$Front" (16 : Nat) "TrainGuard$Front" "top" "I") : Cond) ∈ x_W := x_inW (i := 32) (by decide +kernel) (by decide +kernel)
theorem xw_gG_172 : ((Cond.fieldLinkNest "TrainGuard" (172 : Nat) "TrainGuard$Front" "top" "I" "TrainGuard") : Cond) ∈ x_N := x_inN (i := 33) (by decide +kernel) (by decide +kernel)
theorem xw_kG_16 : ((Cond.classLink "TrainGuard" (16 : Nat) "TrainGuard$Track") : Cond) ∈ x_W := x_inW (i := 41) (by decide +kernel) (by decide +kernel)
theorem xw_nTrk : ((Cond.instantiable "TrainGuard$Track" (8 : Nat)) : Cond) ∈ x_W := x_inW (i := 42) (by decide +kernel) (by decide +kernel)
theorem xw_oG_18 : ((Cond.methodLinkNest "TrainGuard" (18 : Nat) ({ cls := "TrainGuard$Track", name := "<init>", desc := "()V" } : MethodName) "TrainGuard") : Cond) ∈ x_N := x_inN (i := 43) (by decide +kernel) (by decide +kernel)
theorem xw_mTrk_3 : ((Cond.methodLink "TrainGuard$Track" (3 : Nat) ({ cls := "java/lang/Object", name := "<init>", desc := "()V" } : MethodName)) : Cond) ∈ x_W := x_inW (i := 46) (by decide +kernel) (by decide +kernel)
theorem xw_kTrk_9 : ((Cond.classLink "TrainGuard$Track" (9 : Nat) "TrainGuard$SpanRow") : Cond) ∈ x_W := x_inW (i := 47) (by decide +kernel) (by decide +kernel)
theorem xw_nSpn : ((Cond.instantiable "TrainGuard$SpanRow" (4 : Nat)) : Cond) ∈ x_W := x_inW (i := 48) (by decide +kernel) (by decide +kernel)
theorem xw_oTrk_11 : ((Cond.methodLinkNest "TrainGuard$Track" (11 : Nat) ({ cls := "TrainGuard$SpanRow", name := "<init>", desc := "()V" } : MethodName) "TrainGuard") : Cond) ∈ x_N := x_inN (i := 49) (by decide +kernel) (by decide +kernel)
theorem xw_mSpn_3 : ((Cond.methodLink "TrainGuard$SpanRow" (3 : Nat) ({ cls := "java/lang/Object", name := "<init>", desc := "()V" } : MethodName)) : Cond) ∈ x_W := x_inW (i := 52) (by decide +kernel) (by decide +kernel)
theorem xw_fSpn_9 : ((Cond.fieldLink "TrainGuard$SpanRow" (9 : Nat) "TrainGuard$SpanRow" "firsts" "[I") : Cond) ∈ x_W := x_inW (i := 53) (by decide +kernel) (by decide +kernel)
theorem xw_gG_300 : ((Cond.fieldLinkNest "TrainGuard" (300 : Nat) "TrainGuard$SpanRow" "firsts" "[I" "TrainGuard") : Cond) ∈ x_N := x_inN (i := 54) (by decide +kernel) (by decide +kernel)
theorem xw_fSpn_15 : ((Cond.fieldLink "TrainGuard$SpanRow" (15 : Nat) "TrainGuard$SpanRow" "lasts" "[I") : Cond) ∈ x_W := x_inW (i := 55) (by decide +kernel) (by decide +kernel)
theorem xw_fSpn_18 : ((Cond.fieldLink "TrainGuard$SpanRow" (18 : Nat) "TrainGuard$SpanRow" "values" "[I") : Cond) ∈ x_W := x_inW (i := 56) (by decide +kernel) (by decide +kernel)
theorem xw_gG_304 : ((Cond.fieldLinkNest "TrainGuard" (304 : Nat) "TrainGuard$SpanRow" "values" "[I" "TrainGuard") : Cond) ∈ x_N := x_inN (i := 57) (by decide +kernel) (by decide +kernel)
theorem xw_fSpn_21 : ((Cond.fieldLink "TrainGuard$SpanRow" (21 : Nat) "TrainGuard$SpanRow" "count" "I") : Cond) ∈ x_W := x_inW (i := 58) (by decide +kernel) (by decide +kernel)
theorem xw_gRes_22 : ((Cond.fieldLinkNest "TrainGuard$Restrictions" (22 : Nat) "TrainGuard$SpanRow" "count" "I" "TrainGuard") : Cond) ∈ x_N := x_inN (i := 59) (by decide +kernel) (by decide +kernel)
theorem xw_gG_299 : ((Cond.fieldLinkNest "TrainGuard" (299 : Nat) "TrainGuard$SpanRow" "count" "I" "TrainGuard") : Cond) ∈ x_N := x_inN (i := 60) (by decide +kernel) (by decide +kernel)
theorem xw_a_int : ((Cond.arrayClass FieldType.int) : Cond) ∈ x_W := x_inW (i := 70) (by decide +kernel) (by decide +kernel)
theorem xw_kTrk_21 : ((Cond.classLink "TrainGuard$Track" (21 : Nat) "TrainGuard$Restrictions") : Cond) ∈ x_W := x_inW (i := 71) (by decide +kernel) (by decide +kernel)
theorem xw_nRes : ((Cond.instantiable "TrainGuard$Restrictions" (2 : Nat)) : Cond) ∈ x_W := x_inW (i := 72) (by decide +kernel) (by decide +kernel)
theorem xw_oTrk_23 : ((Cond.methodLinkNest "TrainGuard$Track" (23 : Nat) ({ cls := "TrainGuard$Restrictions", name := "<init>", desc := "()V" } : MethodName) "TrainGuard") : Cond) ∈ x_N := x_inN (i := 73) (by decide +kernel) (by decide +kernel)
theorem xw_mRes_3 : ((Cond.methodLink "TrainGuard$Restrictions" (3 : Nat) ({ cls := "java/lang/Object", name := "<init>", desc := "()V" } : MethodName)) : Cond) ∈ x_W := x_inW (i := 76) (by decide +kernel) (by decide +kernel)
theorem xw_kRes_15 : ((Cond.classLink "TrainGuard$Restrictions" (15 : Nat) "TrainGuard$SpanRow") : Cond) ∈ x_W := x_inW (i := 77) (by decide +kernel) (by decide +kernel)
theorem xw_oRes_17 : ((Cond.methodLinkNest "TrainGuard$Restrictions" (17 : Nat) ({ cls := "TrainGuard$SpanRow", name := "<init>", desc := "()V" } : MethodName) "TrainGuard") : Cond) ∈ x_N := x_inN (i := 78) (by decide +kernel) (by decide +kernel)
theorem xw_fRes_9 : ((Cond.fieldLink "TrainGuard$Restrictions" (9 : Nat) "TrainGuard$Restrictions" "numbers" "[I") : Cond) ∈ x_W := x_inW (i := 79) (by decide +kernel) (by decide +kernel)
theorem xw_fRes_18 : ((Cond.fieldLink "TrainGuard$Restrictions" (18 : Nat) "TrainGuard$Restrictions" "spans" "LTrainGuard$SpanRow;") : Cond) ∈ x_W := x_inW (i := 80) (by decide +kernel) (by decide +kernel)
theorem xw_gTrk_51 : ((Cond.fieldLinkNest "TrainGuard$Track" (51 : Nat) "TrainGuard$Restrictions" "spans" "LTrainGuard$SpanRow;" "TrainGuard") : Cond) ∈ x_N := x_inN (i := 81) (by decide +kernel) (by decide +kernel)
theorem xw_gG_293 : ((Cond.fieldLinkNest "TrainGuard" (293 : Nat) "TrainGuard$Restrictions" "spans" "LTrainGuard$SpanRow;" "TrainGuard") : Cond) ∈ x_N := x_inN (i := 82) (by decide +kernel) (by decide +kernel)
theorem xw_kTrk_28 : ((Cond.classLink "TrainGuard$Track" (28 : Nat) "TrainGuard$MarkRow") : Cond) ∈ x_W := x_inW (i := 88) (by decide +kernel) (by decide +kernel)
theorem xw_nMrk : ((Cond.instantiable "TrainGuard$MarkRow" (5 : Nat)) : Cond) ∈ x_W := x_inW (i := 89) (by decide +kernel) (by decide +kernel)
theorem xw_oTrk_30 : ((Cond.methodLinkNest "TrainGuard$Track" (30 : Nat) ({ cls := "TrainGuard$MarkRow", name := "<init>", desc := "()V" } : MethodName) "TrainGuard") : Cond) ∈ x_N := x_inN (i := 90) (by decide +kernel) (by decide +kernel)
theorem xw_mMrk_3 : ((Cond.methodLink "TrainGuard$MarkRow" (3 : Nat) ({ cls := "java/lang/Object", name := "<init>", desc := "()V" } : MethodName)) : Cond) ∈ x_W := x_inW (i := 93) (by decide +kernel) (by decide +kernel)
theorem xw_fMrk_9 : ((Cond.fieldLink "TrainGuard$MarkRow" (9 : Nat) "TrainGuard$MarkRow" "places" "[I") : Cond) ∈ x_W := x_inW (i := 94) (by decide +kernel) (by decide +kernel)
theorem xw_fMrk_15 : ((Cond.fieldLink "TrainGuard$MarkRow" (15 : Nat) "TrainGuard$MarkRow" "numbers" "[I") : Cond) ∈ x_W := x_inW (i := 95) (by decide +kernel) (by decide +kernel)
theorem xw_fMrk_18 : ((Cond.fieldLink "TrainGuard$MarkRow" (18 : Nat) "TrainGuard$MarkRow" "accuracies" "[I") : Cond) ∈ x_W := x_inW (i := 96) (by decide +kernel) (by decide +kernel)
theorem xw_fMrk_21 : ((Cond.fieldLink "TrainGuard$MarkRow" (21 : Nat) "TrainGuard$MarkRow" "passed" "[Z") : Cond) ∈ x_W := x_inW (i := 97) (by decide +kernel) (by decide +kernel)
theorem xw_fMrk_25 : ((Cond.fieldLink "TrainGuard$MarkRow" (25 : Nat) "TrainGuard$MarkRow" "count" "I") : Cond) ∈ x_W := x_inW (i := 98) (by decide +kernel) (by decide +kernel)
theorem xw_a_boolean : ((Cond.arrayClass FieldType.boolean) : Cond) ∈ x_W := x_inW (i := 110) (by decide +kernel) (by decide +kernel)
theorem xw_fTrk_12 : ((Cond.fieldLink "TrainGuard$Track" (12 : Nat) "TrainGuard$Track" "profile" "LTrainGuard$SpanRow;") : Cond) ∈ x_W := x_inW (i := 111) (by decide +kernel) (by decide +kernel)
theorem xw_gG_236 : ((Cond.fieldLinkNest "TrainGuard" (236 : Nat) "TrainGuard$Track" "profile" "LTrainGuard$SpanRow;" "TrainGuard") : Cond) ∈ x_N := x_inN (i := 112) (by decide +kernel) (by decide +kernel)
theorem xw_fTrk_18 : ((Cond.fieldLink "TrainGuard$Track" (18 : Nat) "TrainGuard$Track" "grades" "LTrainGuard$SpanRow;") : Cond) ∈ x_W := x_inW (i := 113) (by decide +kernel) (by decide +kernel)
theorem xw_gG_307 : ((Cond.fieldLinkNest "TrainGuard" (307 : Nat) "TrainGuard$Track" "grades" "LTrainGuard$SpanRow;" "TrainGuard") : Cond) ∈ x_N := x_inN (i := 114) (by decide +kernel) (by decide +kernel)
theorem xw_fTrk_24 : ((Cond.fieldLink "TrainGuard$Track" (24 : Nat) "TrainGuard$Track" "restrictions" "LTrainGuard$Restrictions;") : Cond) ∈ x_W := x_inW (i := 115) (by decide +kernel) (by decide +kernel)
theorem xw_gG_256 : ((Cond.fieldLinkNest "TrainGuard" (256 : Nat) "TrainGuard$Track" "restrictions" "LTrainGuard$Restrictions;" "TrainGuard") : Cond) ∈ x_N := x_inN (i := 116) (by decide +kernel) (by decide +kernel)
theorem xw_fTrk_31 : ((Cond.fieldLink "TrainGuard$Track" (31 : Nat) "TrainGuard$Track" "marks" "LTrainGuard$MarkRow;") : Cond) ∈ x_W := x_inW (i := 117) (by decide +kernel) (by decide +kernel)
theorem xw_gG_101 : ((Cond.fieldLinkNest "TrainGuard" (101 : Nat) "TrainGuard$Track" "marks" "LTrainGuard$MarkRow;" "TrainGuard") : Cond) ∈ x_N := x_inN (i := 118) (by decide +kernel) (by decide +kernel)
theorem xw_fTrk_39 : ((Cond.fieldLink "TrainGuard$Track" (39 : Nat) "TrainGuard$Track" "hasAuthority" "Z") : Cond) ∈ x_W := x_inW (i := 119) (by decide +kernel) (by decide +kernel)
theorem xw_gG_181 : ((Cond.fieldLinkNest "TrainGuard" (181 : Nat) "TrainGuard$Track" "hasAuthority" "Z" "TrainGuard") : Cond) ∈ x_N := x_inN (i := 120) (by decide +kernel) (by decide +kernel)
theorem xw_fTrk_91 : ((Cond.fieldLink "TrainGuard$Track" (91 : Nat) "TrainGuard$Track" "end" "I") : Cond) ∈ x_W := x_inW (i := 121) (by decide +kernel) (by decide +kernel)
theorem xw_gG_184 : ((Cond.fieldLinkNest "TrainGuard" (184 : Nat) "TrainGuard$Track" "end" "I" "TrainGuard") : Cond) ∈ x_N := x_inN (i := 122) (by decide +kernel) (by decide +kernel)
theorem xw_fTrk_95 : ((Cond.fieldLink "TrainGuard$Track" (95 : Nat) "TrainGuard$Track" "overlap" "I") : Cond) ∈ x_W := x_inW (i := 123) (by decide +kernel) (by decide +kernel)
theorem xw_gG_296 : ((Cond.fieldLinkNest "TrainGuard" (296 : Nat) "TrainGuard$Track" "overlap" "I" "TrainGuard") : Cond) ∈ x_N := x_inN (i := 124) (by decide +kernel) (by decide +kernel)
theorem xw_fTrk_35 : ((Cond.fieldLink "TrainGuard$Track" (35 : Nat) "TrainGuard$Track" "endMode" "I") : Cond) ∈ x_W := x_inW (i := 125) (by decide +kernel) (by decide +kernel)
theorem xw_gG_233 : ((Cond.fieldLinkNest "TrainGuard" (233 : Nat) "TrainGuard$Track" "endMode" "I" "TrainGuard") : Cond) ∈ x_N := x_inN (i := 126) (by decide +kernel) (by decide +kernel)
theorem xw_kG_23 : ((Cond.classLink "TrainGuard" (23 : Nat) "TrainGuard$BitRow") : Cond) ∈ x_W := x_inW (i := 144) (by decide +kernel) (by decide +kernel)
theorem xw_nBit : ((Cond.instantiable "TrainGuard$BitRow" (4 : Nat)) : Cond) ∈ x_W := x_inW (i := 145) (by decide +kernel) (by decide +kernel)
theorem xw_oG_25 : ((Cond.methodLinkNest "TrainGuard" (25 : Nat) ({ cls := "TrainGuard$BitRow", name := "<init>", desc := "()V" } : MethodName) "TrainGuard") : Cond) ∈ x_N := x_inN (i := 146) (by decide +kernel) (by decide +kernel)
theorem xw_mBit_3 : ((Cond.methodLink "TrainGuard$BitRow" (3 : Nat) ({ cls := "java/lang/Object", name := "<init>", desc := "()V" } : MethodName)) : Cond) ∈ x_W := x_inW (i := 149) (by decide +kernel) (by decide +kernel)
theorem xw_fBit_9 : ((Cond.fieldLink "TrainGuard$BitRow" (9 : Nat) "TrainGuard$BitRow" "row" "[B") : Cond) ∈ x_W := x_inW (i := 150) (by decide +kernel) (by decide +kernel)
theorem xw_fBit_15 : ((Cond.fieldLink "TrainGuard$BitRow" (15 : Nat) "TrainGuard$BitRow" "count" "I") : Cond) ∈ x_W := x_inW (i := 151) (by decide +kernel) (by decide +kernel)
theorem xw_gMsg_56 : ((Cond.fieldLinkNest "TrainGuard$Message" (56 : Nat) "TrainGuard$BitRow" "count" "I" "TrainGuard") : Cond) ∈ x_N := x_inN (i := 152) (by decide +kernel) (by decide +kernel)
theorem xw_gG_175 : ((Cond.fieldLinkNest "TrainGuard" (175 : Nat) "TrainGuard$BitRow" "count" "I" "TrainGuard") : Cond) ∈ x_N := x_inN (i := 153) (by decide +kernel) (by decide +kernel)
theorem xw_fBit_19 : ((Cond.fieldLink "TrainGuard$BitRow" (19 : Nat) "TrainGuard$BitRow" "position" "I") : Cond) ∈ x_W := x_inW (i := 154) (by decide +kernel) (by decide +kernel)
theorem xw_gMsg_81 : ((Cond.fieldLinkNest "TrainGuard$Message" (81 : Nat) "TrainGuard$BitRow" "fault" "I" "TrainGuard") : Cond) ∈ x_N := x_inN (i := 155) (by decide +kernel) (by decide +kernel)
theorem xw_fBit_22 : ((Cond.fieldLink "TrainGuard$BitRow" (22 : Nat) "TrainGuard$BitRow" "fault" "I") : Cond) ∈ x_W := x_inW (i := 156) (by decide +kernel) (by decide +kernel)
theorem xw_a_byte : ((Cond.arrayClass FieldType.byte) : Cond) ∈ x_W := x_inW (i := 166) (by decide +kernel) (by decide +kernel)
theorem xw_kG_30 : ((Cond.classLink "TrainGuard" (30 : Nat) "TrainGuard$Message") : Cond) ∈ x_W := x_inW (i := 167) (by decide +kernel) (by decide +kernel)
theorem xw_nMsg : ((Cond.instantiable "TrainGuard$Message" (14 : Nat)) : Cond) ∈ x_W := x_inW (i := 168) (by decide +kernel) (by decide +kernel)
theorem xw_oG_32 : ((Cond.methodLinkNest "TrainGuard" (32 : Nat) ({ cls := "TrainGuard$Message", name := "<init>", desc := "()V" } : MethodName) "TrainGuard") : Cond) ∈ x_N := x_inN (i := 169) (by decide +kernel) (by decide +kernel)
theorem xw_mMsg_3 : ((Cond.methodLink "TrainGuard$Message" (3 : Nat) ({ cls := "java/lang/Object", name := "<init>", desc := "()V" } : MethodName)) : Cond) ∈ x_W := x_inW (i := 172) (by decide +kernel) (by decide +kernel)
theorem xw_fMsg_9 : ((Cond.fieldLink "TrainGuard$Message" (9 : Nat) "TrainGuard$Message" "IDS" "[I") : Cond) ∈ x_W := x_inW (i := 173) (by decide +kernel) (by decide +kernel)
theorem xw_ls : Cond.laysStatic "TrainGuard$Message" "IDS" "[I" ∈ lw_tbl := List.mem_append_right _ (List.mem_of_getElem? (i := 174) (by decide +kernel))
theorem xw_kMsg_19 : ((Cond.classLink "TrainGuard$Message" (19 : Nat) "TrainGuard$MarkRow") : Cond) ∈ x_W := x_inW (i := 175) (by decide +kernel) (by decide +kernel)
theorem xw_oMsg_21 : ((Cond.methodLinkNest "TrainGuard$Message" (21 : Nat) ({ cls := "TrainGuard$MarkRow", name := "<init>", desc := "()V" } : MethodName) "TrainGuard") : Cond) ∈ x_N := x_inN (i := 176) (by decide +kernel) (by decide +kernel)
theorem xw_kMsg_26 : ((Cond.classLink "TrainGuard$Message" (26 : Nat) "TrainGuard$SpanRow") : Cond) ∈ x_W := x_inW (i := 177) (by decide +kernel) (by decide +kernel)
theorem xw_oMsg_28 : ((Cond.methodLinkNest "TrainGuard$Message" (28 : Nat) ({ cls := "TrainGuard$SpanRow", name := "<init>", desc := "()V" } : MethodName) "TrainGuard") : Cond) ∈ x_N := x_inN (i := 178) (by decide +kernel) (by decide +kernel)
theorem xw_fMsg_15 : ((Cond.fieldLink "TrainGuard$Message" (15 : Nat) "TrainGuard$Message" "came" "[Z") : Cond) ∈ x_W := x_inW (i := 179) (by decide +kernel) (by decide +kernel)
theorem xw_gTrk_59 : ((Cond.fieldLinkNest "TrainGuard$Track" (59 : Nat) "TrainGuard$Message" "came" "[Z" "TrainGuard") : Cond) ∈ x_N := x_inN (i := 180) (by decide +kernel) (by decide +kernel)
theorem xw_gG_248 : ((Cond.fieldLinkNest "TrainGuard" (248 : Nat) "TrainGuard$Message" "came" "[Z" "TrainGuard") : Cond) ∈ x_N := x_inN (i := 181) (by decide +kernel) (by decide +kernel)
theorem xw_fMsg_22 : ((Cond.fieldLink "TrainGuard$Message" (22 : Nat) "TrainGuard$Message" "marks" "LTrainGuard$MarkRow;") : Cond) ∈ x_W := x_inW (i := 182) (by decide +kernel) (by decide +kernel)
theorem xw_gTrk_103 : ((Cond.fieldLinkNest "TrainGuard$Track" (103 : Nat) "TrainGuard$Message" "marks" "LTrainGuard$MarkRow;" "TrainGuard") : Cond) ∈ x_N := x_inN (i := 183) (by decide +kernel) (by decide +kernel)
theorem xw_fMsg_29 : ((Cond.fieldLink "TrainGuard$Message" (29 : Nat) "TrainGuard$Message" "grades" "LTrainGuard$SpanRow;") : Cond) ∈ x_W := x_inW (i := 184) (by decide +kernel) (by decide +kernel)
theorem xw_gTrk_102 : ((Cond.fieldLinkNest "TrainGuard$Track" (102 : Nat) "TrainGuard$Message" "grades" "LTrainGuard$SpanRow;" "TrainGuard") : Cond) ∈ x_N := x_inN (i := 185) (by decide +kernel) (by decide +kernel)
theorem xw_fMsg_33 : ((Cond.fieldLink "TrainGuard$Message" (33 : Nat) "TrainGuard$Message" "profile" "LTrainGuard$SpanRow;") : Cond) ∈ x_W := x_inW (i := 186) (by decide +kernel) (by decide +kernel)
theorem xw_gTrk_97 : ((Cond.fieldLinkNest "TrainGuard$Track" (97 : Nat) "TrainGuard$Message" "profile" "LTrainGuard$SpanRow;" "TrainGuard") : Cond) ∈ x_N := x_inN (i := 187) (by decide +kernel) (by decide +kernel)
theorem xw_fMsg_49 : ((Cond.fieldLink "TrainGuard$Message" (49 : Nat) "TrainGuard$Message" "kind" "I") : Cond) ∈ x_W := x_inW (i := 188) (by decide +kernel) (by decide +kernel)
theorem xw_gG_92 : ((Cond.fieldLinkNest "TrainGuard" (92 : Nat) "TrainGuard$Message" "kind" "I" "TrainGuard") : Cond) ∈ x_N := x_inN (i := 189) (by decide +kernel) (by decide +kernel)
theorem xw_gG_95 : ((Cond.fieldLinkNest "TrainGuard" (95 : Nat) "TrainGuard$Message" "time" "I" "TrainGuard") : Cond) ∈ x_N := x_inN (i := 190) (by decide +kernel) (by decide +kernel)
theorem xw_fMsg_59 : ((Cond.fieldLink "TrainGuard$Message" (59 : Nat) "TrainGuard$Message" "time" "I") : Cond) ∈ x_W := x_inW (i := 191) (by decide +kernel) (by decide +kernel)
theorem xw_fMsg_66 : ((Cond.fieldLink "TrainGuard$Message" (66 : Nat) "TrainGuard$Message" "end" "I") : Cond) ∈ x_W := x_inW (i := 192) (by decide +kernel) (by decide +kernel)
theorem xw_gTrk_88 : ((Cond.fieldLinkNest "TrainGuard$Track" (88 : Nat) "TrainGuard$Message" "end" "I" "TrainGuard") : Cond) ∈ x_N := x_inN (i := 193) (by decide +kernel) (by decide +kernel)
theorem xw_gG_252 : ((Cond.fieldLinkNest "TrainGuard" (252 : Nat) "TrainGuard$Message" "end" "I" "TrainGuard") : Cond) ∈ x_N := x_inN (i := 194) (by decide +kernel) (by decide +kernel)
theorem xw_gTrk_92 : ((Cond.fieldLinkNest "TrainGuard$Track" (92 : Nat) "TrainGuard$Message" "overlap" "I" "TrainGuard") : Cond) ∈ x_N := x_inN (i := 195) (by decide +kernel) (by decide +kernel)
theorem xw_fMsg_115 : ((Cond.fieldLink "TrainGuard$Message" (115 : Nat) "TrainGuard$Message" "overlap" "I") : Cond) ∈ x_W := x_inW (i := 196) (by decide +kernel) (by decide +kernel)
theorem xw_gTrk_96 : ((Cond.fieldLinkNest "TrainGuard$Track" (96 : Nat) "TrainGuard$Message" "endMode" "I" "TrainGuard") : Cond) ∈ x_N := x_inN (i := 197) (by decide +kernel) (by decide +kernel)
theorem xw_fMsg_118 : ((Cond.fieldLink "TrainGuard$Message" (118 : Nat) "TrainGuard$Message" "endMode" "I") : Cond) ∈ x_W := x_inW (i := 198) (by decide +kernel) (by decide +kernel)
theorem xw_gTrk_72 : ((Cond.fieldLinkNest "TrainGuard$Track" (72 : Nat) "TrainGuard$Message" "number" "I" "TrainGuard") : Cond) ∈ x_N := x_inN (i := 199) (by decide +kernel) (by decide +kernel)
theorem xw_fMsg_129 : ((Cond.fieldLink "TrainGuard$Message" (129 : Nat) "TrainGuard$Message" "number" "I") : Cond) ∈ x_W := x_inW (i := 200) (by decide +kernel) (by decide +kernel)
theorem xw_gG_260 : ((Cond.fieldLinkNest "TrainGuard" (260 : Nat) "TrainGuard$Message" "number" "I" "TrainGuard") : Cond) ∈ x_N := x_inN (i := 201) (by decide +kernel) (by decide +kernel)
theorem xw_gTrk_75 : ((Cond.fieldLinkNest "TrainGuard$Track" (75 : Nat) "TrainGuard$Message" "from" "I" "TrainGuard") : Cond) ∈ x_N := x_inN (i := 202) (by decide +kernel) (by decide +kernel)
theorem xw_fMsg_132 : ((Cond.fieldLink "TrainGuard$Message" (132 : Nat) "TrainGuard$Message" "from" "I") : Cond) ∈ x_W := x_inW (i := 203) (by decide +kernel) (by decide +kernel)
theorem xw_gTrk_78 : ((Cond.fieldLinkNest "TrainGuard$Track" (78 : Nat) "TrainGuard$Message" "reach" "I" "TrainGuard") : Cond) ∈ x_N := x_inN (i := 204) (by decide +kernel) (by decide +kernel)
theorem xw_fMsg_135 : ((Cond.fieldLink "TrainGuard$Message" (135 : Nat) "TrainGuard$Message" "reach" "I") : Cond) ∈ x_W := x_inW (i := 205) (by decide +kernel) (by decide +kernel)
theorem xw_gTrk_81 : ((Cond.fieldLinkNest "TrainGuard$Track" (81 : Nat) "TrainGuard$Message" "speed" "I" "TrainGuard") : Cond) ∈ x_N := x_inN (i := 206) (by decide +kernel) (by decide +kernel)
theorem xw_fMsg_138 : ((Cond.fieldLink "TrainGuard$Message" (138 : Nat) "TrainGuard$Message" "speed" "I") : Cond) ∈ x_W := x_inW (i := 207) (by decide +kernel) (by decide +kernel)
theorem xw_fMsg_36 : ((Cond.fieldLink "TrainGuard$Message" (36 : Nat) "TrainGuard$Message" "ended" "I") : Cond) ∈ x_W := x_inW (i := 208) (by decide +kernel) (by decide +kernel)
theorem xw_gTrk_65 : ((Cond.fieldLinkNest "TrainGuard$Track" (65 : Nat) "TrainGuard$Message" "ended" "I" "TrainGuard") : Cond) ∈ x_N := x_inN (i := 209) (by decide +kernel) (by decide +kernel)
theorem xw_kG_37 : ((Cond.classLink "TrainGuard" (37 : Nat) "TrainGuard$Brakes") : Cond) ∈ x_W := x_inW (i := 239) (by decide +kernel) (by decide +kernel)
theorem xw_nBrk : ((Cond.instantiable "TrainGuard$Brakes" (3 : Nat)) : Cond) ∈ x_W := x_inW (i := 240) (by decide +kernel) (by decide +kernel)
theorem xw_oG_39 : ((Cond.methodLinkNest "TrainGuard" (39 : Nat) ({ cls := "TrainGuard$Brakes", name := "<init>", desc := "()V" } : MethodName) "TrainGuard") : Cond) ∈ x_N := x_inN (i := 241) (by decide +kernel) (by decide +kernel)
theorem xw_mBrk_3 : ((Cond.methodLink "TrainGuard$Brakes" (3 : Nat) ({ cls := "java/lang/Object", name := "<init>", desc := "()V" } : MethodName)) : Cond) ∈ x_W := x_inW (i := 244) (by decide +kernel) (by decide +kernel)
theorem xw_fBrk_9 : ((Cond.fieldLink "TrainGuard$Brakes" (9 : Nat) "TrainGuard$Brakes" "emergency" "Z") : Cond) ∈ x_W := x_inW (i := 245) (by decide +kernel) (by decide +kernel)
theorem xw_fBrk_15 : ((Cond.fieldLink "TrainGuard$Brakes" (15 : Nat) "TrainGuard$Brakes" "service" "Z") : Cond) ∈ x_W := x_inW (i := 246) (by decide +kernel) (by decide +kernel)
theorem xw_fBrk_18 : ((Cond.fieldLink "TrainGuard$Brakes" (18 : Nat) "TrainGuard$Brakes" "command" "I") : Cond) ∈ x_W := x_inW (i := 247) (by decide +kernel) (by decide +kernel)
theorem xw_gG_163 : ((Cond.fieldLinkNest "TrainGuard" (163 : Nat) "TrainGuard$Brakes" "command" "I" "TrainGuard") : Cond) ∈ x_N := x_inN (i := 248) (by decide +kernel) (by decide +kernel)
theorem xw_kG_44 : ((Cond.classLink "TrainGuard" (44 : Nat) "TrainGuard$Notes") : Cond) ∈ x_W := x_inW (i := 256) (by decide +kernel) (by decide +kernel)
theorem xw_nNot : ((Cond.instantiable "TrainGuard$Notes" (3 : Nat)) : Cond) ∈ x_W := x_inW (i := 257) (by decide +kernel) (by decide +kernel)
theorem xw_oG_46 : ((Cond.methodLinkNest "TrainGuard" (46 : Nat) ({ cls := "TrainGuard$Notes", name := "<init>", desc := "()V" } : MethodName) "TrainGuard") : Cond) ∈ x_N := x_inN (i := 258) (by decide +kernel) (by decide +kernel)
theorem xw_mNot_3 : ((Cond.methodLink "TrainGuard$Notes" (3 : Nat) ({ cls := "java/lang/Object", name := "<init>", desc := "()V" } : MethodName)) : Cond) ∈ x_W := x_inW (i := 261) (by decide +kernel) (by decide +kernel)
theorem xw_fNot_9 : ((Cond.fieldLink "TrainGuard$Notes" (9 : Nat) "TrainGuard$Notes" "row" "[I") : Cond) ∈ x_W := x_inW (i := 262) (by decide +kernel) (by decide +kernel)
theorem xw_fNot_19 : ((Cond.fieldLink "TrainGuard$Notes" (19 : Nat) "TrainGuard$Notes" "count" "I") : Cond) ∈ x_W := x_inW (i := 263) (by decide +kernel) (by decide +kernel)
theorem xw_fNot_15 : ((Cond.fieldLink "TrainGuard$Notes" (15 : Nat) "TrainGuard$Notes" "next" "I") : Cond) ∈ x_W := x_inW (i := 264) (by decide +kernel) (by decide +kernel)
theorem xw_mG_58 : ((Cond.methodLink "TrainGuard" (58 : Nat) ({ cls := "TrainGuard", name := "within", desc := "(III)I" } : MethodName)) : Cond) ∈ x_W := x_inW (i := 272) (by decide +kernel) (by decide +kernel)
theorem xw_mG_212 : ((Cond.methodLink "TrainGuard" (212 : Nat) ({ cls := "java/lang/Math", name := "min", desc := "(II)I" } : MethodName)) : Cond) ∈ x_W := x_inW (i := 275) (by decide +kernel) (by decide +kernel)
theorem xw_mG_187 : ((Cond.methodLink "TrainGuard" (187 : Nat) ({ cls := "java/lang/Math", name := "max", desc := "(II)I" } : MethodName)) : Cond) ∈ x_W := x_inW (i := 278) (by decide +kernel) (by decide +kernel)
theorem xw_kG_62 : ((Cond.classLink "TrainGuard" (62 : Nat) "TrainGuard$Curves") : Cond) ∈ x_W := x_inW (i := 281) (by decide +kernel) (by decide +kernel)
theorem xw_nCur : ((Cond.instantiable "TrainGuard$Curves" (8 : Nat)) : Cond) ∈ x_W := x_inW (i := 282) (by decide +kernel) (by decide +kernel)
theorem xw_mG_64 : ((Cond.methodLink "TrainGuard" (64 : Nat) ({ cls := "TrainGuard$Curves", name := "<init>", desc := "(II)V" } : MethodName)) : Cond) ∈ x_W := x_inW (i := 283) (by decide +kernel) (by decide +kernel)
theorem xw_mCur_3 : ((Cond.methodLink "TrainGuard$Curves" (3 : Nat) ({ cls := "java/lang/Object", name := "<init>", desc := "()V" } : MethodName)) : Cond) ∈ x_W := x_inW (i := 286) (by decide +kernel) (by decide +kernel)
theorem xw_fCur_21 : ((Cond.fieldLink "TrainGuard$Curves" (21 : Nat) "TrainGuard$Curves" "emergency" "I") : Cond) ∈ x_W := x_inW (i := 287) (by decide +kernel) (by decide +kernel)
theorem xw_fCur_25 : ((Cond.fieldLink "TrainGuard$Curves" (25 : Nat) "TrainGuard$Curves" "service" "I") : Cond) ∈ x_W := x_inW (i := 288) (by decide +kernel) (by decide +kernel)
theorem xw_fCur_11 : ((Cond.fieldLink "TrainGuard$Curves" (11 : Nat) "TrainGuard$Curves" "places" "[I") : Cond) ∈ x_W := x_inW (i := 289) (by decide +kernel) (by decide +kernel)
theorem xw_fCur_15 : ((Cond.fieldLink "TrainGuard$Curves" (15 : Nat) "TrainGuard$Curves" "speeds" "[I") : Cond) ∈ x_W := x_inW (i := 290) (by decide +kernel) (by decide +kernel)
theorem xw_fCur_18 : ((Cond.fieldLink "TrainGuard$Curves" (18 : Nat) "TrainGuard$Curves" "falls" "[I") : Cond) ∈ x_W := x_inW (i := 291) (by decide +kernel) (by decide +kernel)
theorem xw_fCur_34 : ((Cond.fieldLink "TrainGuard$Curves" (34 : Nat) "TrainGuard$Curves" "count" "I") : Cond) ∈ x_W := x_inW (i := 292) (by decide +kernel) (by decide +kernel)
theorem xw_fCur_28 : ((Cond.fieldLink "TrainGuard$Curves" (28 : Nat) "TrainGuard$Curves" "ceiling" "I") : Cond) ∈ x_W := x_inW (i := 293) (by decide +kernel) (by decide +kernel)
theorem xw_fCur_31 : ((Cond.fieldLink "TrainGuard$Curves" (31 : Nat) "TrainGuard$Curves" "high" "I") : Cond) ∈ x_W := x_inW (i := 294) (by decide +kernel) (by decide +kernel)
theorem xw_fG_71 : ((Cond.fieldLink "TrainGuard" (71 : Nat) "TrainGuard" "length" "I") : Cond) ∈ x_W := x_inW (i := 312) (by decide +kernel) (by decide +kernel)
theorem xw_fG_10 : ((Cond.fieldLink "TrainGuard" (10 : Nat) "TrainGuard" "front" "LTrainGuard$Front;") : Cond) ∈ x_W := x_inW (i := 313) (by decide +kernel) (by decide +kernel)
theorem xw_fG_19 : ((Cond.fieldLink "TrainGuard" (19 : Nat) "TrainGuard" "track" "LTrainGuard$Track;") : Cond) ∈ x_W := x_inW (i := 314) (by decide +kernel) (by decide +kernel)
theorem xw_fG_26 : ((Cond.fieldLink "TrainGuard" (26 : Nat) "TrainGuard" "bitRow" "LTrainGuard$BitRow;") : Cond) ∈ x_W := x_inW (i := 315) (by decide +kernel) (by decide +kernel)
theorem xw_fG_33 : ((Cond.fieldLink "TrainGuard" (33 : Nat) "TrainGuard" "received" "LTrainGuard$Message;") : Cond) ∈ x_W := x_inW (i := 316) (by decide +kernel) (by decide +kernel)
theorem xw_fG_67 : ((Cond.fieldLink "TrainGuard" (67 : Nat) "TrainGuard" "curves" "LTrainGuard$Curves;") : Cond) ∈ x_W := x_inW (i := 317) (by decide +kernel) (by decide +kernel)
theorem xw_fG_40 : ((Cond.fieldLink "TrainGuard" (40 : Nat) "TrainGuard" "brakes" "LTrainGuard$Brakes;") : Cond) ∈ x_W := x_inW (i := 318) (by decide +kernel) (by decide +kernel)
theorem xw_fG_47 : ((Cond.fieldLink "TrainGuard" (47 : Nat) "TrainGuard" "notes" "LTrainGuard$Notes;") : Cond) ∈ x_W := x_inW (i := 319) (by decide +kernel) (by decide +kernel)
theorem xw_fG_51 : ((Cond.fieldLink "TrainGuard" (51 : Nat) "TrainGuard" "modeNow" "I") : Cond) ∈ x_W := x_inW (i := 320) (by decide +kernel) (by decide +kernel)
theorem xw_fG_230 : ((Cond.fieldLink "TrainGuard" (230 : Nat) "TrainGuard" "staffEnd" "I") : Cond) ∈ x_W := x_inW (i := 321) (by decide +kernel) (by decide +kernel)
theorem xw_fG_137 : ((Cond.fieldLink "TrainGuard" (137 : Nat) "TrainGuard" "cycles" "I") : Cond) ∈ x_W := x_inW (i := 322) (by decide +kernel) (by decide +kernel)
theorem xw_fG_55 : ((Cond.fieldLink "TrainGuard" (55 : Nat) "TrainGuard" "latestTime" "I") : Cond) ∈ x_W := x_inW (i := 323) (by decide +kernel) (by decide +kernel)
theorem xw_fG_149 : ((Cond.fieldLink "TrainGuard" (149 : Nat) "TrainGuard" "asked" "Z") : Cond) ∈ x_W := x_inW (i := 324) (by decide +kernel) (by decide +kernel)
theorem xw_fG_153 : ((Cond.fieldLink "TrainGuard" (153 : Nat) "TrainGuard" "askedCycles" "I") : Cond) ∈ x_W := x_inW (i := 325) (by decide +kernel) (by decide +kernel)
theorem xw_mLaw_21 : ((Cond.methodLink "TrainGuardLaw" (21 : Nat) ({ cls := "TrainGuard", name := "bits", desc := "(II)Z" } : MethodName)) : Cond) ∈ x_W := x_inW (i := 355) (by decide +kernel) (by decide +kernel)
theorem xw_mG_74 : ((Cond.methodLink "TrainGuard" (74 : Nat) ({ cls := "TrainGuard$BitRow", name := "put", desc := "(II)Z" } : MethodName)) : Cond) ∈ x_W := x_inW (i := 359) (by decide +kernel) (by decide +kernel)
theorem xw_mLaw_26 : ((Cond.methodLink "TrainGuardLaw" (26 : Nat) ({ cls := "TrainGuard", name := "message", desc := "()I" } : MethodName)) : Cond) ∈ x_W := x_inW (i := 363) (by decide +kernel) (by decide +kernel)
theorem xw_mG_78 : ((Cond.methodLink "TrainGuard" (78 : Nat) ({ cls := "TrainGuard$Message", name := "readFrom", desc := "(LTrainGuard$BitRow;I)I" } : MethodName)) : Cond) ∈ x_W := x_inW (i := 367) (by decide +kernel) (by decide +kernel)
theorem xw_mMsg_40 : ((Cond.methodLink "TrainGuard$Message" (40 : Nat) ({ cls := "TrainGuard$BitRow", name := "begin", desc := "()V" } : MethodName)) : Cond) ∈ x_W := x_inW (i := 371) (by decide +kernel) (by decide +kernel)
theorem xw_mMsg_45 : ((Cond.methodLink "TrainGuard$Message" (45 : Nat) ({ cls := "TrainGuard$BitRow", name := "take", desc := "(I)I" } : MethodName)) : Cond) ∈ x_W := x_inW (i := 375) (by decide +kernel) (by decide +kernel)
theorem xw_mMsg_52 : ((Cond.methodLink "TrainGuard$Message" (52 : Nat) ({ cls := "TrainGuard$BitRow", name := "need", desc := "(ZI)V" } : MethodName)) : Cond) ∈ x_W := x_inW (i := 379) (by decide +kernel) (by decide +kernel)
theorem xw_mMsg_62 : ((Cond.methodLink "TrainGuard$Message" (62 : Nat) ({ cls := "TrainGuard$Message", name := "takePlace", desc := "(LTrainGuard$BitRow;)I" } : MethodName)) : Cond) ∈ x_W := x_inW (i := 383) (by decide +kernel) (by decide +kernel)
theorem xw_mMsg_69 : ((Cond.methodLink "TrainGuard$Message" (69 : Nat) ({ cls := "TrainGuard$BitRow", name := "isSound", desc := "()Z" } : MethodName)) : Cond) ∈ x_W := x_inW (i := 386) (by decide +kernel) (by decide +kernel)
theorem xw_mMsg_73 : ((Cond.methodLink "TrainGuard$Message" (73 : Nat) ({ cls := "TrainGuard$BitRow", name := "left", desc := "()I" } : MethodName)) : Cond) ∈ x_W := x_inW (i := 390) (by decide +kernel) (by decide +kernel)
theorem xw_mMsg_77 : ((Cond.methodLink "TrainGuard$Message" (77 : Nat) ({ cls := "TrainGuard$Message", name := "readPacket", desc := "(LTrainGuard$BitRow;)V" } : MethodName)) : Cond) ∈ x_W := x_inW (i := 394) (by decide +kernel) (by decide +kernel)
theorem xw_mMsg_84 : ((Cond.methodLink "TrainGuard$Message" (84 : Nat) ({ cls := "TrainGuard$Message", name := "slotOf", desc := "(I)I" } : MethodName)) : Cond) ∈ x_W := x_inW (i := 398) (by decide +kernel) (by decide +kernel)
theorem xw_mMsg_87 : ((Cond.methodLink "TrainGuard$Message" (87 : Nat) ({ cls := "TrainGuard$Message", name := "readNumbers", desc := "(LTrainGuard$BitRow;I)V" } : MethodName)) : Cond) ∈ x_W := x_inW (i := 401) (by decide +kernel) (by decide +kernel)
theorem xw_mMsg_91 : ((Cond.methodLink "TrainGuard$Message" (91 : Nat) ({ cls := "TrainGuard$Message", name := "readMarks", desc := "(LTrainGuard$BitRow;)V" } : MethodName)) : Cond) ∈ x_W := x_inW (i := 405) (by decide +kernel) (by decide +kernel)
theorem xw_mMsg_104 : ((Cond.methodLink "TrainGuard$Message" (104 : Nat) ({ cls := "TrainGuard$MarkRow", name := "clear", desc := "()V" } : MethodName)) : Cond) ∈ x_W := x_inW (i := 409) (by decide +kernel) (by decide +kernel)
theorem xw_mMsg_107 : ((Cond.methodLink "TrainGuard$Message" (107 : Nat) ({ cls := "TrainGuard$Message", name := "takePlaceBehind", desc := "(LTrainGuard$BitRow;I)I" } : MethodName)) : Cond) ∈ x_W := x_inW (i := 413) (by decide +kernel) (by decide +kernel)
theorem xw_mMsg_111 : ((Cond.methodLink "TrainGuard$Message" (111 : Nat) ({ cls := "TrainGuard$MarkRow", name := "add", desc := "(III)V" } : MethodName)) : Cond) ∈ x_W := x_inW (i := 416) (by decide +kernel) (by decide +kernel)
theorem xw_mMsg_94 : ((Cond.methodLink "TrainGuard$Message" (94 : Nat) ({ cls := "TrainGuard$Message", name := "readAuthority", desc := "(LTrainGuard$BitRow;)V" } : MethodName)) : Cond) ∈ x_W := x_inW (i := 420) (by decide +kernel) (by decide +kernel)
theorem xw_mMsg_97 : ((Cond.methodLink "TrainGuard$Message" (97 : Nat) ({ cls := "TrainGuard$Message", name := "readSteps", desc := "(LTrainGuard$BitRow;LTrainGuard$SpanRow;Z)V" } : MethodName)) : Cond) ∈ x_W := x_inW (i := 424) (by decide +kernel) (by decide +kernel)
theorem xw_mMsg_121 : ((Cond.methodLink "TrainGuard$Message" (121 : Nat) ({ cls := "TrainGuard$SpanRow", name := "clear", desc := "()V" } : MethodName)) : Cond) ∈ x_W := x_inW (i := 428) (by decide +kernel) (by decide +kernel)
theorem xw_mMsg_122 : ((Cond.methodLink "TrainGuard$Message" (122 : Nat) ({ cls := "TrainGuard$Message", name := "takeLimit", desc := "(LTrainGuard$BitRow;)I" } : MethodName)) : Cond) ∈ x_W := x_inW (i := 432) (by decide +kernel) (by decide +kernel)
theorem xw_mMsg_141 : ((Cond.methodLink "TrainGuard$Message" (141 : Nat) ({ cls := "java/lang/Math", name := "min", desc := "(II)I" } : MethodName)) : Cond) ∈ x_W := x_inW (i := 435) (by decide +kernel) (by decide +kernel)
theorem xw_mMsg_125 : ((Cond.methodLink "TrainGuard$Message" (125 : Nat) ({ cls := "TrainGuard$SpanRow", name := "addStep", desc := "(II)V" } : MethodName)) : Cond) ∈ x_W := x_inW (i := 436) (by decide +kernel) (by decide +kernel)
theorem xw_c : ((Cond.constant "TrainGuard$SpanRow" (25 : Nat) (2147483647 : Int32)) : Cond) ∈ x_W := x_inW (i := 440) (by decide +kernel) (by decide +kernel)
theorem xw_mSpn_26 : ((Cond.methodLink "TrainGuard$SpanRow" (26 : Nat) ({ cls := "TrainGuard$SpanRow", name := "add", desc := "(III)V" } : MethodName)) : Cond) ∈ x_W := x_inW (i := 441) (by decide +kernel) (by decide +kernel)
theorem xw_mMsg_101 : ((Cond.methodLink "TrainGuard$Message" (101 : Nat) ({ cls := "TrainGuard$Message", name := "readRestriction", desc := "(LTrainGuard$BitRow;)V" } : MethodName)) : Cond) ∈ x_W := x_inW (i := 445) (by decide +kernel) (by decide +kernel)
theorem xw_mG_82 : ((Cond.methodLink "TrainGuard" (82 : Nat) ({ cls := "TrainGuard$BitRow", name := "clear", desc := "()V" } : MethodName)) : Cond) ∈ x_W := x_inW (i := 449) (by decide +kernel) (by decide +kernel)
theorem xw_mG_85 : ((Cond.methodLink "TrainGuard" (85 : Nat) ({ cls := "TrainGuard", name := "faultOfReceived", desc := "()I" } : MethodName)) : Cond) ∈ x_W := x_inW (i := 453) (by decide +kernel) (by decide +kernel)
theorem xw_mG_221 : ((Cond.methodLink "TrainGuard" (221 : Nat) ({ cls := "TrainGuard", name := "isGuided", desc := "()Z" } : MethodName)) : Cond) ∈ x_W := x_inW (i := 457) (by decide +kernel) (by decide +kernel)
theorem xw_mG_253 : ((Cond.methodLink "TrainGuard" (253 : Nat) ({ cls := "TrainGuard", name := "gradeWithEnd", desc := "(I)I" } : MethodName)) : Cond) ∈ x_W := x_inW (i := 461) (by decide +kernel) (by decide +kernel)
theorem xw_mG_193 : ((Cond.methodLink "TrainGuard" (193 : Nat) ({ cls := "TrainGuard", name := "isStopped", desc := "()Z" } : MethodName)) : Cond) ∈ x_W := x_inW (i := 465) (by decide +kernel) (by decide +kernel)
theorem xw_mG_274 : ((Cond.methodLink "TrainGuard" (274 : Nat) ({ cls := "TrainGuard", name := "lookAhead", desc := "(I)V" } : MethodName)) : Cond) ∈ x_W := x_inW (i := 469) (by decide +kernel) (by decide +kernel)
theorem xw_mG_197 : ((Cond.methodLink "TrainGuard" (197 : Nat) ({ cls := "TrainGuard", name := "ceilingNow", desc := "()I" } : MethodName)) : Cond) ∈ x_W := x_inW (i := 473) (by decide +kernel) (by decide +kernel)
theorem xw_mG_200 : ((Cond.methodLink "TrainGuard" (200 : Nat) ({ cls := "TrainGuard$Track", name := "leastLimit", desc := "(II)I" } : MethodName)) : Cond) ∈ x_W := x_inW (i := 477) (by decide +kernel) (by decide +kernel)
theorem xw_mTrk_47 : ((Cond.methodLink "TrainGuard$Track" (47 : Nat) ({ cls := "TrainGuard$SpanRow", name := "least", desc := "(II)I" } : MethodName)) : Cond) ∈ x_W := x_inW (i := 481) (by decide +kernel) (by decide +kernel)
theorem xw_mTrk_54 : ((Cond.methodLink "TrainGuard$Track" (54 : Nat) ({ cls := "java/lang/Math", name := "min", desc := "(II)I" } : MethodName)) : Cond) ∈ x_W := x_inW (i := 485) (by decide +kernel) (by decide +kernel)
theorem xw_mG_283 : ((Cond.methodLink "TrainGuard" (283 : Nat) ({ cls := "TrainGuard$Curves", name := "begin", desc := "(II)V" } : MethodName)) : Cond) ∈ x_W := x_inW (i := 486) (by decide +kernel) (by decide +kernel)
theorem xw_mG_286 : ((Cond.methodLink "TrainGuard" (286 : Nat) ({ cls := "TrainGuard", name := "addTarget", desc := "(II)V" } : MethodName)) : Cond) ∈ x_W := x_inW (i := 490) (by decide +kernel) (by decide +kernel)
theorem xw_mG_310 : ((Cond.methodLink "TrainGuard" (310 : Nat) ({ cls := "TrainGuard$SpanRow", name := "greatest", desc := "(II)I" } : MethodName)) : Cond) ∈ x_W := x_inW (i := 494) (by decide +kernel) (by decide +kernel)
theorem xw_mG_313 : ((Cond.methodLink "TrainGuard" (313 : Nat) ({ cls := "TrainGuard$Curves", name := "add", desc := "(III)V" } : MethodName)) : Cond) ∈ x_W := x_inW (i := 498) (by decide +kernel) (by decide +kernel)
theorem xw_mG_289 : ((Cond.methodLink "TrainGuard" (289 : Nat) ({ cls := "TrainGuard", name := "addTargetsOf", desc := "(LTrainGuard$SpanRow;)V" } : MethodName)) : Cond) ∈ x_W := x_inW (i := 502) (by decide +kernel) (by decide +kernel)
theorem xw_mG_277 : ((Cond.methodLink "TrainGuard" (277 : Nat) ({ cls := "TrainGuard$Curves", name := "gradeOf", desc := "(I)I" } : MethodName)) : Cond) ∈ x_W := x_inW (i := 506) (by decide +kernel) (by decide +kernel)
theorem xw_mCur_37 : ((Cond.methodLink "TrainGuard$Curves" (37 : Nat) ({ cls := "TrainGuard$Curves", name := "isOverEmergency", desc := "(I)Z" } : MethodName)) : Cond) ∈ x_W := x_inW (i := 510) (by decide +kernel) (by decide +kernel)
theorem xw_mCur_49 : ((Cond.methodLink "TrainGuard$Curves" (49 : Nat) ({ cls := "TrainGuard$Curves", name := "isOver", desc := "(IIIII)Z" } : MethodName)) : Cond) ∈ x_W := x_inW (i := 514) (by decide +kernel) (by decide +kernel)
theorem xw_oCur_53 : ((Cond.methodLinkNest "TrainGuard$Curves" (53 : Nat) ({ cls := "TrainGuard", name := "brakingWay", desc := "(III)I" } : MethodName) "TrainGuard") : Cond) ∈ x_N := x_inN (i := 518) (by decide +kernel) (by decide +kernel)
theorem xw_mCur_41 : ((Cond.methodLink "TrainGuard$Curves" (41 : Nat) ({ cls := "TrainGuard$Curves", name := "isOverService", desc := "(II)Z" } : MethodName)) : Cond) ∈ x_W := x_inW (i := 521) (by decide +kernel) (by decide +kernel)
theorem xw_mG_263 : ((Cond.methodLink "TrainGuard" (263 : Nat) ({ cls := "TrainGuard$Message", name := "endedNumber", desc := "()I" } : MethodName)) : Cond) ∈ x_W := x_inW (i := 525) (by decide +kernel) (by decide +kernel)
theorem xw_mG_266 : ((Cond.methodLink "TrainGuard" (266 : Nat) ({ cls := "TrainGuard$Restrictions", name := "hasRoom", desc := "(II)Z" } : MethodName)) : Cond) ∈ x_W := x_inW (i := 529) (by decide +kernel) (by decide +kernel)
theorem xw_mRes_26 : ((Cond.methodLink "TrainGuard$Restrictions" (26 : Nat) ({ cls := "TrainGuard$Restrictions", name := "indexOf", desc := "(I)I" } : MethodName)) : Cond) ∈ x_W := x_inW (i := 533) (by decide +kernel) (by decide +kernel)
theorem xw_mG_89 : ((Cond.methodLink "TrainGuard" (89 : Nat) ({ cls := "TrainGuard", name := "write", desc := "(II)V" } : MethodName)) : Cond) ∈ x_W := x_inW (i := 537) (by decide +kernel) (by decide +kernel)
theorem xw_mG_215 : ((Cond.methodLink "TrainGuard" (215 : Nat) ({ cls := "TrainGuard$Notes", name := "add", desc := "(I)V" } : MethodName)) : Cond) ∈ x_W := x_inW (i := 541) (by decide +kernel) (by decide +kernel)
theorem xw_mG_98 : ((Cond.methodLink "TrainGuard" (98 : Nat) ({ cls := "TrainGuard", name := "obeyReceived", desc := "()V" } : MethodName)) : Cond) ∈ x_W := x_inW (i := 545) (by decide +kernel) (by decide +kernel)
theorem xw_mG_224 : ((Cond.methodLink "TrainGuard" (224 : Nat) ({ cls := "TrainGuard", name := "trip", desc := "()V" } : MethodName)) : Cond) ∈ x_W := x_inW (i := 549) (by decide +kernel) (by decide +kernel)
theorem xw_mG_140 : ((Cond.methodLink "TrainGuard" (140 : Nat) ({ cls := "TrainGuard", name := "become", desc := "(I)V" } : MethodName)) : Cond) ∈ x_W := x_inW (i := 553) (by decide +kernel) (by decide +kernel)
theorem xw_mG_218 : ((Cond.methodLink "TrainGuard" (218 : Nat) ({ cls := "TrainGuard$Track", name := "forget", desc := "()V" } : MethodName)) : Cond) ∈ x_W := x_inW (i := 557) (by decide +kernel) (by decide +kernel)
theorem xw_mTrk_43 : ((Cond.methodLink "TrainGuard$Track" (43 : Nat) ({ cls := "TrainGuard$SpanRow", name := "clear", desc := "()V" } : MethodName)) : Cond) ∈ x_W := x_inW (i := 561) (by decide +kernel) (by decide +kernel)
theorem xw_mTrk_46 : ((Cond.methodLink "TrainGuard$Track" (46 : Nat) ({ cls := "TrainGuard$MarkRow", name := "clear", desc := "()V" } : MethodName)) : Cond) ∈ x_W := x_inW (i := 562) (by decide +kernel) (by decide +kernel)
theorem xw_mG_271 : ((Cond.methodLink "TrainGuard" (271 : Nat) ({ cls := "TrainGuard$Track", name := "put", desc := "(LTrainGuard$Message;I)V" } : MethodName)) : Cond) ∈ x_W := x_inW (i := 563) (by decide +kernel) (by decide +kernel)
theorem xw_mTrk_68 : ((Cond.methodLink "TrainGuard$Track" (68 : Nat) ({ cls := "TrainGuard$Restrictions", name := "remove", desc := "(I)V" } : MethodName)) : Cond) ∈ x_W := x_inW (i := 567) (by decide +kernel) (by decide +kernel)
theorem xw_mRes_30 : ((Cond.methodLink "TrainGuard$Restrictions" (30 : Nat) ({ cls := "TrainGuard$SpanRow", name := "fillFromLast", desc := "(I)V" } : MethodName)) : Cond) ∈ x_W := x_inW (i := 571) (by decide +kernel) (by decide +kernel)
theorem xw_mTrk_84 : ((Cond.methodLink "TrainGuard$Track" (84 : Nat) ({ cls := "TrainGuard$Restrictions", name := "put", desc := "(IIII)V" } : MethodName)) : Cond) ∈ x_W := x_inW (i := 575) (by decide +kernel) (by decide +kernel)
theorem xw_mRes_34 : ((Cond.methodLink "TrainGuard$Restrictions" (34 : Nat) ({ cls := "TrainGuard$Restrictions", name := "remove", desc := "(I)V" } : MethodName)) : Cond) ∈ x_W := x_inW (i := 579) (by decide +kernel) (by decide +kernel)
theorem xw_mRes_37 : ((Cond.methodLink "TrainGuard$Restrictions" (37 : Nat) ({ cls := "TrainGuard$SpanRow", name := "add", desc := "(III)V" } : MethodName)) : Cond) ∈ x_W := x_inW (i := 580) (by decide +kernel) (by decide +kernel)
theorem xw_mTrk_98 : ((Cond.methodLink "TrainGuard$Track" (98 : Nat) ({ cls := "TrainGuard$SpanRow", name := "copyFrom", desc := "(LTrainGuard$SpanRow;)V" } : MethodName)) : Cond) ∈ x_W := x_inW (i := 581) (by decide +kernel) (by decide +kernel)
theorem xw_mSpn_30 : ((Cond.methodLink "TrainGuard$SpanRow" (30 : Nat) ({ cls := "TrainGuard$SpanRow", name := "clear", desc := "()V" } : MethodName)) : Cond) ∈ x_W := x_inW (i := 585) (by decide +kernel) (by decide +kernel)
theorem xw_mTrk_104 : ((Cond.methodLink "TrainGuard$Track" (104 : Nat) ({ cls := "TrainGuard$MarkRow", name := "copyFrom", desc := "(LTrainGuard$MarkRow;)V" } : MethodName)) : Cond) ∈ x_W := x_inW (i := 586) (by decide +kernel) (by decide +kernel)
theorem xw_mMrk_29 : ((Cond.methodLink "TrainGuard$MarkRow" (29 : Nat) ({ cls := "TrainGuard$MarkRow", name := "clear", desc := "()V" } : MethodName)) : Cond) ∈ x_W := x_inW (i := 590) (by decide +kernel) (by decide +kernel)
theorem xw_mMrk_32 : ((Cond.methodLink "TrainGuard$MarkRow" (32 : Nat) ({ cls := "TrainGuard$MarkRow", name := "add", desc := "(III)V" } : MethodName)) : Cond) ∈ x_W := x_inW (i := 591) (by decide +kernel) (by decide +kernel)
theorem xw_mTrk_107 : ((Cond.methodLink "TrainGuard$Track" (107 : Nat) ({ cls := "TrainGuard$MarkRow", name := "passBehind", desc := "(I)Z" } : MethodName)) : Cond) ∈ x_W := x_inW (i := 592) (by decide +kernel) (by decide +kernel)
theorem xw_mMrk_36 : ((Cond.methodLink "TrainGuard$MarkRow" (36 : Nat) ({ cls := "TrainGuard$MarkRow", name := "latest", desc := "(I)I" } : MethodName)) : Cond) ∈ x_W := x_inW (i := 596) (by decide +kernel) (by decide +kernel)
theorem xw_mG_240 : ((Cond.methodLink "TrainGuard" (240 : Nat) ({ cls := "TrainGuard$SpanRow", name := "isEmpty", desc := "()Z" } : MethodName)) : Cond) ∈ x_W := x_inW (i := 600) (by decide +kernel) (by decide +kernel)
theorem xw_mG_245 : ((Cond.methodLink "TrainGuard" (245 : Nat) ({ cls := "TrainGuard", name := "enterModeOfAuthority", desc := "()V" } : MethodName)) : Cond) ∈ x_W := x_inW (i := 604) (by decide +kernel) (by decide +kernel)
theorem xw_mLaw_31 : ((Cond.methodLink "TrainGuardLaw" (31 : Nat) ({ cls := "TrainGuard", name := "mark", desc := "(I)Z" } : MethodName)) : Cond) ∈ x_W := x_inW (i := 608) (by decide +kernel) (by decide +kernel)
theorem xw_mG_105 : ((Cond.methodLink "TrainGuard" (105 : Nat) ({ cls := "TrainGuard$MarkRow", name := "firstOpen", desc := "(I)I" } : MethodName)) : Cond) ∈ x_W := x_inW (i := 612) (by decide +kernel) (by decide +kernel)
theorem xw_mG_111 : ((Cond.methodLink "TrainGuard" (111 : Nat) ({ cls := "TrainGuard$MarkRow", name := "anyOpenBefore", desc := "(I)Z" } : MethodName)) : Cond) ∈ x_W := x_inW (i := 616) (by decide +kernel) (by decide +kernel)
theorem xw_mG_118 : ((Cond.methodLink "TrainGuard" (118 : Nat) ({ cls := "TrainGuard$MarkRow", name := "earliest", desc := "(I)I" } : MethodName)) : Cond) ∈ x_W := x_inW (i := 620) (by decide +kernel) (by decide +kernel)
theorem xw_mG_124 : ((Cond.methodLink "TrainGuard" (124 : Nat) ({ cls := "TrainGuard$MarkRow", name := "latest", desc := "(I)I" } : MethodName)) : Cond) ∈ x_W := x_inW (i := 624) (by decide +kernel) (by decide +kernel)
theorem xw_mG_127 : ((Cond.methodLink "TrainGuard" (127 : Nat) ({ cls := "TrainGuard$MarkRow", name := "passUpTo", desc := "(I)V" } : MethodName)) : Cond) ∈ x_W := x_inW (i := 625) (by decide +kernel) (by decide +kernel)
theorem xw_mG_131 : ((Cond.methodLink "TrainGuard" (131 : Nat) ({ cls := "TrainGuard", name := "faultOfMarks", desc := "()V" } : MethodName)) : Cond) ∈ x_W := x_inW (i := 629) (by decide +kernel) (by decide +kernel)
theorem xw_mG_134 : ((Cond.methodLink "TrainGuard" (134 : Nat) ({ cls := "TrainGuard$Front", name := "narrow", desc := "(II)V" } : MethodName)) : Cond) ∈ x_W := x_inW (i := 633) (by decide +kernel) (by decide +kernel)
theorem xw_mFrt_19 : ((Cond.methodLink "TrainGuard$Front" (19 : Nat) ({ cls := "java/lang/Math", name := "max", desc := "(II)I" } : MethodName)) : Cond) ∈ x_W := x_inW (i := 637) (by decide +kernel) (by decide +kernel)
theorem xw_mFrt_25 : ((Cond.methodLink "TrainGuard$Front" (25 : Nat) ({ cls := "java/lang/Math", name := "min", desc := "(II)I" } : MethodName)) : Cond) ∈ x_W := x_inW (i := 638) (by decide +kernel) (by decide +kernel)
theorem xw_mLaw_36 : ((Cond.methodLink "TrainGuardLaw" (36 : Nat) ({ cls := "TrainGuard", name := "cycle", desc := "(I)I" } : MethodName)) : Cond) ∈ x_W := x_inW (i := 639) (by decide +kernel) (by decide +kernel)
theorem xw_mG_143 : ((Cond.methodLink "TrainGuard" (143 : Nat) ({ cls := "TrainGuard$Front", name := "advance", desc := "(I)V" } : MethodName)) : Cond) ∈ x_W := x_inW (i := 643) (by decide +kernel) (by decide +kernel)
theorem xw_mG_146 : ((Cond.methodLink "TrainGuard" (146 : Nat) ({ cls := "TrainGuard", name := "lookForTrip", desc := "()V" } : MethodName)) : Cond) ∈ x_W := x_inW (i := 647) (by decide +kernel) (by decide +kernel)
theorem xw_mG_227 : ((Cond.methodLink "TrainGuard" (227 : Nat) ({ cls := "TrainGuard$MarkRow", name := "passBehind", desc := "(I)Z" } : MethodName)) : Cond) ∈ x_W := x_inW (i := 651) (by decide +kernel) (by decide +kernel)
theorem xw_mG_156 : ((Cond.methodLink "TrainGuard" (156 : Nat) ({ cls := "TrainGuard", name := "gradeNow", desc := "()I" } : MethodName)) : Cond) ∈ x_W := x_inW (i := 652) (by decide +kernel) (by decide +kernel)
theorem xw_mG_159 : ((Cond.methodLink "TrainGuard" (159 : Nat) ({ cls := "TrainGuard$Brakes", name := "apply", desc := "(IZZ)Z" } : MethodName)) : Cond) ∈ x_W := x_inW (i := 656) (by decide +kernel) (by decide +kernel)
theorem xw_mLaw_41 : ((Cond.methodLink "TrainGuardLaw" (41 : Nat) ({ cls := "TrainGuard", name := "driver", desc := "(I)Z" } : MethodName)) : Cond) ∈ x_W := x_inW (i := 660) (by decide +kernel) (by decide +kernel)
theorem xw_mG_166 : ((Cond.methodLink "TrainGuard" (166 : Nat) ({ cls := "TrainGuard", name := "driverMay", desc := "(I)Z" } : MethodName)) : Cond) ∈ x_W := x_inW (i := 664) (by decide +kernel) (by decide +kernel)
theorem xw_mG_169 : ((Cond.methodLink "TrainGuard" (169 : Nat) ({ cls := "TrainGuard", name := "start", desc := "()V" } : MethodName)) : Cond) ∈ x_W := x_inW (i := 668) (by decide +kernel) (by decide +kernel)
theorem xw_mLaw_45 : ((Cond.methodLink "TrainGuardLaw" (45 : Nat) ({ cls := "TrainGuard", name := "mode", desc := "()I" } : MethodName)) : Cond) ∈ x_W := x_inW (i := 672) (by decide +kernel) (by decide +kernel)
theorem xw_mLaw_49 : ((Cond.methodLink "TrainGuardLaw" (49 : Nat) ({ cls := "TrainGuard", name := "state", desc := "(I)I" } : MethodName)) : Cond) ∈ x_W := x_inW (i := 676) (by decide +kernel) (by decide +kernel)
theorem xw_mLaw_53 : ((Cond.methodLink "TrainGuardLaw" (53 : Nat) ({ cls := "TrainGuard", name := "display", desc := "(I)I" } : MethodName)) : Cond) ∈ x_W := x_inW (i := 680) (by decide +kernel) (by decide +kernel)
theorem xw_mG_178 : ((Cond.methodLink "TrainGuard" (178 : Nat) ({ cls := "TrainGuard", name := "allowedNow", desc := "()I" } : MethodName)) : Cond) ∈ x_W := x_inW (i := 684) (by decide +kernel) (by decide +kernel)
theorem xw_mG_280 : ((Cond.methodLink "TrainGuard" (280 : Nat) ({ cls := "TrainGuard$Curves", name := "allowed", desc := "()I" } : MethodName)) : Cond) ∈ x_W := x_inW (i := 688) (by decide +kernel) (by decide +kernel)
theorem xw_mCur_45 : ((Cond.methodLink "TrainGuard$Curves" (45 : Nat) ({ cls := "TrainGuard$Curves", name := "gradeOf", desc := "(I)I" } : MethodName)) : Cond) ∈ x_W := x_inW (i := 692) (by decide +kernel) (by decide +kernel)
theorem xw_mLaw_57 : ((Cond.methodLink "TrainGuardLaw" (57 : Nat) ({ cls := "TrainGuard", name := "limit", desc := "(I)I" } : MethodName)) : Cond) ∈ x_W := x_inW (i := 693) (by decide +kernel) (by decide +kernel)
theorem xw_mLaw_61 : ((Cond.methodLink "TrainGuardLaw" (61 : Nat) ({ cls := "TrainGuard", name := "way", desc := "(III)I" } : MethodName)) : Cond) ∈ x_W := x_inW (i := 697) (by decide +kernel) (by decide +kernel)
theorem xw_mG_203 : ((Cond.methodLink "TrainGuard" (203 : Nat) ({ cls := "TrainGuard", name := "brakingWay", desc := "(III)I" } : MethodName)) : Cond) ∈ x_W := x_inW (i := 701) (by decide +kernel) (by decide +kernel)
theorem xw_mLaw_66 : ((Cond.methodLink "TrainGuardLaw" (66 : Nat) ({ cls := "TrainGuard", name := "marks", desc := "(I)I" } : MethodName)) : Cond) ∈ x_W := x_inW (i := 702) (by decide +kernel) (by decide +kernel)
theorem xw_mG_206 : ((Cond.methodLink "TrainGuard" (206 : Nat) ({ cls := "TrainGuard$MarkRow", name := "shown", desc := "(I)I" } : MethodName)) : Cond) ∈ x_W := x_inW (i := 706) (by decide +kernel) (by decide +kernel)
theorem xw_mLaw_70 : ((Cond.methodLink "TrainGuardLaw" (70 : Nat) ({ cls := "TrainGuard", name := "note", desc := "(I)I" } : MethodName)) : Cond) ∈ x_W := x_inW (i := 710) (by decide +kernel) (by decide +kernel)
theorem xw_mG_209 : ((Cond.methodLink "TrainGuard" (209 : Nat) ({ cls := "TrainGuard$Notes", name := "get", desc := "(I)I" } : MethodName)) : Cond) ∈ x_W := x_inW (i := 714) (by decide +kernel) (by decide +kernel)
theorem xw_mLaw_9 : ((Cond.methodLink "TrainGuardLaw" (9 : Nat) ({ cls := "TrainGuardLaw", name := "cell", desc := "([II)I" } : MethodName)) : Cond) ∈ x_W := x_inW (i := 718) (by decide +kernel) (by decide +kernel)
theorem xw_kLaw_18 : ((Cond.classLink "TrainGuardLaw" (18 : Nat) "TrainGuardModel") : Cond) ∈ x_W := x_inW (i := 721) (by decide +kernel) (by decide +kernel)
theorem xw_nMod : ((Cond.instantiable "TrainGuardModel" (44 : Nat)) : Cond) ∈ x_W := x_inW (i := 722) (by decide +kernel) (by decide +kernel)
theorem xw_mLaw_20 : ((Cond.methodLink "TrainGuardLaw" (20 : Nat) ({ cls := "TrainGuardModel", name := "<init>", desc := "(III)V" } : MethodName)) : Cond) ∈ x_W := x_inW (i := 723) (by decide +kernel) (by decide +kernel)
theorem xw_mMod_1 : ((Cond.methodLink "TrainGuardModel" (1 : Nat) ({ cls := "java/lang/Object", name := "<init>", desc := "()V" } : MethodName)) : Cond) ∈ x_W := x_inW (i := 726) (by decide +kernel) (by decide +kernel)
theorem xw_fMod_66 : ((Cond.fieldLink "TrainGuardModel" (66 : Nat) "TrainGuardModel" "emergency" "I") : Cond) ∈ x_W := x_inW (i := 727) (by decide +kernel) (by decide +kernel)
theorem xw_fMod_69 : ((Cond.fieldLink "TrainGuardModel" (69 : Nat) "TrainGuardModel" "service" "I") : Cond) ∈ x_W := x_inW (i := 728) (by decide +kernel) (by decide +kernel)
theorem xw_fMod_72 : ((Cond.fieldLink "TrainGuardModel" (72 : Nat) "TrainGuardModel" "length" "I") : Cond) ∈ x_W := x_inW (i := 729) (by decide +kernel) (by decide +kernel)
theorem xw_fMod_189 : ((Cond.fieldLink "TrainGuardModel" (189 : Nat) "TrainGuardModel" "low" "I") : Cond) ∈ x_W := x_inW (i := 730) (by decide +kernel) (by decide +kernel)
theorem xw_fMod_195 : ((Cond.fieldLink "TrainGuardModel" (195 : Nat) "TrainGuardModel" "high" "I") : Cond) ∈ x_W := x_inW (i := 731) (by decide +kernel) (by decide +kernel)
theorem xw_fMod_158 : ((Cond.fieldLink "TrainGuardModel" (158 : Nat) "TrainGuardModel" "top" "I") : Cond) ∈ x_W := x_inW (i := 732) (by decide +kernel) (by decide +kernel)
theorem xw_fMod_81 : ((Cond.fieldLink "TrainGuardModel" (81 : Nat) "TrainGuardModel" "mode" "I") : Cond) ∈ x_W := x_inW (i := 733) (by decide +kernel) (by decide +kernel)
theorem xw_fMod_75 : ((Cond.fieldLink "TrainGuardModel" (75 : Nat) "TrainGuardModel" "cycles" "I") : Cond) ∈ x_W := x_inW (i := 734) (by decide +kernel) (by decide +kernel)
theorem xw_fMod_88 : ((Cond.fieldLink "TrainGuardModel" (88 : Nat) "TrainGuardModel" "authority" "Z") : Cond) ∈ x_W := x_inW (i := 735) (by decide +kernel) (by decide +kernel)
theorem xw_fMod_151 : ((Cond.fieldLink "TrainGuardModel" (151 : Nat) "TrainGuardModel" "end" "I") : Cond) ∈ x_W := x_inW (i := 736) (by decide +kernel) (by decide +kernel)
theorem xw_fMod_183 : ((Cond.fieldLink "TrainGuardModel" (183 : Nat) "TrainGuardModel" "overlap" "I") : Cond) ∈ x_W := x_inW (i := 737) (by decide +kernel) (by decide +kernel)
theorem xw_fMod_108 : ((Cond.fieldLink "TrainGuardModel" (108 : Nat) "TrainGuardModel" "authorityMode" "I") : Cond) ∈ x_W := x_inW (i := 738) (by decide +kernel) (by decide +kernel)
theorem xw_fMod_216 : ((Cond.fieldLink "TrainGuardModel" (216 : Nat) "TrainGuardModel" "staffEnd" "I") : Cond) ∈ x_W := x_inW (i := 739) (by decide +kernel) (by decide +kernel)
theorem xw_fMod_92 : ((Cond.fieldLink "TrainGuardModel" (92 : Nat) "TrainGuardModel" "steps" "I") : Cond) ∈ x_W := x_inW (i := 740) (by decide +kernel) (by decide +kernel)
theorem xw_fMod_7 : ((Cond.fieldLink "TrainGuardModel" (7 : Nat) "TrainGuardModel" "stepPlace" "[I") : Cond) ∈ x_W := x_inW (i := 741) (by decide +kernel) (by decide +kernel)
theorem xw_fMod_13 : ((Cond.fieldLink "TrainGuardModel" (13 : Nat) "TrainGuardModel" "stepLimit" "[I") : Cond) ∈ x_W := x_inW (i := 742) (by decide +kernel) (by decide +kernel)
theorem xw_fMod_95 : ((Cond.fieldLink "TrainGuardModel" (95 : Nat) "TrainGuardModel" "grades" "I") : Cond) ∈ x_W := x_inW (i := 743) (by decide +kernel) (by decide +kernel)
theorem xw_fMod_16 : ((Cond.fieldLink "TrainGuardModel" (16 : Nat) "TrainGuardModel" "gradePlace" "[I") : Cond) ∈ x_W := x_inW (i := 744) (by decide +kernel) (by decide +kernel)
theorem xw_fMod_19 : ((Cond.fieldLink "TrainGuardModel" (19 : Nat) "TrainGuardModel" "gradeFall" "[I") : Cond) ∈ x_W := x_inW (i := 745) (by decide +kernel) (by decide +kernel)
theorem xw_fMod_98 : ((Cond.fieldLink "TrainGuardModel" (98 : Nat) "TrainGuardModel" "marked" "I") : Cond) ∈ x_W := x_inW (i := 746) (by decide +kernel) (by decide +kernel)
theorem xw_fMod_22 : ((Cond.fieldLink "TrainGuardModel" (22 : Nat) "TrainGuardModel" "markPlace" "[I") : Cond) ∈ x_W := x_inW (i := 747) (by decide +kernel) (by decide +kernel)
theorem xw_fMod_25 : ((Cond.fieldLink "TrainGuardModel" (25 : Nat) "TrainGuardModel" "markNumber" "[I") : Cond) ∈ x_W := x_inW (i := 748) (by decide +kernel) (by decide +kernel)
theorem xw_fMod_28 : ((Cond.fieldLink "TrainGuardModel" (28 : Nat) "TrainGuardModel" "markAccuracy" "[I") : Cond) ∈ x_W := x_inW (i := 749) (by decide +kernel) (by decide +kernel)
theorem xw_fMod_31 : ((Cond.fieldLink "TrainGuardModel" (31 : Nat) "TrainGuardModel" "passed" "[Z") : Cond) ∈ x_W := x_inW (i := 750) (by decide +kernel) (by decide +kernel)
theorem xw_fMod_171 : ((Cond.fieldLink "TrainGuardModel" (171 : Nat) "TrainGuardModel" "restrictions" "I") : Cond) ∈ x_W := x_inW (i := 751) (by decide +kernel) (by decide +kernel)
theorem xw_fMod_35 : ((Cond.fieldLink "TrainGuardModel" (35 : Nat) "TrainGuardModel" "slowNumber" "[I") : Cond) ∈ x_W := x_inW (i := 752) (by decide +kernel) (by decide +kernel)
theorem xw_fMod_38 : ((Cond.fieldLink "TrainGuardModel" (38 : Nat) "TrainGuardModel" "slowPlace" "[I") : Cond) ∈ x_W := x_inW (i := 753) (by decide +kernel) (by decide +kernel)
theorem xw_fMod_41 : ((Cond.fieldLink "TrainGuardModel" (41 : Nat) "TrainGuardModel" "slowLength" "[I") : Cond) ∈ x_W := x_inW (i := 754) (by decide +kernel) (by decide +kernel)
theorem xw_fMod_44 : ((Cond.fieldLink "TrainGuardModel" (44 : Nat) "TrainGuardModel" "slowLimit" "[I") : Cond) ∈ x_W := x_inW (i := 755) (by decide +kernel) (by decide +kernel)
theorem xw_fMod_101 : ((Cond.fieldLink "TrainGuardModel" (101 : Nat) "TrainGuardModel" "asked" "Z") : Cond) ∈ x_W := x_inW (i := 756) (by decide +kernel) (by decide +kernel)
theorem xw_fMod_111 : ((Cond.fieldLink "TrainGuardModel" (111 : Nat) "TrainGuardModel" "askedCycles" "I") : Cond) ∈ x_W := x_inW (i := 757) (by decide +kernel) (by decide +kernel)
theorem xw_fMod_222 : ((Cond.fieldLink "TrainGuardModel" (222 : Nat) "TrainGuardModel" "hard" "Z") : Cond) ∈ x_W := x_inW (i := 758) (by decide +kernel) (by decide +kernel)
theorem xw_fMod_225 : ((Cond.fieldLink "TrainGuardModel" (225 : Nat) "TrainGuardModel" "soft" "Z") : Cond) ∈ x_W := x_inW (i := 759) (by decide +kernel) (by decide +kernel)
theorem xw_fMod_228 : ((Cond.fieldLink "TrainGuardModel" (228 : Nat) "TrainGuardModel" "command" "I") : Cond) ∈ x_W := x_inW (i := 760) (by decide +kernel) (by decide +kernel)
theorem xw_fMod_47 : ((Cond.fieldLink "TrainGuardModel" (47 : Nat) "TrainGuardModel" "latest" "I") : Cond) ∈ x_W := x_inW (i := 761) (by decide +kernel) (by decide +kernel)
theorem xw_fMod_114 : ((Cond.fieldLink "TrainGuardModel" (114 : Nat) "TrainGuardModel" "size" "I") : Cond) ∈ x_W := x_inW (i := 762) (by decide +kernel) (by decide +kernel)
theorem xw_fMod_51 : ((Cond.fieldLink "TrainGuardModel" (51 : Nat) "TrainGuardModel" "row" "[I") : Cond) ∈ x_W := x_inW (i := 763) (by decide +kernel) (by decide +kernel)
theorem xw_fMod_120 : ((Cond.fieldLink "TrainGuardModel" (120 : Nat) "TrainGuardModel" "next" "I") : Cond) ∈ x_W := x_inW (i := 764) (by decide +kernel) (by decide +kernel)
theorem xw_fMod_117 : ((Cond.fieldLink "TrainGuardModel" (117 : Nat) "TrainGuardModel" "fault" "I") : Cond) ∈ x_W := x_inW (i := 765) (by decide +kernel) (by decide +kernel)
theorem xw_fMod_54 : ((Cond.fieldLink "TrainGuardModel" (54 : Nat) "TrainGuardModel" "came" "[Z") : Cond) ∈ x_W := x_inW (i := 766) (by decide +kernel) (by decide +kernel)
theorem xw_fMod_57 : ((Cond.fieldLink "TrainGuardModel" (57 : Nat) "TrainGuardModel" "count" "[I") : Cond) ∈ x_W := x_inW (i := 767) (by decide +kernel) (by decide +kernel)
theorem xw_fMod_60 : ((Cond.fieldLink "TrainGuardModel" (60 : Nat) "TrainGuardModel" "said" "[I") : Cond) ∈ x_W := x_inW (i := 768) (by decide +kernel) (by decide +kernel)
theorem xw_fMod_78 : ((Cond.fieldLink "TrainGuardModel" (78 : Nat) "TrainGuardModel" "notes" "I") : Cond) ∈ x_W := x_inW (i := 769) (by decide +kernel) (by decide +kernel)
theorem xw_fMod_63 : ((Cond.fieldLink "TrainGuardModel" (63 : Nat) "TrainGuardModel" "noted" "[I") : Cond) ∈ x_W := x_inW (i := 770) (by decide +kernel) (by decide +kernel)
theorem xw_mLaw_25 : ((Cond.methodLink "TrainGuardLaw" (25 : Nat) ({ cls := "TrainGuardModel", name := "bits", desc := "(II)Z" } : MethodName)) : Cond) ∈ x_W := x_inW (i := 860) (by decide +kernel) (by decide +kernel)
theorem xw_mLaw_30 : ((Cond.methodLink "TrainGuardLaw" (30 : Nat) ({ cls := "TrainGuardModel", name := "message", desc := "()I" } : MethodName)) : Cond) ∈ x_W := x_inW (i := 864) (by decide +kernel) (by decide +kernel)
theorem xw_mMod_123 : ((Cond.methodLink "TrainGuardModel" (123 : Nat) ({ cls := "TrainGuardModel", name := "read", desc := "(I)I" } : MethodName)) : Cond) ∈ x_W := x_inW (i := 868) (by decide +kernel) (by decide +kernel)
theorem xw_mMod_130 : ((Cond.methodLink "TrainGuardModel" (130 : Nat) ({ cls := "TrainGuardModel", name := "check", desc := "(ZI)V" } : MethodName)) : Cond) ∈ x_W := x_inW (i := 872) (by decide +kernel) (by decide +kernel)
theorem xw_mMod_148 : ((Cond.methodLink "TrainGuardModel" (148 : Nat) ({ cls := "TrainGuardModel", name := "packets", desc := "()V" } : MethodName)) : Cond) ∈ x_W := x_inW (i := 876) (by decide +kernel) (by decide +kernel)
theorem xw_mMod_127 : ((Cond.methodLink "TrainGuardModel" (127 : Nat) ({ cls := "TrainGuardModel", name := "slotOf", desc := "(I)I" } : MethodName)) : Cond) ∈ x_W := x_inW (i := 880) (by decide +kernel) (by decide +kernel)
theorem xw_mMod_134 : ((Cond.methodLink "TrainGuardModel" (134 : Nat) ({ cls := "TrainGuardModel", name := "numbers", desc := "(I)V" } : MethodName)) : Cond) ∈ x_W := x_inW (i := 883) (by decide +kernel) (by decide +kernel)
theorem xw_mMod_137 : ((Cond.methodLink "TrainGuardModel" (137 : Nat) ({ cls := "TrainGuardModel", name := "tell", desc := "(IIII)V" } : MethodName)) : Cond) ∈ x_W := x_inW (i := 887) (by decide +kernel) (by decide +kernel)
theorem xw_mMod_141 : ((Cond.methodLink "TrainGuardModel" (141 : Nat) ({ cls := "TrainGuardModel", name := "told", desc := "(III)I" } : MethodName)) : Cond) ∈ x_W := x_inW (i := 891) (by decide +kernel) (by decide +kernel)
theorem xw_mMod_145 : ((Cond.methodLink "TrainGuardModel" (145 : Nat) ({ cls := "TrainGuardModel", name := "limitOf", desc := "(I)I" } : MethodName)) : Cond) ∈ x_W := x_inW (i := 895) (by decide +kernel) (by decide +kernel)
theorem xw_mMod_154 : ((Cond.methodLink "TrainGuardModel" (154 : Nat) ({ cls := "TrainGuardModel", name := "watched", desc := "()Z" } : MethodName)) : Cond) ∈ x_W := x_inW (i := 898) (by decide +kernel) (by decide +kernel)
theorem xw_mMod_161 : ((Cond.methodLink "TrainGuardModel" (161 : Nat) ({ cls := "TrainGuardModel", name := "grade", desc := "(II)I" } : MethodName)) : Cond) ∈ x_W := x_inW (i := 902) (by decide +kernel) (by decide +kernel)
theorem xw_mMod_208 : ((Cond.methodLink "TrainGuardModel" (208 : Nat) ({ cls := "TrainGuardModel", name := "ceiling", desc := "()I" } : MethodName)) : Cond) ∈ x_W := x_inW (i := 906) (by decide +kernel) (by decide +kernel)
theorem xw_mMod_192 : ((Cond.methodLink "TrainGuardModel" (192 : Nat) ({ cls := "TrainGuardModel", name := "least", desc := "(II)I" } : MethodName)) : Cond) ∈ x_W := x_inW (i := 910) (by decide +kernel) (by decide +kernel)
theorem xw_mMod_212 : ((Cond.methodLink "TrainGuardModel" (212 : Nat) ({ cls := "TrainGuardModel", name := "over", desc := "(IIIII)Z" } : MethodName)) : Cond) ∈ x_W := x_inW (i := 914) (by decide +kernel) (by decide +kernel)
theorem xw_mMod_204 : ((Cond.methodLink "TrainGuardModel" (204 : Nat) ({ cls := "TrainGuardModel", name := "past", desc := "(IIIIII)Z" } : MethodName)) : Cond) ∈ x_W := x_inW (i := 918) (by decide +kernel) (by decide +kernel)
theorem xw_mMod_201 : ((Cond.methodLink "TrainGuardModel" (201 : Nat) ({ cls := "TrainGuardModel", name := "fall", desc := "(I)I" } : MethodName)) : Cond) ∈ x_W := x_inW (i := 922) (by decide +kernel) (by decide +kernel)
theorem xw_mMod_198 : ((Cond.methodLink "TrainGuardModel" (198 : Nat) ({ cls := "TrainGuardModel", name := "braking", desc := "(III)I" } : MethodName)) : Cond) ∈ x_W := x_inW (i := 926) (by decide +kernel) (by decide +kernel)
theorem xw_mMod_165 : ((Cond.methodLink "TrainGuardModel" (165 : Nat) ({ cls := "TrainGuardModel", name := "fits", desc := "()Z" } : MethodName)) : Cond) ∈ x_W := x_inW (i := 929) (by decide +kernel) (by decide +kernel)
theorem xw_mMod_84 : ((Cond.methodLink "TrainGuardModel" (84 : Nat) ({ cls := "TrainGuardModel", name := "write", desc := "(II)V" } : MethodName)) : Cond) ∈ x_W := x_inW (i := 933) (by decide +kernel) (by decide +kernel)
theorem xw_mMod_168 : ((Cond.methodLink "TrainGuardModel" (168 : Nat) ({ cls := "TrainGuardModel", name := "take", desc := "(II)V" } : MethodName)) : Cond) ∈ x_W := x_inW (i := 937) (by decide +kernel) (by decide +kernel)
theorem xw_mMod_174 : ((Cond.methodLink "TrainGuardModel" (174 : Nat) ({ cls := "TrainGuardModel", name := "trips", desc := "()V" } : MethodName)) : Cond) ∈ x_W := x_inW (i := 941) (by decide +kernel) (by decide +kernel)
theorem xw_mMod_104 : ((Cond.methodLink "TrainGuardModel" (104 : Nat) ({ cls := "TrainGuardModel", name := "become", desc := "(I)V" } : MethodName)) : Cond) ∈ x_W := x_inW (i := 945) (by decide +kernel) (by decide +kernel)
theorem xw_mMod_177 : ((Cond.methodLink "TrainGuardModel" (177 : Nat) ({ cls := "TrainGuardModel", name := "drop", desc := "(I)V" } : MethodName)) : Cond) ∈ x_W := x_inW (i := 949) (by decide +kernel) (by decide +kernel)
theorem xw_mMod_180 : ((Cond.methodLink "TrainGuardModel" (180 : Nat) ({ cls := "TrainGuardModel", name := "lists", desc := "()V" } : MethodName)) : Cond) ∈ x_W := x_inW (i := 953) (by decide +kernel) (by decide +kernel)
theorem xw_mMod_186 : ((Cond.methodLink "TrainGuardModel" (186 : Nat) ({ cls := "TrainGuardModel", name := "enters", desc := "()V" } : MethodName)) : Cond) ∈ x_W := x_inW (i := 957) (by decide +kernel) (by decide +kernel)
theorem xw_mLaw_60 : ((Cond.methodLink "TrainGuardLaw" (60 : Nat) ({ cls := "TrainGuardModel", name := "limit", desc := "(I)I" } : MethodName)) : Cond) ∈ x_W := x_inW (i := 961) (by decide +kernel) (by decide +kernel)
theorem xw_mLaw_65 : ((Cond.methodLink "TrainGuardLaw" (65 : Nat) ({ cls := "TrainGuardModel", name := "way", desc := "(III)I" } : MethodName)) : Cond) ∈ x_W := x_inW (i := 965) (by decide +kernel) (by decide +kernel)
theorem xw_mLaw_35 : ((Cond.methodLink "TrainGuardLaw" (35 : Nat) ({ cls := "TrainGuardModel", name := "mark", desc := "(I)Z" } : MethodName)) : Cond) ∈ x_W := x_inW (i := 969) (by decide +kernel) (by decide +kernel)
theorem xw_mLaw_40 : ((Cond.methodLink "TrainGuardLaw" (40 : Nat) ({ cls := "TrainGuardModel", name := "cycle", desc := "(I)I" } : MethodName)) : Cond) ∈ x_W := x_inW (i := 973) (by decide +kernel) (by decide +kernel)
theorem xw_mMod_219 : ((Cond.methodLink "TrainGuardModel" (219 : Nat) ({ cls := "TrainGuardModel", name := "moves", desc := "(I)V" } : MethodName)) : Cond) ∈ x_W := x_inW (i := 977) (by decide +kernel) (by decide +kernel)
theorem xw_mLaw_44 : ((Cond.methodLink "TrainGuardLaw" (44 : Nat) ({ cls := "TrainGuardModel", name := "driver", desc := "(I)Z" } : MethodName)) : Cond) ∈ x_W := x_inW (i := 981) (by decide +kernel) (by decide +kernel)
theorem xw_mLaw_48 : ((Cond.methodLink "TrainGuardLaw" (48 : Nat) ({ cls := "TrainGuardModel", name := "mode", desc := "()I" } : MethodName)) : Cond) ∈ x_W := x_inW (i := 985) (by decide +kernel) (by decide +kernel)
theorem xw_mLaw_52 : ((Cond.methodLink "TrainGuardLaw" (52 : Nat) ({ cls := "TrainGuardModel", name := "state", desc := "(I)I" } : MethodName)) : Cond) ∈ x_W := x_inW (i := 989) (by decide +kernel) (by decide +kernel)
theorem xw_mLaw_56 : ((Cond.methodLink "TrainGuardLaw" (56 : Nat) ({ cls := "TrainGuardModel", name := "display", desc := "(I)I" } : MethodName)) : Cond) ∈ x_W := x_inW (i := 993) (by decide +kernel) (by decide +kernel)
theorem xw_mMod_231 : ((Cond.methodLink "TrainGuardModel" (231 : Nat) ({ cls := "TrainGuardModel", name := "allowed", desc := "()I" } : MethodName)) : Cond) ∈ x_W := x_inW (i := 997) (by decide +kernel) (by decide +kernel)
theorem xw_mLaw_69 : ((Cond.methodLink "TrainGuardLaw" (69 : Nat) ({ cls := "TrainGuardModel", name := "marks", desc := "(I)I" } : MethodName)) : Cond) ∈ x_W := x_inW (i := 1001) (by decide +kernel) (by decide +kernel)
theorem xw_mLaw_73 : ((Cond.methodLink "TrainGuardLaw" (73 : Nat) ({ cls := "TrainGuardModel", name := "note", desc := "(I)I" } : MethodName)) : Cond) ∈ x_W := x_inW (i := 1005) (by decide +kernel) (by decide +kernel)
theorem xw_oi : ((Cond.instanceMethod ({ cls := "java/lang/Object", name := "<init>", desc := "()V" } : MethodName)) : Cond) ∈ x_W := x_inW (i := 20) (by decide +kernel) (by decide +kernel)
theorem xw_oc : ((Cond.code ({ cls := "java/lang/Object", name := "<init>", desc := "()V" } : MethodName) object_method_1_code (1 : Nat) (Option.none : Option FieldType)) : Cond) ∈ x_W := x_inW (i := 21) (by decide +kernel) (by decide +kernel)
set_option maxRecDepth 100000 in
theorem xw_dG_init : Cond.code m_G_init.1 m_G_init.2.1 m_G_init.2.2.1 m_G_init.2.2.2.1 ∈ x_W := x_inW (i := 18) rfl rfl
theorem xw_eG_init : Cond.instanceMethod m_G_init.1 ∈ x_W := x_inW (i := 17) (by decide +kernel) (by decide +kernel)
set_option maxRecDepth 100000 in
theorem xw_dG_bits : Cond.code m_G_bits.1 m_G_bits.2.1 m_G_bits.2.2.1 m_G_bits.2.2.2.1 ∈ x_W := x_inW (i := 358) rfl rfl
theorem xw_eG_bits : Cond.instanceMethod m_G_bits.1 ∈ x_W := x_inW (i := 356) (by decide +kernel) (by decide +kernel)
theorem xw_vG_bits : Cond.selects m_G_bits.1.cls m_G_bits.1 m_G_bits.1 ∈ x_W := x_inW (i := 357) (by decide +kernel) (by decide +kernel)
set_option maxRecDepth 100000 in
theorem xw_dG_message : Cond.code m_G_message.1 m_G_message.2.1 m_G_message.2.2.1 m_G_message.2.2.2.1 ∈ x_W := x_inW (i := 366) rfl rfl
theorem xw_eG_message : Cond.instanceMethod m_G_message.1 ∈ x_W := x_inW (i := 364) (by decide +kernel) (by decide +kernel)
theorem xw_vG_message : Cond.selects m_G_message.1.cls m_G_message.1 m_G_message.1 ∈ x_W := x_inW (i := 365) (by decide +kernel) (by decide +kernel)
set_option maxRecDepth 100000 in
theorem xw_dG_mark : Cond.code m_G_mark.1 m_G_mark.2.1 m_G_mark.2.2.1 m_G_mark.2.2.2.1 ∈ x_W := x_inW (i := 611) rfl rfl
theorem xw_eG_mark : Cond.instanceMethod m_G_mark.1 ∈ x_W := x_inW (i := 609) (by decide +kernel) (by decide +kernel)
theorem xw_vG_mark : Cond.selects m_G_mark.1.cls m_G_mark.1 m_G_mark.1 ∈ x_W := x_inW (i := 610) (by decide +kernel) (by decide +kernel)
set_option maxRecDepth 100000 in
theorem xw_dG_cycle : Cond.code m_G_cycle.1 m_G_cycle.2.1 m_G_cycle.2.2.1 m_G_cycle.2.2.2.1 ∈ x_W := x_inW (i := 642) rfl rfl
theorem xw_eG_cycle : Cond.instanceMethod m_G_cycle.1 ∈ x_W := x_inW (i := 640) (by decide +kernel) (by decide +kernel)
theorem xw_vG_cycle : Cond.selects m_G_cycle.1.cls m_G_cycle.1 m_G_cycle.1 ∈ x_W := x_inW (i := 641) (by decide +kernel) (by decide +kernel)
set_option maxRecDepth 100000 in
theorem xw_dG_driver : Cond.code m_G_driver.1 m_G_driver.2.1 m_G_driver.2.2.1 m_G_driver.2.2.2.1 ∈ x_W := x_inW (i := 663) rfl rfl
theorem xw_eG_driver : Cond.instanceMethod m_G_driver.1 ∈ x_W := x_inW (i := 661) (by decide +kernel) (by decide +kernel)
theorem xw_vG_driver : Cond.selects m_G_driver.1.cls m_G_driver.1 m_G_driver.1 ∈ x_W := x_inW (i := 662) (by decide +kernel) (by decide +kernel)
set_option maxRecDepth 100000 in
theorem xw_dG_mode : Cond.code m_G_mode.1 m_G_mode.2.1 m_G_mode.2.2.1 m_G_mode.2.2.2.1 ∈ x_W := x_inW (i := 675) rfl rfl
theorem xw_eG_mode : Cond.instanceMethod m_G_mode.1 ∈ x_W := x_inW (i := 673) (by decide +kernel) (by decide +kernel)
theorem xw_vG_mode : Cond.selects m_G_mode.1.cls m_G_mode.1 m_G_mode.1 ∈ x_W := x_inW (i := 674) (by decide +kernel) (by decide +kernel)
set_option maxRecDepth 100000 in
theorem xw_dG_state : Cond.code m_G_state.1 m_G_state.2.1 m_G_state.2.2.1 m_G_state.2.2.2.1 ∈ x_W := x_inW (i := 679) rfl rfl
theorem xw_eG_state : Cond.instanceMethod m_G_state.1 ∈ x_W := x_inW (i := 677) (by decide +kernel) (by decide +kernel)
theorem xw_vG_state : Cond.selects m_G_state.1.cls m_G_state.1 m_G_state.1 ∈ x_W := x_inW (i := 678) (by decide +kernel) (by decide +kernel)
set_option maxRecDepth 100000 in
theorem xw_dG_display : Cond.code m_G_display.1 m_G_display.2.1 m_G_display.2.2.1 m_G_display.2.2.2.1 ∈ x_W := x_inW (i := 683) rfl rfl
theorem xw_eG_display : Cond.instanceMethod m_G_display.1 ∈ x_W := x_inW (i := 681) (by decide +kernel) (by decide +kernel)
theorem xw_vG_display : Cond.selects m_G_display.1.cls m_G_display.1 m_G_display.1 ∈ x_W := x_inW (i := 682) (by decide +kernel) (by decide +kernel)
set_option maxRecDepth 100000 in
theorem xw_dG_limit : Cond.code m_G_limit.1 m_G_limit.2.1 m_G_limit.2.2.1 m_G_limit.2.2.2.1 ∈ x_W := x_inW (i := 696) rfl rfl
theorem xw_eG_limit : Cond.instanceMethod m_G_limit.1 ∈ x_W := x_inW (i := 694) (by decide +kernel) (by decide +kernel)
theorem xw_vG_limit : Cond.selects m_G_limit.1.cls m_G_limit.1 m_G_limit.1 ∈ x_W := x_inW (i := 695) (by decide +kernel) (by decide +kernel)
set_option maxRecDepth 100000 in
theorem xw_dG_way : Cond.code m_G_way.1 m_G_way.2.1 m_G_way.2.2.1 m_G_way.2.2.2.1 ∈ x_W := x_inW (i := 700) rfl rfl
theorem xw_eG_way : Cond.instanceMethod m_G_way.1 ∈ x_W := x_inW (i := 698) (by decide +kernel) (by decide +kernel)
theorem xw_vG_way : Cond.selects m_G_way.1.cls m_G_way.1 m_G_way.1 ∈ x_W := x_inW (i := 699) (by decide +kernel) (by decide +kernel)
set_option maxRecDepth 100000 in
theorem xw_dG_marks : Cond.code m_G_marks.1 m_G_marks.2.1 m_G_marks.2.2.1 m_G_marks.2.2.2.1 ∈ x_W := x_inW (i := 705) rfl rfl
theorem xw_eG_marks : Cond.instanceMethod m_G_marks.1 ∈ x_W := x_inW (i := 703) (by decide +kernel) (by decide +kernel)
theorem xw_vG_marks : Cond.selects m_G_marks.1.cls m_G_marks.1 m_G_marks.1 ∈ x_W := x_inW (i := 704) (by decide +kernel) (by decide +kernel)
set_option maxRecDepth 100000 in
theorem xw_dG_note : Cond.code m_G_note.1 m_G_note.2.1 m_G_note.2.2.1 m_G_note.2.2.2.1 ∈ x_W := x_inW (i := 713) rfl rfl
theorem xw_eG_note : Cond.instanceMethod m_G_note.1 ∈ x_W := x_inW (i := 711) (by decide +kernel) (by decide +kernel)
theorem xw_vG_note : Cond.selects m_G_note.1.cls m_G_note.1 m_G_note.1 ∈ x_W := x_inW (i := 712) (by decide +kernel) (by decide +kernel)
set_option maxRecDepth 100000 in
theorem xw_dG_within : Cond.code m_G_within.1 m_G_within.2.1 m_G_within.2.2.1 m_G_within.2.2.2.1 ∈ x_W := x_inW (i := 274) rfl rfl
theorem xw_sG_within : Cond.static m_G_within.1 ∈ x_W := x_inW (i := 273) (by decide +kernel) (by decide +kernel)
set_option maxRecDepth 100000 in
theorem xw_dG_brakingWay : Cond.code m_G_brakingWay.1 m_G_brakingWay.2.1 m_G_brakingWay.2.2.1 m_G_brakingWay.2.2.2.1 ∈ x_W := x_inW (i := 520) rfl rfl
theorem xw_sG_brakingWay : Cond.static m_G_brakingWay.1 ∈ x_W := x_inW (i := 519) (by decide +kernel) (by decide +kernel)
set_option maxRecDepth 100000 in
theorem xw_dG_isGuided : Cond.code m_G_isGuided.1 m_G_isGuided.2.1 m_G_isGuided.2.2.1 m_G_isGuided.2.2.2.1 ∈ x_W := x_inW (i := 460) rfl rfl
theorem xw_eG_isGuided : Cond.instanceMethod m_G_isGuided.1 ∈ x_W := x_inW (i := 459) (by decide +kernel) (by decide +kernel)
theorem xw_vG_isGuided : Cond.selects m_G_isGuided.1.cls m_G_isGuided.1 m_G_isGuided.1 ∈ x_W := x_inP (i := 7) (by decide +kernel) (by decide +kernel)
set_option maxRecDepth 100000 in
theorem xw_dG_isStopped : Cond.code m_G_isStopped.1 m_G_isStopped.2.1 m_G_isStopped.2.2.1 m_G_isStopped.2.2.2.1 ∈ x_W := x_inW (i := 468) rfl rfl
theorem xw_eG_isStopped : Cond.instanceMethod m_G_isStopped.1 ∈ x_W := x_inW (i := 467) (by decide +kernel) (by decide +kernel)
theorem xw_vG_isStopped : Cond.selects m_G_isStopped.1.cls m_G_isStopped.1 m_G_isStopped.1 ∈ x_W := x_inP (i := 9) (by decide +kernel) (by decide +kernel)
set_option maxRecDepth 100000 in
theorem xw_dG_write : Cond.code m_G_write.1 m_G_write.2.1 m_G_write.2.2.1 m_G_write.2.2.2.1 ∈ x_W := x_inW (i := 540) rfl rfl
theorem xw_eG_write : Cond.instanceMethod m_G_write.1 ∈ x_W := x_inW (i := 539) (by decide +kernel) (by decide +kernel)
theorem xw_vG_write : Cond.selects m_G_write.1.cls m_G_write.1 m_G_write.1 ∈ x_W := x_inP (i := 18) (by decide +kernel) (by decide +kernel)
set_option maxRecDepth 100000 in
theorem xw_dG_become : Cond.code m_G_become.1 m_G_become.2.1 m_G_become.2.2.1 m_G_become.2.2.2.1 ∈ x_W := x_inW (i := 556) rfl rfl
theorem xw_eG_become : Cond.instanceMethod m_G_become.1 ∈ x_W := x_inW (i := 555) (by decide +kernel) (by decide +kernel)
theorem xw_vG_become : Cond.selects m_G_become.1.cls m_G_become.1 m_G_become.1 ∈ x_W := x_inP (i := 21) (by decide +kernel) (by decide +kernel)
set_option maxRecDepth 100000 in
theorem xw_dG_trip : Cond.code m_G_trip.1 m_G_trip.2.1 m_G_trip.2.2.1 m_G_trip.2.2.2.1 ∈ x_W := x_inW (i := 552) rfl rfl
theorem xw_eG_trip : Cond.instanceMethod m_G_trip.1 ∈ x_W := x_inW (i := 551) (by decide +kernel) (by decide +kernel)
theorem xw_vG_trip : Cond.selects m_G_trip.1.cls m_G_trip.1 m_G_trip.1 ∈ x_W := x_inP (i := 20) (by decide +kernel) (by decide +kernel)
set_option maxRecDepth 100000 in
theorem xw_dG_faultOfMarks : Cond.code m_G_faultOfMarks.1 m_G_faultOfMarks.2.1 m_G_faultOfMarks.2.2.1 m_G_faultOfMarks.2.2.2.1 ∈ x_W := x_inW (i := 632) rfl rfl
theorem xw_eG_faultOfMarks : Cond.instanceMethod m_G_faultOfMarks.1 ∈ x_W := x_inW (i := 631) (by decide +kernel) (by decide +kernel)
theorem xw_vG_faultOfMarks : Cond.selects m_G_faultOfMarks.1.cls m_G_faultOfMarks.1 m_G_faultOfMarks.1 ∈ x_W := x_inP (i := 23) (by decide +kernel) (by decide +kernel)
set_option maxRecDepth 100000 in
theorem xw_dG_lookForTrip : Cond.code m_G_lookForTrip.1 m_G_lookForTrip.2.1 m_G_lookForTrip.2.2.1 m_G_lookForTrip.2.2.2.1 ∈ x_W := x_inW (i := 650) rfl rfl
theorem xw_eG_lookForTrip : Cond.instanceMethod m_G_lookForTrip.1 ∈ x_W := x_inW (i := 649) (by decide +kernel) (by decide +kernel)
theorem xw_vG_lookForTrip : Cond.selects m_G_lookForTrip.1.cls m_G_lookForTrip.1 m_G_lookForTrip.1 ∈ x_W := x_inP (i := 24) (by decide +kernel) (by decide +kernel)
set_option maxRecDepth 100000 in
theorem xw_dG_enterModeOfAuthority : Cond.code m_G_enterModeOfAuthority.1 m_G_enterModeOfAuthority.2.1 m_G_enterModeOfAuthority.2.2.1 m_G_enterModeOfAuthority.2.2.2.1 ∈ x_W := x_inW (i := 607) rfl rfl
theorem xw_eG_enterModeOfAuthority : Cond.instanceMethod m_G_enterModeOfAuthority.1 ∈ x_W := x_inW (i := 606) (by decide +kernel) (by decide +kernel)
theorem xw_vG_enterModeOfAuthority : Cond.selects m_G_enterModeOfAuthority.1.cls m_G_enterModeOfAuthority.1 m_G_enterModeOfAuthority.1 ∈ x_W := x_inP (i := 22) (by decide +kernel) (by decide +kernel)
set_option maxRecDepth 100000 in
theorem xw_dG_driverMay : Cond.code m_G_driverMay.1 m_G_driverMay.2.1 m_G_driverMay.2.2.1 m_G_driverMay.2.2.2.1 ∈ x_W := x_inW (i := 667) rfl rfl
theorem xw_eG_driverMay : Cond.instanceMethod m_G_driverMay.1 ∈ x_W := x_inW (i := 666) (by decide +kernel) (by decide +kernel)
theorem xw_vG_driverMay : Cond.selects m_G_driverMay.1.cls m_G_driverMay.1 m_G_driverMay.1 ∈ x_W := x_inP (i := 26) (by decide +kernel) (by decide +kernel)
set_option maxRecDepth 100000 in
theorem xw_dG_start : Cond.code m_G_start.1 m_G_start.2.1 m_G_start.2.2.1 m_G_start.2.2.2.1 ∈ x_W := x_inW (i := 671) rfl rfl
theorem xw_eG_start : Cond.instanceMethod m_G_start.1 ∈ x_W := x_inW (i := 670) (by decide +kernel) (by decide +kernel)
theorem xw_vG_start : Cond.selects m_G_start.1.cls m_G_start.1 m_G_start.1 ∈ x_W := x_inP (i := 27) (by decide +kernel) (by decide +kernel)
set_option maxRecDepth 100000 in
theorem xw_dG_faultOfReceived : Cond.code m_G_faultOfReceived.1 m_G_faultOfReceived.2.1 m_G_faultOfReceived.2.2.1 m_G_faultOfReceived.2.2.2.1 ∈ x_W := x_inW (i := 456) rfl rfl
theorem xw_eG_faultOfReceived : Cond.instanceMethod m_G_faultOfReceived.1 ∈ x_W := x_inW (i := 455) (by decide +kernel) (by decide +kernel)
theorem xw_vG_faultOfReceived : Cond.selects m_G_faultOfReceived.1.cls m_G_faultOfReceived.1 m_G_faultOfReceived.1 ∈ x_W := x_inP (i := 6) (by decide +kernel) (by decide +kernel)
set_option maxRecDepth 100000 in
theorem xw_dG_obeyReceived : Cond.code m_G_obeyReceived.1 m_G_obeyReceived.2.1 m_G_obeyReceived.2.2.1 m_G_obeyReceived.2.2.2.1 ∈ x_W := x_inW (i := 548) rfl rfl
theorem xw_eG_obeyReceived : Cond.instanceMethod m_G_obeyReceived.1 ∈ x_W := x_inW (i := 547) (by decide +kernel) (by decide +kernel)
theorem xw_vG_obeyReceived : Cond.selects m_G_obeyReceived.1.cls m_G_obeyReceived.1 m_G_obeyReceived.1 ∈ x_W := x_inP (i := 19) (by decide +kernel) (by decide +kernel)
set_option maxRecDepth 100000 in
theorem xw_dG_ceilingNow : Cond.code m_G_ceilingNow.1 m_G_ceilingNow.2.1 m_G_ceilingNow.2.2.1 m_G_ceilingNow.2.2.2.1 ∈ x_W := x_inW (i := 476) rfl rfl
theorem xw_eG_ceilingNow : Cond.instanceMethod m_G_ceilingNow.1 ∈ x_W := x_inW (i := 475) (by decide +kernel) (by decide +kernel)
theorem xw_vG_ceilingNow : Cond.selects m_G_ceilingNow.1.cls m_G_ceilingNow.1 m_G_ceilingNow.1 ∈ x_W := x_inP (i := 11) (by decide +kernel) (by decide +kernel)
set_option maxRecDepth 100000 in
theorem xw_dG_gradeNow : Cond.code m_G_gradeNow.1 m_G_gradeNow.2.1 m_G_gradeNow.2.2.1 m_G_gradeNow.2.2.2.1 ∈ x_W := x_inW (i := 655) rfl rfl
theorem xw_eG_gradeNow : Cond.instanceMethod m_G_gradeNow.1 ∈ x_W := x_inW (i := 654) (by decide +kernel) (by decide +kernel)
theorem xw_vG_gradeNow : Cond.selects m_G_gradeNow.1.cls m_G_gradeNow.1 m_G_gradeNow.1 ∈ x_W := x_inP (i := 25) (by decide +kernel) (by decide +kernel)
set_option maxRecDepth 100000 in
theorem xw_dG_gradeWithEnd : Cond.code m_G_gradeWithEnd.1 m_G_gradeWithEnd.2.1 m_G_gradeWithEnd.2.2.1 m_G_gradeWithEnd.2.2.2.1 ∈ x_W := x_inW (i := 464) rfl rfl
theorem xw_eG_gradeWithEnd : Cond.instanceMethod m_G_gradeWithEnd.1 ∈ x_W := x_inW (i := 463) (by decide +kernel) (by decide +kernel)
theorem xw_vG_gradeWithEnd : Cond.selects m_G_gradeWithEnd.1.cls m_G_gradeWithEnd.1 m_G_gradeWithEnd.1 ∈ x_W := x_inP (i := 8) (by decide +kernel) (by decide +kernel)
set_option maxRecDepth 100000 in
theorem xw_dG_allowedNow : Cond.code m_G_allowedNow.1 m_G_allowedNow.2.1 m_G_allowedNow.2.2.1 m_G_allowedNow.2.2.2.1 ∈ x_W := x_inW (i := 687) rfl rfl
theorem xw_eG_allowedNow : Cond.instanceMethod m_G_allowedNow.1 ∈ x_W := x_inW (i := 686) (by decide +kernel) (by decide +kernel)
theorem xw_vG_allowedNow : Cond.selects m_G_allowedNow.1.cls m_G_allowedNow.1 m_G_allowedNow.1 ∈ x_W := x_inP (i := 28) (by decide +kernel) (by decide +kernel)
set_option maxRecDepth 100000 in
theorem xw_dG_lookAhead : Cond.code m_G_lookAhead.1 m_G_lookAhead.2.1 m_G_lookAhead.2.2.1 m_G_lookAhead.2.2.2.1 ∈ x_W := x_inW (i := 472) rfl rfl
theorem xw_eG_lookAhead : Cond.instanceMethod m_G_lookAhead.1 ∈ x_W := x_inW (i := 471) (by decide +kernel) (by decide +kernel)
theorem xw_vG_lookAhead : Cond.selects m_G_lookAhead.1.cls m_G_lookAhead.1 m_G_lookAhead.1 ∈ x_W := x_inP (i := 10) (by decide +kernel) (by decide +kernel)
set_option maxRecDepth 100000 in
theorem xw_dG_addTargetsOf : Cond.code m_G_addTargetsOf.1 m_G_addTargetsOf.2.1 m_G_addTargetsOf.2.2.1 m_G_addTargetsOf.2.2.2.1 ∈ x_W := x_inW (i := 505) rfl rfl
theorem xw_eG_addTargetsOf : Cond.instanceMethod m_G_addTargetsOf.1 ∈ x_W := x_inW (i := 504) (by decide +kernel) (by decide +kernel)
theorem xw_vG_addTargetsOf : Cond.selects m_G_addTargetsOf.1.cls m_G_addTargetsOf.1 m_G_addTargetsOf.1 ∈ x_W := x_inP (i := 13) (by decide +kernel) (by decide +kernel)
set_option maxRecDepth 100000 in
theorem xw_dG_addTarget : Cond.code m_G_addTarget.1 m_G_addTarget.2.1 m_G_addTarget.2.2.1 m_G_addTarget.2.2.2.1 ∈ x_W := x_inW (i := 493) rfl rfl
theorem xw_eG_addTarget : Cond.instanceMethod m_G_addTarget.1 ∈ x_W := x_inW (i := 492) (by decide +kernel) (by decide +kernel)
theorem xw_vG_addTarget : Cond.selects m_G_addTarget.1.cls m_G_addTarget.1 m_G_addTarget.1 ∈ x_W := x_inP (i := 12) (by decide +kernel) (by decide +kernel)
set_option maxRecDepth 100000 in
theorem xw_dMod_init : Cond.code m_Mod_init.1 m_Mod_init.2.1 m_Mod_init.2.2.1 m_Mod_init.2.2.2.1 ∈ x_W := x_inW (i := 725) rfl rfl
theorem xw_eMod_init : Cond.instanceMethod m_Mod_init.1 ∈ x_W := x_inW (i := 724) (by decide +kernel) (by decide +kernel)
set_option maxRecDepth 100000 in
theorem xw_dMod_write : Cond.code m_Mod_write.1 m_Mod_write.2.1 m_Mod_write.2.2.1 m_Mod_write.2.2.2.1 ∈ x_W := x_inW (i := 936) rfl rfl
theorem xw_eMod_write : Cond.instanceMethod m_Mod_write.1 ∈ x_W := x_inW (i := 935) (by decide +kernel) (by decide +kernel)
theorem xw_vMod_write : Cond.selects m_Mod_write.1.cls m_Mod_write.1 m_Mod_write.1 ∈ x_W := x_inP (i := 43) (by decide +kernel) (by decide +kernel)
set_option maxRecDepth 100000 in
theorem xw_dMod_become : Cond.code m_Mod_become.1 m_Mod_become.2.1 m_Mod_become.2.2.1 m_Mod_become.2.2.2.1 ∈ x_W := x_inW (i := 948) rfl rfl
theorem xw_eMod_become : Cond.instanceMethod m_Mod_become.1 ∈ x_W := x_inW (i := 947) (by decide +kernel) (by decide +kernel)
theorem xw_vMod_become : Cond.selects m_Mod_become.1.cls m_Mod_become.1 m_Mod_become.1 ∈ x_W := x_inP (i := 46) (by decide +kernel) (by decide +kernel)
set_option maxRecDepth 100000 in
theorem xw_dMod_trips : Cond.code m_Mod_trips.1 m_Mod_trips.2.1 m_Mod_trips.2.2.1 m_Mod_trips.2.2.2.1 ∈ x_W := x_inW (i := 944) rfl rfl
theorem xw_eMod_trips : Cond.instanceMethod m_Mod_trips.1 ∈ x_W := x_inW (i := 943) (by decide +kernel) (by decide +kernel)
theorem xw_vMod_trips : Cond.selects m_Mod_trips.1.cls m_Mod_trips.1 m_Mod_trips.1 ∈ x_W := x_inP (i := 45) (by decide +kernel) (by decide +kernel)
set_option maxRecDepth 100000 in
theorem xw_dMod_enters : Cond.code m_Mod_enters.1 m_Mod_enters.2.1 m_Mod_enters.2.2.1 m_Mod_enters.2.2.2.1 ∈ x_W := x_inW (i := 960) rfl rfl
theorem xw_eMod_enters : Cond.instanceMethod m_Mod_enters.1 ∈ x_W := x_inW (i := 959) (by decide +kernel) (by decide +kernel)
theorem xw_vMod_enters : Cond.selects m_Mod_enters.1.cls m_Mod_enters.1 m_Mod_enters.1 ∈ x_W := x_inP (i := 49) (by decide +kernel) (by decide +kernel)
set_option maxRecDepth 100000 in
theorem xw_dMod_watched : Cond.code m_Mod_watched.1 m_Mod_watched.2.1 m_Mod_watched.2.2.1 m_Mod_watched.2.2.2.1 ∈ x_W := x_inW (i := 901) rfl rfl
theorem xw_eMod_watched : Cond.instanceMethod m_Mod_watched.1 ∈ x_W := x_inW (i := 900) (by decide +kernel) (by decide +kernel)
theorem xw_vMod_watched : Cond.selects m_Mod_watched.1.cls m_Mod_watched.1 m_Mod_watched.1 ∈ x_W := x_inP (i := 35) (by decide +kernel) (by decide +kernel)
set_option maxRecDepth 100000 in
theorem xw_dMod_bits : Cond.code m_Mod_bits.1 m_Mod_bits.2.1 m_Mod_bits.2.2.1 m_Mod_bits.2.2.2.1 ∈ x_W := x_inW (i := 863) rfl rfl
theorem xw_eMod_bits : Cond.instanceMethod m_Mod_bits.1 ∈ x_W := x_inW (i := 861) (by decide +kernel) (by decide +kernel)
theorem xw_vMod_bits : Cond.selects m_Mod_bits.1.cls m_Mod_bits.1 m_Mod_bits.1 ∈ x_W := x_inW (i := 862) (by decide +kernel) (by decide +kernel)
set_option maxRecDepth 100000 in
theorem xw_dMod_read : Cond.code m_Mod_read.1 m_Mod_read.2.1 m_Mod_read.2.2.1 m_Mod_read.2.2.2.1 ∈ x_W := x_inW (i := 871) rfl rfl
theorem xw_eMod_read : Cond.instanceMethod m_Mod_read.1 ∈ x_W := x_inW (i := 870) (by decide +kernel) (by decide +kernel)
theorem xw_vMod_read : Cond.selects m_Mod_read.1.cls m_Mod_read.1 m_Mod_read.1 ∈ x_W := x_inP (i := 29) (by decide +kernel) (by decide +kernel)
set_option maxRecDepth 100000 in
theorem xw_dMod_check : Cond.code m_Mod_check.1 m_Mod_check.2.1 m_Mod_check.2.2.1 m_Mod_check.2.2.2.1 ∈ x_W := x_inW (i := 875) rfl rfl
theorem xw_eMod_check : Cond.instanceMethod m_Mod_check.1 ∈ x_W := x_inW (i := 874) (by decide +kernel) (by decide +kernel)
theorem xw_vMod_check : Cond.selects m_Mod_check.1.cls m_Mod_check.1 m_Mod_check.1 ∈ x_W := x_inP (i := 30) (by decide +kernel) (by decide +kernel)
set_option maxRecDepth 100000 in
theorem xw_dMod_slotOf : Cond.code m_Mod_slotOf.1 m_Mod_slotOf.2.1 m_Mod_slotOf.2.2.1 m_Mod_slotOf.2.2.2.1 ∈ x_W := x_inW (i := 882) rfl rfl
theorem xw_sMod_slotOf : Cond.static m_Mod_slotOf.1 ∈ x_W := x_inW (i := 881) (by decide +kernel) (by decide +kernel)
set_option maxRecDepth 100000 in
theorem xw_dMod_told : Cond.code m_Mod_told.1 m_Mod_told.2.1 m_Mod_told.2.2.1 m_Mod_told.2.2.2.1 ∈ x_W := x_inW (i := 894) rfl rfl
theorem xw_eMod_told : Cond.instanceMethod m_Mod_told.1 ∈ x_W := x_inW (i := 893) (by decide +kernel) (by decide +kernel)
theorem xw_vMod_told : Cond.selects m_Mod_told.1.cls m_Mod_told.1 m_Mod_told.1 ∈ x_W := x_inP (i := 34) (by decide +kernel) (by decide +kernel)
set_option maxRecDepth 100000 in
theorem xw_dMod_tell : Cond.code m_Mod_tell.1 m_Mod_tell.2.1 m_Mod_tell.2.2.1 m_Mod_tell.2.2.2.1 ∈ x_W := x_inW (i := 890) rfl rfl
theorem xw_eMod_tell : Cond.instanceMethod m_Mod_tell.1 ∈ x_W := x_inW (i := 889) (by decide +kernel) (by decide +kernel)
theorem xw_vMod_tell : Cond.selects m_Mod_tell.1.cls m_Mod_tell.1 m_Mod_tell.1 ∈ x_W := x_inP (i := 33) (by decide +kernel) (by decide +kernel)
set_option maxRecDepth 100000 in
theorem xw_dMod_limitOf : Cond.code m_Mod_limitOf.1 m_Mod_limitOf.2.1 m_Mod_limitOf.2.2.1 m_Mod_limitOf.2.2.2.1 ∈ x_W := x_inW (i := 897) rfl rfl
theorem xw_sMod_limitOf : Cond.static m_Mod_limitOf.1 ∈ x_W := x_inW (i := 896) (by decide +kernel) (by decide +kernel)
set_option maxRecDepth 100000 in
theorem xw_dMod_packets : Cond.code m_Mod_packets.1 m_Mod_packets.2.1 m_Mod_packets.2.2.1 m_Mod_packets.2.2.2.1 ∈ x_W := x_inW (i := 879) rfl rfl
theorem xw_eMod_packets : Cond.instanceMethod m_Mod_packets.1 ∈ x_W := x_inW (i := 878) (by decide +kernel) (by decide +kernel)
theorem xw_vMod_packets : Cond.selects m_Mod_packets.1.cls m_Mod_packets.1 m_Mod_packets.1 ∈ x_W := x_inP (i := 31) (by decide +kernel) (by decide +kernel)
set_option maxRecDepth 100000 in
theorem xw_dMod_numbers : Cond.code m_Mod_numbers.1 m_Mod_numbers.2.1 m_Mod_numbers.2.2.1 m_Mod_numbers.2.2.2.1 ∈ x_W := x_inW (i := 886) rfl rfl
theorem xw_eMod_numbers : Cond.instanceMethod m_Mod_numbers.1 ∈ x_W := x_inW (i := 885) (by decide +kernel) (by decide +kernel)
theorem xw_vMod_numbers : Cond.selects m_Mod_numbers.1.cls m_Mod_numbers.1 m_Mod_numbers.1 ∈ x_W := x_inP (i := 32) (by decide +kernel) (by decide +kernel)
set_option maxRecDepth 100000 in
theorem xw_dMod_message : Cond.code m_Mod_message.1 m_Mod_message.2.1 m_Mod_message.2.2.1 m_Mod_message.2.2.2.1 ∈ x_W := x_inW (i := 867) rfl rfl
theorem xw_eMod_message : Cond.instanceMethod m_Mod_message.1 ∈ x_W := x_inW (i := 865) (by decide +kernel) (by decide +kernel)
theorem xw_vMod_message : Cond.selects m_Mod_message.1.cls m_Mod_message.1 m_Mod_message.1 ∈ x_W := x_inW (i := 866) (by decide +kernel) (by decide +kernel)
set_option maxRecDepth 100000 in
theorem xw_dMod_fits : Cond.code m_Mod_fits.1 m_Mod_fits.2.1 m_Mod_fits.2.2.1 m_Mod_fits.2.2.2.1 ∈ x_W := x_inW (i := 932) rfl rfl
theorem xw_eMod_fits : Cond.instanceMethod m_Mod_fits.1 ∈ x_W := x_inW (i := 931) (by decide +kernel) (by decide +kernel)
theorem xw_vMod_fits : Cond.selects m_Mod_fits.1.cls m_Mod_fits.1 m_Mod_fits.1 ∈ x_W := x_inP (i := 42) (by decide +kernel) (by decide +kernel)
set_option maxRecDepth 100000 in
theorem xw_dMod_drop : Cond.code m_Mod_drop.1 m_Mod_drop.2.1 m_Mod_drop.2.2.1 m_Mod_drop.2.2.2.1 ∈ x_W := x_inW (i := 952) rfl rfl
theorem xw_eMod_drop : Cond.instanceMethod m_Mod_drop.1 ∈ x_W := x_inW (i := 951) (by decide +kernel) (by decide +kernel)
theorem xw_vMod_drop : Cond.selects m_Mod_drop.1.cls m_Mod_drop.1 m_Mod_drop.1 ∈ x_W := x_inP (i := 47) (by decide +kernel) (by decide +kernel)
set_option maxRecDepth 100000 in
theorem xw_dMod_take : Cond.code m_Mod_take.1 m_Mod_take.2.1 m_Mod_take.2.2.1 m_Mod_take.2.2.2.1 ∈ x_W := x_inW (i := 940) rfl rfl
theorem xw_eMod_take : Cond.instanceMethod m_Mod_take.1 ∈ x_W := x_inW (i := 939) (by decide +kernel) (by decide +kernel)
theorem xw_vMod_take : Cond.selects m_Mod_take.1.cls m_Mod_take.1 m_Mod_take.1 ∈ x_W := x_inP (i := 44) (by decide +kernel) (by decide +kernel)
set_option maxRecDepth 100000 in
theorem xw_dMod_lists : Cond.code m_Mod_lists.1 m_Mod_lists.2.1 m_Mod_lists.2.2.1 m_Mod_lists.2.2.2.1 ∈ x_W := x_inW (i := 956) rfl rfl
theorem xw_eMod_lists : Cond.instanceMethod m_Mod_lists.1 ∈ x_W := x_inW (i := 955) (by decide +kernel) (by decide +kernel)
theorem xw_vMod_lists : Cond.selects m_Mod_lists.1.cls m_Mod_lists.1 m_Mod_lists.1 ∈ x_W := x_inP (i := 48) (by decide +kernel) (by decide +kernel)
set_option maxRecDepth 100000 in
theorem xw_dMod_least : Cond.code m_Mod_least.1 m_Mod_least.2.1 m_Mod_least.2.2.1 m_Mod_least.2.2.2.1 ∈ x_W := x_inW (i := 913) rfl rfl
theorem xw_eMod_least : Cond.instanceMethod m_Mod_least.1 ∈ x_W := x_inW (i := 912) (by decide +kernel) (by decide +kernel)
theorem xw_vMod_least : Cond.selects m_Mod_least.1.cls m_Mod_least.1 m_Mod_least.1 ∈ x_W := x_inP (i := 38) (by decide +kernel) (by decide +kernel)
set_option maxRecDepth 100000 in
theorem xw_dMod_limit : Cond.code m_Mod_limit.1 m_Mod_limit.2.1 m_Mod_limit.2.2.1 m_Mod_limit.2.2.2.1 ∈ x_W := x_inW (i := 964) rfl rfl
theorem xw_eMod_limit : Cond.instanceMethod m_Mod_limit.1 ∈ x_W := x_inW (i := 962) (by decide +kernel) (by decide +kernel)
theorem xw_vMod_limit : Cond.selects m_Mod_limit.1.cls m_Mod_limit.1 m_Mod_limit.1 ∈ x_W := x_inW (i := 963) (by decide +kernel) (by decide +kernel)
set_option maxRecDepth 100000 in
theorem xw_dMod_ceiling : Cond.code m_Mod_ceiling.1 m_Mod_ceiling.2.1 m_Mod_ceiling.2.2.1 m_Mod_ceiling.2.2.2.1 ∈ x_W := x_inW (i := 909) rfl rfl
theorem xw_eMod_ceiling : Cond.instanceMethod m_Mod_ceiling.1 ∈ x_W := x_inW (i := 908) (by decide +kernel) (by decide +kernel)
theorem xw_vMod_ceiling : Cond.selects m_Mod_ceiling.1.cls m_Mod_ceiling.1 m_Mod_ceiling.1 ∈ x_W := x_inP (i := 37) (by decide +kernel) (by decide +kernel)
set_option maxRecDepth 100000 in
theorem xw_dMod_fall : Cond.code m_Mod_fall.1 m_Mod_fall.2.1 m_Mod_fall.2.2.1 m_Mod_fall.2.2.2.1 ∈ x_W := x_inW (i := 925) rfl rfl
theorem xw_eMod_fall : Cond.instanceMethod m_Mod_fall.1 ∈ x_W := x_inW (i := 924) (by decide +kernel) (by decide +kernel)
theorem xw_vMod_fall : Cond.selects m_Mod_fall.1.cls m_Mod_fall.1 m_Mod_fall.1 ∈ x_W := x_inP (i := 41) (by decide +kernel) (by decide +kernel)
set_option maxRecDepth 100000 in
theorem xw_dMod_braking : Cond.code m_Mod_braking.1 m_Mod_braking.2.1 m_Mod_braking.2.2.1 m_Mod_braking.2.2.2.1 ∈ x_W := x_inW (i := 928) rfl rfl
theorem xw_sMod_braking : Cond.static m_Mod_braking.1 ∈ x_W := x_inW (i := 927) (by decide +kernel) (by decide +kernel)
set_option maxRecDepth 100000 in
theorem xw_dMod_way : Cond.code m_Mod_way.1 m_Mod_way.2.1 m_Mod_way.2.2.1 m_Mod_way.2.2.2.1 ∈ x_W := x_inW (i := 968) rfl rfl
theorem xw_eMod_way : Cond.instanceMethod m_Mod_way.1 ∈ x_W := x_inW (i := 966) (by decide +kernel) (by decide +kernel)
theorem xw_vMod_way : Cond.selects m_Mod_way.1.cls m_Mod_way.1 m_Mod_way.1 ∈ x_W := x_inW (i := 967) (by decide +kernel) (by decide +kernel)
set_option maxRecDepth 100000 in
theorem xw_dMod_past : Cond.code m_Mod_past.1 m_Mod_past.2.1 m_Mod_past.2.2.1 m_Mod_past.2.2.2.1 ∈ x_W := x_inW (i := 921) rfl rfl
theorem xw_eMod_past : Cond.instanceMethod m_Mod_past.1 ∈ x_W := x_inW (i := 920) (by decide +kernel) (by decide +kernel)
theorem xw_vMod_past : Cond.selects m_Mod_past.1.cls m_Mod_past.1 m_Mod_past.1 ∈ x_W := x_inP (i := 40) (by decide +kernel) (by decide +kernel)
set_option maxRecDepth 100000 in
theorem xw_dMod_over : Cond.code m_Mod_over.1 m_Mod_over.2.1 m_Mod_over.2.2.1 m_Mod_over.2.2.2.1 ∈ x_W := x_inW (i := 917) rfl rfl
theorem xw_eMod_over : Cond.instanceMethod m_Mod_over.1 ∈ x_W := x_inW (i := 916) (by decide +kernel) (by decide +kernel)
theorem xw_vMod_over : Cond.selects m_Mod_over.1.cls m_Mod_over.1 m_Mod_over.1 ∈ x_W := x_inP (i := 39) (by decide +kernel) (by decide +kernel)
set_option maxRecDepth 100000 in
theorem xw_dMod_grade : Cond.code m_Mod_grade.1 m_Mod_grade.2.1 m_Mod_grade.2.2.1 m_Mod_grade.2.2.2.1 ∈ x_W := x_inW (i := 905) rfl rfl
theorem xw_eMod_grade : Cond.instanceMethod m_Mod_grade.1 ∈ x_W := x_inW (i := 904) (by decide +kernel) (by decide +kernel)
theorem xw_vMod_grade : Cond.selects m_Mod_grade.1.cls m_Mod_grade.1 m_Mod_grade.1 ∈ x_W := x_inP (i := 36) (by decide +kernel) (by decide +kernel)
set_option maxRecDepth 100000 in
theorem xw_dMod_allowed : Cond.code m_Mod_allowed.1 m_Mod_allowed.2.1 m_Mod_allowed.2.2.1 m_Mod_allowed.2.2.2.1 ∈ x_W := x_inW (i := 1000) rfl rfl
theorem xw_eMod_allowed : Cond.instanceMethod m_Mod_allowed.1 ∈ x_W := x_inW (i := 999) (by decide +kernel) (by decide +kernel)
theorem xw_vMod_allowed : Cond.selects m_Mod_allowed.1.cls m_Mod_allowed.1 m_Mod_allowed.1 ∈ x_W := x_inP (i := 51) (by decide +kernel) (by decide +kernel)
set_option maxRecDepth 100000 in
theorem xw_dMod_mark : Cond.code m_Mod_mark.1 m_Mod_mark.2.1 m_Mod_mark.2.2.1 m_Mod_mark.2.2.2.1 ∈ x_W := x_inW (i := 972) rfl rfl
theorem xw_eMod_mark : Cond.instanceMethod m_Mod_mark.1 ∈ x_W := x_inW (i := 970) (by decide +kernel) (by decide +kernel)
theorem xw_vMod_mark : Cond.selects m_Mod_mark.1.cls m_Mod_mark.1 m_Mod_mark.1 ∈ x_W := x_inW (i := 971) (by decide +kernel) (by decide +kernel)
set_option maxRecDepth 100000 in
theorem xw_dMod_moves : Cond.code m_Mod_moves.1 m_Mod_moves.2.1 m_Mod_moves.2.2.1 m_Mod_moves.2.2.2.1 ∈ x_W := x_inW (i := 980) rfl rfl
theorem xw_eMod_moves : Cond.instanceMethod m_Mod_moves.1 ∈ x_W := x_inW (i := 979) (by decide +kernel) (by decide +kernel)
theorem xw_vMod_moves : Cond.selects m_Mod_moves.1.cls m_Mod_moves.1 m_Mod_moves.1 ∈ x_W := x_inP (i := 50) (by decide +kernel) (by decide +kernel)
set_option maxRecDepth 100000 in
theorem xw_dMod_cycle : Cond.code m_Mod_cycle.1 m_Mod_cycle.2.1 m_Mod_cycle.2.2.1 m_Mod_cycle.2.2.2.1 ∈ x_W := x_inW (i := 976) rfl rfl
theorem xw_eMod_cycle : Cond.instanceMethod m_Mod_cycle.1 ∈ x_W := x_inW (i := 974) (by decide +kernel) (by decide +kernel)
theorem xw_vMod_cycle : Cond.selects m_Mod_cycle.1.cls m_Mod_cycle.1 m_Mod_cycle.1 ∈ x_W := x_inW (i := 975) (by decide +kernel) (by decide +kernel)
set_option maxRecDepth 100000 in
theorem xw_dMod_driver : Cond.code m_Mod_driver.1 m_Mod_driver.2.1 m_Mod_driver.2.2.1 m_Mod_driver.2.2.2.1 ∈ x_W := x_inW (i := 984) rfl rfl
theorem xw_eMod_driver : Cond.instanceMethod m_Mod_driver.1 ∈ x_W := x_inW (i := 982) (by decide +kernel) (by decide +kernel)
theorem xw_vMod_driver : Cond.selects m_Mod_driver.1.cls m_Mod_driver.1 m_Mod_driver.1 ∈ x_W := x_inW (i := 983) (by decide +kernel) (by decide +kernel)
set_option maxRecDepth 100000 in
theorem xw_dMod_mode : Cond.code m_Mod_mode.1 m_Mod_mode.2.1 m_Mod_mode.2.2.1 m_Mod_mode.2.2.2.1 ∈ x_W := x_inW (i := 988) rfl rfl
theorem xw_eMod_mode : Cond.instanceMethod m_Mod_mode.1 ∈ x_W := x_inW (i := 986) (by decide +kernel) (by decide +kernel)
theorem xw_vMod_mode : Cond.selects m_Mod_mode.1.cls m_Mod_mode.1 m_Mod_mode.1 ∈ x_W := x_inW (i := 987) (by decide +kernel) (by decide +kernel)
set_option maxRecDepth 100000 in
theorem xw_dMod_state : Cond.code m_Mod_state.1 m_Mod_state.2.1 m_Mod_state.2.2.1 m_Mod_state.2.2.2.1 ∈ x_W := x_inW (i := 992) rfl rfl
theorem xw_eMod_state : Cond.instanceMethod m_Mod_state.1 ∈ x_W := x_inW (i := 990) (by decide +kernel) (by decide +kernel)
theorem xw_vMod_state : Cond.selects m_Mod_state.1.cls m_Mod_state.1 m_Mod_state.1 ∈ x_W := x_inW (i := 991) (by decide +kernel) (by decide +kernel)
set_option maxRecDepth 100000 in
theorem xw_dMod_display : Cond.code m_Mod_display.1 m_Mod_display.2.1 m_Mod_display.2.2.1 m_Mod_display.2.2.2.1 ∈ x_W := x_inW (i := 996) rfl rfl
theorem xw_eMod_display : Cond.instanceMethod m_Mod_display.1 ∈ x_W := x_inW (i := 994) (by decide +kernel) (by decide +kernel)
theorem xw_vMod_display : Cond.selects m_Mod_display.1.cls m_Mod_display.1 m_Mod_display.1 ∈ x_W := x_inW (i := 995) (by decide +kernel) (by decide +kernel)
set_option maxRecDepth 100000 in
theorem xw_dMod_marks : Cond.code m_Mod_marks.1 m_Mod_marks.2.1 m_Mod_marks.2.2.1 m_Mod_marks.2.2.2.1 ∈ x_W := x_inW (i := 1004) rfl rfl
theorem xw_eMod_marks : Cond.instanceMethod m_Mod_marks.1 ∈ x_W := x_inW (i := 1002) (by decide +kernel) (by decide +kernel)
theorem xw_vMod_marks : Cond.selects m_Mod_marks.1.cls m_Mod_marks.1 m_Mod_marks.1 ∈ x_W := x_inW (i := 1003) (by decide +kernel) (by decide +kernel)
set_option maxRecDepth 100000 in
theorem xw_dMod_note : Cond.code m_Mod_note.1 m_Mod_note.2.1 m_Mod_note.2.2.1 m_Mod_note.2.2.2.1 ∈ x_W := x_inW (i := 1008) rfl rfl
theorem xw_eMod_note : Cond.instanceMethod m_Mod_note.1 ∈ x_W := x_inW (i := 1006) (by decide +kernel) (by decide +kernel)
theorem xw_vMod_note : Cond.selects m_Mod_note.1.cls m_Mod_note.1 m_Mod_note.1 ∈ x_W := x_inW (i := 1007) (by decide +kernel) (by decide +kernel)
set_option maxRecDepth 100000 in
theorem xw_dBit_init : Cond.code m_Bit_init.1 m_Bit_init.2.1 m_Bit_init.2.2.1 m_Bit_init.2.2.2.1 ∈ x_W := x_inW (i := 148) rfl rfl
theorem xw_eBit_init : Cond.instanceMethod m_Bit_init.1 ∈ x_W := x_inW (i := 147) (by decide +kernel) (by decide +kernel)
set_option maxRecDepth 100000 in
theorem xw_dBit_put : Cond.code m_Bit_put.1 m_Bit_put.2.1 m_Bit_put.2.2.1 m_Bit_put.2.2.2.1 ∈ x_W := x_inW (i := 362) rfl rfl
theorem xw_eBit_put : Cond.instanceMethod m_Bit_put.1 ∈ x_W := x_inW (i := 360) (by decide +kernel) (by decide +kernel)
theorem xw_vBit_put : Cond.selects m_Bit_put.1.cls m_Bit_put.1 m_Bit_put.1 ∈ x_W := x_inW (i := 361) (by decide +kernel) (by decide +kernel)
set_option maxRecDepth 100000 in
theorem xw_dBit_clear : Cond.code m_Bit_clear.1 m_Bit_clear.2.1 m_Bit_clear.2.2.1 m_Bit_clear.2.2.2.1 ∈ x_W := x_inW (i := 452) rfl rfl
theorem xw_eBit_clear : Cond.instanceMethod m_Bit_clear.1 ∈ x_W := x_inW (i := 450) (by decide +kernel) (by decide +kernel)
theorem xw_vBit_clear : Cond.selects m_Bit_clear.1.cls m_Bit_clear.1 m_Bit_clear.1 ∈ x_W := x_inW (i := 451) (by decide +kernel) (by decide +kernel)
set_option maxRecDepth 100000 in
theorem xw_dBit_begin : Cond.code m_Bit_begin.1 m_Bit_begin.2.1 m_Bit_begin.2.2.1 m_Bit_begin.2.2.2.1 ∈ x_W := x_inW (i := 374) rfl rfl
theorem xw_eBit_begin : Cond.instanceMethod m_Bit_begin.1 ∈ x_W := x_inW (i := 372) (by decide +kernel) (by decide +kernel)
theorem xw_vBit_begin : Cond.selects m_Bit_begin.1.cls m_Bit_begin.1 m_Bit_begin.1 ∈ x_W := x_inW (i := 373) (by decide +kernel) (by decide +kernel)
set_option maxRecDepth 100000 in
theorem xw_dBit_left : Cond.code m_Bit_left.1 m_Bit_left.2.1 m_Bit_left.2.2.1 m_Bit_left.2.2.2.1 ∈ x_W := x_inW (i := 393) rfl rfl
theorem xw_eBit_left : Cond.instanceMethod m_Bit_left.1 ∈ x_W := x_inW (i := 391) (by decide +kernel) (by decide +kernel)
theorem xw_vBit_left : Cond.selects m_Bit_left.1.cls m_Bit_left.1 m_Bit_left.1 ∈ x_W := x_inW (i := 392) (by decide +kernel) (by decide +kernel)
set_option maxRecDepth 100000 in
theorem xw_dBit_isSound : Cond.code m_Bit_isSound.1 m_Bit_isSound.2.1 m_Bit_isSound.2.2.1 m_Bit_isSound.2.2.2.1 ∈ x_W := x_inW (i := 389) rfl rfl
theorem xw_eBit_isSound : Cond.instanceMethod m_Bit_isSound.1 ∈ x_W := x_inW (i := 387) (by decide +kernel) (by decide +kernel)
theorem xw_vBit_isSound : Cond.selects m_Bit_isSound.1.cls m_Bit_isSound.1 m_Bit_isSound.1 ∈ x_W := x_inW (i := 388) (by decide +kernel) (by decide +kernel)
set_option maxRecDepth 100000 in
theorem xw_dBit_need : Cond.code m_Bit_need.1 m_Bit_need.2.1 m_Bit_need.2.2.1 m_Bit_need.2.2.2.1 ∈ x_W := x_inW (i := 382) rfl rfl
theorem xw_eBit_need : Cond.instanceMethod m_Bit_need.1 ∈ x_W := x_inW (i := 380) (by decide +kernel) (by decide +kernel)
theorem xw_vBit_need : Cond.selects m_Bit_need.1.cls m_Bit_need.1 m_Bit_need.1 ∈ x_W := x_inW (i := 381) (by decide +kernel) (by decide +kernel)
set_option maxRecDepth 100000 in
theorem xw_dBit_take : Cond.code m_Bit_take.1 m_Bit_take.2.1 m_Bit_take.2.2.1 m_Bit_take.2.2.2.1 ∈ x_W := x_inW (i := 378) rfl rfl
theorem xw_eBit_take : Cond.instanceMethod m_Bit_take.1 ∈ x_W := x_inW (i := 376) (by decide +kernel) (by decide +kernel)
theorem xw_vBit_take : Cond.selects m_Bit_take.1.cls m_Bit_take.1 m_Bit_take.1 ∈ x_W := x_inW (i := 377) (by decide +kernel) (by decide +kernel)
set_option maxRecDepth 100000 in
theorem xw_dBrk_init : Cond.code m_Brk_init.1 m_Brk_init.2.1 m_Brk_init.2.2.1 m_Brk_init.2.2.2.1 ∈ x_W := x_inW (i := 243) rfl rfl
theorem xw_eBrk_init : Cond.instanceMethod m_Brk_init.1 ∈ x_W := x_inW (i := 242) (by decide +kernel) (by decide +kernel)
set_option maxRecDepth 100000 in
theorem xw_dBrk_apply : Cond.code m_Brk_apply.1 m_Brk_apply.2.1 m_Brk_apply.2.2.1 m_Brk_apply.2.2.2.1 ∈ x_W := x_inW (i := 659) rfl rfl
theorem xw_eBrk_apply : Cond.instanceMethod m_Brk_apply.1 ∈ x_W := x_inW (i := 657) (by decide +kernel) (by decide +kernel)
theorem xw_vBrk_apply : Cond.selects m_Brk_apply.1.cls m_Brk_apply.1 m_Brk_apply.1 ∈ x_W := x_inW (i := 658) (by decide +kernel) (by decide +kernel)
set_option maxRecDepth 100000 in
theorem xw_dCur_init : Cond.code m_Cur_init.1 m_Cur_init.2.1 m_Cur_init.2.2.1 m_Cur_init.2.2.2.1 ∈ x_W := x_inW (i := 285) rfl rfl
theorem xw_eCur_init : Cond.instanceMethod m_Cur_init.1 ∈ x_W := x_inW (i := 284) (by decide +kernel) (by decide +kernel)
set_option maxRecDepth 100000 in
theorem xw_dCur_begin : Cond.code m_Cur_begin.1 m_Cur_begin.2.1 m_Cur_begin.2.2.1 m_Cur_begin.2.2.2.1 ∈ x_W := x_inW (i := 489) rfl rfl
theorem xw_eCur_begin : Cond.instanceMethod m_Cur_begin.1 ∈ x_W := x_inW (i := 487) (by decide +kernel) (by decide +kernel)
theorem xw_vCur_begin : Cond.selects m_Cur_begin.1.cls m_Cur_begin.1 m_Cur_begin.1 ∈ x_W := x_inW (i := 488) (by decide +kernel) (by decide +kernel)
set_option maxRecDepth 100000 in
theorem xw_dCur_add : Cond.code m_Cur_add.1 m_Cur_add.2.1 m_Cur_add.2.2.1 m_Cur_add.2.2.2.1 ∈ x_W := x_inW (i := 501) rfl rfl
theorem xw_eCur_add : Cond.instanceMethod m_Cur_add.1 ∈ x_W := x_inW (i := 499) (by decide +kernel) (by decide +kernel)
theorem xw_vCur_add : Cond.selects m_Cur_add.1.cls m_Cur_add.1 m_Cur_add.1 ∈ x_W := x_inW (i := 500) (by decide +kernel) (by decide +kernel)
set_option maxRecDepth 100000 in
theorem xw_dCur_gradeOf : Cond.code m_Cur_gradeOf.1 m_Cur_gradeOf.2.1 m_Cur_gradeOf.2.2.1 m_Cur_gradeOf.2.2.2.1 ∈ x_W := x_inW (i := 509) rfl rfl
theorem xw_eCur_gradeOf : Cond.instanceMethod m_Cur_gradeOf.1 ∈ x_W := x_inW (i := 507) (by decide +kernel) (by decide +kernel)
theorem xw_vCur_gradeOf : Cond.selects m_Cur_gradeOf.1.cls m_Cur_gradeOf.1 m_Cur_gradeOf.1 ∈ x_W := x_inW (i := 508) (by decide +kernel) (by decide +kernel)
set_option maxRecDepth 100000 in
theorem xw_dCur_allowed : Cond.code m_Cur_allowed.1 m_Cur_allowed.2.1 m_Cur_allowed.2.2.1 m_Cur_allowed.2.2.2.1 ∈ x_W := x_inW (i := 691) rfl rfl
theorem xw_eCur_allowed : Cond.instanceMethod m_Cur_allowed.1 ∈ x_W := x_inW (i := 689) (by decide +kernel) (by decide +kernel)
theorem xw_vCur_allowed : Cond.selects m_Cur_allowed.1.cls m_Cur_allowed.1 m_Cur_allowed.1 ∈ x_W := x_inW (i := 690) (by decide +kernel) (by decide +kernel)
set_option maxRecDepth 100000 in
theorem xw_dCur_isOverEmergency : Cond.code m_Cur_isOverEmergency.1 m_Cur_isOverEmergency.2.1 m_Cur_isOverEmergency.2.2.1 m_Cur_isOverEmergency.2.2.2.1 ∈ x_W := x_inW (i := 513) rfl rfl
theorem xw_eCur_isOverEmergency : Cond.instanceMethod m_Cur_isOverEmergency.1 ∈ x_W := x_inW (i := 512) (by decide +kernel) (by decide +kernel)
theorem xw_vCur_isOverEmergency : Cond.selects m_Cur_isOverEmergency.1.cls m_Cur_isOverEmergency.1 m_Cur_isOverEmergency.1 ∈ x_W := x_inP (i := 14) (by decide +kernel) (by decide +kernel)
set_option maxRecDepth 100000 in
theorem xw_dCur_isOverService : Cond.code m_Cur_isOverService.1 m_Cur_isOverService.2.1 m_Cur_isOverService.2.2.1 m_Cur_isOverService.2.2.2.1 ∈ x_W := x_inW (i := 524) rfl rfl
theorem xw_eCur_isOverService : Cond.instanceMethod m_Cur_isOverService.1 ∈ x_W := x_inW (i := 523) (by decide +kernel) (by decide +kernel)
theorem xw_vCur_isOverService : Cond.selects m_Cur_isOverService.1.cls m_Cur_isOverService.1 m_Cur_isOverService.1 ∈ x_W := x_inP (i := 16) (by decide +kernel) (by decide +kernel)
set_option maxRecDepth 100000 in
theorem xw_dCur_isOver : Cond.code m_Cur_isOver.1 m_Cur_isOver.2.1 m_Cur_isOver.2.2.1 m_Cur_isOver.2.2.2.1 ∈ x_W := x_inW (i := 517) rfl rfl
theorem xw_eCur_isOver : Cond.instanceMethod m_Cur_isOver.1 ∈ x_W := x_inW (i := 516) (by decide +kernel) (by decide +kernel)
theorem xw_vCur_isOver : Cond.selects m_Cur_isOver.1.cls m_Cur_isOver.1 m_Cur_isOver.1 ∈ x_W := x_inP (i := 15) (by decide +kernel) (by decide +kernel)
set_option maxRecDepth 100000 in
theorem xw_dFrt_init : Cond.code m_Frt_init.1 m_Frt_init.2.1 m_Frt_init.2.2.1 m_Frt_init.2.2.2.1 ∈ x_W := x_inW (i := 26) rfl rfl
theorem xw_eFrt_init : Cond.instanceMethod m_Frt_init.1 ∈ x_W := x_inW (i := 25) (by decide +kernel) (by decide +kernel)
set_option maxRecDepth 100000 in
theorem xw_dFrt_advance : Cond.code m_Frt_advance.1 m_Frt_advance.2.1 m_Frt_advance.2.2.1 m_Frt_advance.2.2.2.1 ∈ x_W := x_inW (i := 646) rfl rfl
theorem xw_eFrt_advance : Cond.instanceMethod m_Frt_advance.1 ∈ x_W := x_inW (i := 644) (by decide +kernel) (by decide +kernel)
theorem xw_vFrt_advance : Cond.selects m_Frt_advance.1.cls m_Frt_advance.1 m_Frt_advance.1 ∈ x_W := x_inW (i := 645) (by decide +kernel) (by decide +kernel)
set_option maxRecDepth 100000 in
theorem xw_dFrt_narrow : Cond.code m_Frt_narrow.1 m_Frt_narrow.2.1 m_Frt_narrow.2.2.1 m_Frt_narrow.2.2.2.1 ∈ x_W := x_inW (i := 636) rfl rfl
theorem xw_eFrt_narrow : Cond.instanceMethod m_Frt_narrow.1 ∈ x_W := x_inW (i := 634) (by decide +kernel) (by decide +kernel)
theorem xw_vFrt_narrow : Cond.selects m_Frt_narrow.1.cls m_Frt_narrow.1 m_Frt_narrow.1 ∈ x_W := x_inW (i := 635) (by decide +kernel) (by decide +kernel)
set_option maxRecDepth 100000 in
theorem xw_dMrk_init : Cond.code m_Mrk_init.1 m_Mrk_init.2.1 m_Mrk_init.2.2.1 m_Mrk_init.2.2.2.1 ∈ x_W := x_inW (i := 92) rfl rfl
theorem xw_eMrk_init : Cond.instanceMethod m_Mrk_init.1 ∈ x_W := x_inW (i := 91) (by decide +kernel) (by decide +kernel)
set_option maxRecDepth 100000 in
theorem xw_dMrk_clear : Cond.code m_Mrk_clear.1 m_Mrk_clear.2.1 m_Mrk_clear.2.2.1 m_Mrk_clear.2.2.2.1 ∈ x_W := x_inW (i := 412) rfl rfl
theorem xw_eMrk_clear : Cond.instanceMethod m_Mrk_clear.1 ∈ x_W := x_inW (i := 410) (by decide +kernel) (by decide +kernel)
theorem xw_vMrk_clear : Cond.selects m_Mrk_clear.1.cls m_Mrk_clear.1 m_Mrk_clear.1 ∈ x_W := x_inW (i := 411) (by decide +kernel) (by decide +kernel)
set_option maxRecDepth 100000 in
theorem xw_dMrk_add : Cond.code m_Mrk_add.1 m_Mrk_add.2.1 m_Mrk_add.2.2.1 m_Mrk_add.2.2.2.1 ∈ x_W := x_inW (i := 419) rfl rfl
theorem xw_eMrk_add : Cond.instanceMethod m_Mrk_add.1 ∈ x_W := x_inW (i := 417) (by decide +kernel) (by decide +kernel)
theorem xw_vMrk_add : Cond.selects m_Mrk_add.1.cls m_Mrk_add.1 m_Mrk_add.1 ∈ x_W := x_inW (i := 418) (by decide +kernel) (by decide +kernel)
set_option maxRecDepth 100000 in
theorem xw_dMrk_copyFrom : Cond.code m_Mrk_copyFrom.1 m_Mrk_copyFrom.2.1 m_Mrk_copyFrom.2.2.1 m_Mrk_copyFrom.2.2.2.1 ∈ x_W := x_inW (i := 589) rfl rfl
theorem xw_eMrk_copyFrom : Cond.instanceMethod m_Mrk_copyFrom.1 ∈ x_W := x_inW (i := 587) (by decide +kernel) (by decide +kernel)
theorem xw_vMrk_copyFrom : Cond.selects m_Mrk_copyFrom.1.cls m_Mrk_copyFrom.1 m_Mrk_copyFrom.1 ∈ x_W := x_inW (i := 588) (by decide +kernel) (by decide +kernel)
set_option maxRecDepth 100000 in
theorem xw_dMrk_earliest : Cond.code m_Mrk_earliest.1 m_Mrk_earliest.2.1 m_Mrk_earliest.2.2.1 m_Mrk_earliest.2.2.2.1 ∈ x_W := x_inW (i := 623) rfl rfl
theorem xw_eMrk_earliest : Cond.instanceMethod m_Mrk_earliest.1 ∈ x_W := x_inW (i := 621) (by decide +kernel) (by decide +kernel)
theorem xw_vMrk_earliest : Cond.selects m_Mrk_earliest.1.cls m_Mrk_earliest.1 m_Mrk_earliest.1 ∈ x_W := x_inW (i := 622) (by decide +kernel) (by decide +kernel)
set_option maxRecDepth 100000 in
theorem xw_dMrk_latest : Cond.code m_Mrk_latest.1 m_Mrk_latest.2.1 m_Mrk_latest.2.2.1 m_Mrk_latest.2.2.2.1 ∈ x_W := x_inW (i := 599) rfl rfl
theorem xw_eMrk_latest : Cond.instanceMethod m_Mrk_latest.1 ∈ x_W := x_inW (i := 597) (by decide +kernel) (by decide +kernel)
theorem xw_vMrk_latest : Cond.selects m_Mrk_latest.1.cls m_Mrk_latest.1 m_Mrk_latest.1 ∈ x_W := x_inW (i := 598) (by decide +kernel) (by decide +kernel)
set_option maxRecDepth 100000 in
theorem xw_dMrk_firstOpen : Cond.code m_Mrk_firstOpen.1 m_Mrk_firstOpen.2.1 m_Mrk_firstOpen.2.2.1 m_Mrk_firstOpen.2.2.2.1 ∈ x_W := x_inW (i := 615) rfl rfl
theorem xw_eMrk_firstOpen : Cond.instanceMethod m_Mrk_firstOpen.1 ∈ x_W := x_inW (i := 613) (by decide +kernel) (by decide +kernel)
theorem xw_vMrk_firstOpen : Cond.selects m_Mrk_firstOpen.1.cls m_Mrk_firstOpen.1 m_Mrk_firstOpen.1 ∈ x_W := x_inW (i := 614) (by decide +kernel) (by decide +kernel)
set_option maxRecDepth 100000 in
theorem xw_dMrk_anyOpenBefore : Cond.code m_Mrk_anyOpenBefore.1 m_Mrk_anyOpenBefore.2.1 m_Mrk_anyOpenBefore.2.2.1 m_Mrk_anyOpenBefore.2.2.2.1 ∈ x_W := x_inW (i := 619) rfl rfl
theorem xw_eMrk_anyOpenBefore : Cond.instanceMethod m_Mrk_anyOpenBefore.1 ∈ x_W := x_inW (i := 617) (by decide +kernel) (by decide +kernel)
theorem xw_vMrk_anyOpenBefore : Cond.selects m_Mrk_anyOpenBefore.1.cls m_Mrk_anyOpenBefore.1 m_Mrk_anyOpenBefore.1 ∈ x_W := x_inW (i := 618) (by decide +kernel) (by decide +kernel)
set_option maxRecDepth 100000 in
theorem xw_dMrk_passUpTo : Cond.code m_Mrk_passUpTo.1 m_Mrk_passUpTo.2.1 m_Mrk_passUpTo.2.2.1 m_Mrk_passUpTo.2.2.2.1 ∈ x_W := x_inW (i := 628) rfl rfl
theorem xw_eMrk_passUpTo : Cond.instanceMethod m_Mrk_passUpTo.1 ∈ x_W := x_inW (i := 626) (by decide +kernel) (by decide +kernel)
theorem xw_vMrk_passUpTo : Cond.selects m_Mrk_passUpTo.1.cls m_Mrk_passUpTo.1 m_Mrk_passUpTo.1 ∈ x_W := x_inW (i := 627) (by decide +kernel) (by decide +kernel)
set_option maxRecDepth 100000 in
theorem xw_dMrk_passBehind : Cond.code m_Mrk_passBehind.1 m_Mrk_passBehind.2.1 m_Mrk_passBehind.2.2.1 m_Mrk_passBehind.2.2.2.1 ∈ x_W := x_inW (i := 595) rfl rfl
theorem xw_eMrk_passBehind : Cond.instanceMethod m_Mrk_passBehind.1 ∈ x_W := x_inW (i := 593) (by decide +kernel) (by decide +kernel)
theorem xw_vMrk_passBehind : Cond.selects m_Mrk_passBehind.1.cls m_Mrk_passBehind.1 m_Mrk_passBehind.1 ∈ x_W := x_inW (i := 594) (by decide +kernel) (by decide +kernel)
set_option maxRecDepth 100000 in
theorem xw_dMrk_shown : Cond.code m_Mrk_shown.1 m_Mrk_shown.2.1 m_Mrk_shown.2.2.1 m_Mrk_shown.2.2.2.1 ∈ x_W := x_inW (i := 709) rfl rfl
theorem xw_eMrk_shown : Cond.instanceMethod m_Mrk_shown.1 ∈ x_W := x_inW (i := 707) (by decide +kernel) (by decide +kernel)
theorem xw_vMrk_shown : Cond.selects m_Mrk_shown.1.cls m_Mrk_shown.1 m_Mrk_shown.1 ∈ x_W := x_inW (i := 708) (by decide +kernel) (by decide +kernel)
set_option maxRecDepth 100000 in
theorem xw_dMsg_init : Cond.code m_Msg_init.1 m_Msg_init.2.1 m_Msg_init.2.2.1 m_Msg_init.2.2.2.1 ∈ x_W := x_inW (i := 171) rfl rfl
theorem xw_eMsg_init : Cond.instanceMethod m_Msg_init.1 ∈ x_W := x_inW (i := 170) (by decide +kernel) (by decide +kernel)
set_option maxRecDepth 100000 in
theorem xw_dMsg_endedNumber : Cond.code m_Msg_endedNumber.1 m_Msg_endedNumber.2.1 m_Msg_endedNumber.2.2.1 m_Msg_endedNumber.2.2.2.1 ∈ x_W := x_inW (i := 528) rfl rfl
theorem xw_eMsg_endedNumber : Cond.instanceMethod m_Msg_endedNumber.1 ∈ x_W := x_inW (i := 526) (by decide +kernel) (by decide +kernel)
theorem xw_vMsg_endedNumber : Cond.selects m_Msg_endedNumber.1.cls m_Msg_endedNumber.1 m_Msg_endedNumber.1 ∈ x_W := x_inW (i := 527) (by decide +kernel) (by decide +kernel)
set_option maxRecDepth 100000 in
theorem xw_dMsg_readFrom : Cond.code m_Msg_readFrom.1 m_Msg_readFrom.2.1 m_Msg_readFrom.2.2.1 m_Msg_readFrom.2.2.2.1 ∈ x_W := x_inW (i := 370) rfl rfl
theorem xw_eMsg_readFrom : Cond.instanceMethod m_Msg_readFrom.1 ∈ x_W := x_inW (i := 368) (by decide +kernel) (by decide +kernel)
theorem xw_vMsg_readFrom : Cond.selects m_Msg_readFrom.1.cls m_Msg_readFrom.1 m_Msg_readFrom.1 ∈ x_W := x_inW (i := 369) (by decide +kernel) (by decide +kernel)
set_option maxRecDepth 100000 in
theorem xw_dMsg_readPacket : Cond.code m_Msg_readPacket.1 m_Msg_readPacket.2.1 m_Msg_readPacket.2.2.1 m_Msg_readPacket.2.2.2.1 ∈ x_W := x_inW (i := 397) rfl rfl
theorem xw_eMsg_readPacket : Cond.instanceMethod m_Msg_readPacket.1 ∈ x_W := x_inW (i := 396) (by decide +kernel) (by decide +kernel)
theorem xw_vMsg_readPacket : Cond.selects m_Msg_readPacket.1.cls m_Msg_readPacket.1 m_Msg_readPacket.1 ∈ x_W := x_inP (i := 0) (by decide +kernel) (by decide +kernel)
set_option maxRecDepth 100000 in
theorem xw_dMsg_slotOf : Cond.code m_Msg_slotOf.1 m_Msg_slotOf.2.1 m_Msg_slotOf.2.2.1 m_Msg_slotOf.2.2.2.1 ∈ x_W := x_inW (i := 400) rfl rfl
theorem xw_sMsg_slotOf : Cond.static m_Msg_slotOf.1 ∈ x_W := x_inW (i := 399) (by decide +kernel) (by decide +kernel)
set_option maxRecDepth 100000 in
theorem xw_dMsg_readNumbers : Cond.code m_Msg_readNumbers.1 m_Msg_readNumbers.2.1 m_Msg_readNumbers.2.2.1 m_Msg_readNumbers.2.2.2.1 ∈ x_W := x_inW (i := 404) rfl rfl
theorem xw_eMsg_readNumbers : Cond.instanceMethod m_Msg_readNumbers.1 ∈ x_W := x_inW (i := 403) (by decide +kernel) (by decide +kernel)
theorem xw_vMsg_readNumbers : Cond.selects m_Msg_readNumbers.1.cls m_Msg_readNumbers.1 m_Msg_readNumbers.1 ∈ x_W := x_inP (i := 1) (by decide +kernel) (by decide +kernel)
set_option maxRecDepth 100000 in
theorem xw_dMsg_readMarks : Cond.code m_Msg_readMarks.1 m_Msg_readMarks.2.1 m_Msg_readMarks.2.2.1 m_Msg_readMarks.2.2.2.1 ∈ x_W := x_inW (i := 408) rfl rfl
theorem xw_eMsg_readMarks : Cond.instanceMethod m_Msg_readMarks.1 ∈ x_W := x_inW (i := 407) (by decide +kernel) (by decide +kernel)
theorem xw_vMsg_readMarks : Cond.selects m_Msg_readMarks.1.cls m_Msg_readMarks.1 m_Msg_readMarks.1 ∈ x_W := x_inP (i := 2) (by decide +kernel) (by decide +kernel)
set_option maxRecDepth 100000 in
theorem xw_dMsg_readAuthority : Cond.code m_Msg_readAuthority.1 m_Msg_readAuthority.2.1 m_Msg_readAuthority.2.2.1 m_Msg_readAuthority.2.2.2.1 ∈ x_W := x_inW (i := 423) rfl rfl
theorem xw_eMsg_readAuthority : Cond.instanceMethod m_Msg_readAuthority.1 ∈ x_W := x_inW (i := 422) (by decide +kernel) (by decide +kernel)
theorem xw_vMsg_readAuthority : Cond.selects m_Msg_readAuthority.1.cls m_Msg_readAuthority.1 m_Msg_readAuthority.1 ∈ x_W := x_inP (i := 3) (by decide +kernel) (by decide +kernel)
set_option maxRecDepth 100000 in
theorem xw_dMsg_readSteps : Cond.code m_Msg_readSteps.1 m_Msg_readSteps.2.1 m_Msg_readSteps.2.2.1 m_Msg_readSteps.2.2.2.1 ∈ x_W := x_inW (i := 427) rfl rfl
theorem xw_eMsg_readSteps : Cond.instanceMethod m_Msg_readSteps.1 ∈ x_W := x_inW (i := 426) (by decide +kernel) (by decide +kernel)
theorem xw_vMsg_readSteps : Cond.selects m_Msg_readSteps.1.cls m_Msg_readSteps.1 m_Msg_readSteps.1 ∈ x_W := x_inP (i := 4) (by decide +kernel) (by decide +kernel)
set_option maxRecDepth 100000 in
theorem xw_dMsg_readRestriction : Cond.code m_Msg_readRestriction.1 m_Msg_readRestriction.2.1 m_Msg_readRestriction.2.2.1 m_Msg_readRestriction.2.2.2.1 ∈ x_W := x_inW (i := 448) rfl rfl
theorem xw_eMsg_readRestriction : Cond.instanceMethod m_Msg_readRestriction.1 ∈ x_W := x_inW (i := 447) (by decide +kernel) (by decide +kernel)
theorem xw_vMsg_readRestriction : Cond.selects m_Msg_readRestriction.1.cls m_Msg_readRestriction.1 m_Msg_readRestriction.1 ∈ x_W := x_inP (i := 5) (by decide +kernel) (by decide +kernel)
set_option maxRecDepth 100000 in
theorem xw_dMsg_takePlace : Cond.code m_Msg_takePlace.1 m_Msg_takePlace.2.1 m_Msg_takePlace.2.2.1 m_Msg_takePlace.2.2.2.1 ∈ x_W := x_inW (i := 385) rfl rfl
theorem xw_sMsg_takePlace : Cond.static m_Msg_takePlace.1 ∈ x_W := x_inW (i := 384) (by decide +kernel) (by decide +kernel)
set_option maxRecDepth 100000 in
theorem xw_dMsg_takePlaceBehind : Cond.code m_Msg_takePlaceBehind.1 m_Msg_takePlaceBehind.2.1 m_Msg_takePlaceBehind.2.2.1 m_Msg_takePlaceBehind.2.2.2.1 ∈ x_W := x_inW (i := 415) rfl rfl
theorem xw_sMsg_takePlaceBehind : Cond.static m_Msg_takePlaceBehind.1 ∈ x_W := x_inW (i := 414) (by decide +kernel) (by decide +kernel)
set_option maxRecDepth 100000 in
theorem xw_dMsg_takeLimit : Cond.code m_Msg_takeLimit.1 m_Msg_takeLimit.2.1 m_Msg_takeLimit.2.2.1 m_Msg_takeLimit.2.2.2.1 ∈ x_W := x_inW (i := 434) rfl rfl
theorem xw_sMsg_takeLimit : Cond.static m_Msg_takeLimit.1 ∈ x_W := x_inW (i := 433) (by decide +kernel) (by decide +kernel)
set_option maxRecDepth 100000 in
theorem xw_dNot_init : Cond.code m_Not_init.1 m_Not_init.2.1 m_Not_init.2.2.1 m_Not_init.2.2.2.1 ∈ x_W := x_inW (i := 260) rfl rfl
theorem xw_eNot_init : Cond.instanceMethod m_Not_init.1 ∈ x_W := x_inW (i := 259) (by decide +kernel) (by decide +kernel)
set_option maxRecDepth 100000 in
theorem xw_dNot_add : Cond.code m_Not_add.1 m_Not_add.2.1 m_Not_add.2.2.1 m_Not_add.2.2.2.1 ∈ x_W := x_inW (i := 544) rfl rfl
theorem xw_eNot_add : Cond.instanceMethod m_Not_add.1 ∈ x_W := x_inW (i := 542) (by decide +kernel) (by decide +kernel)
theorem xw_vNot_add : Cond.selects m_Not_add.1.cls m_Not_add.1 m_Not_add.1 ∈ x_W := x_inW (i := 543) (by decide +kernel) (by decide +kernel)
set_option maxRecDepth 100000 in
theorem xw_dNot_get : Cond.code m_Not_get.1 m_Not_get.2.1 m_Not_get.2.2.1 m_Not_get.2.2.2.1 ∈ x_W := x_inW (i := 717) rfl rfl
theorem xw_eNot_get : Cond.instanceMethod m_Not_get.1 ∈ x_W := x_inW (i := 715) (by decide +kernel) (by decide +kernel)
theorem xw_vNot_get : Cond.selects m_Not_get.1.cls m_Not_get.1 m_Not_get.1 ∈ x_W := x_inW (i := 716) (by decide +kernel) (by decide +kernel)
set_option maxRecDepth 100000 in
theorem xw_dRes_init : Cond.code m_Res_init.1 m_Res_init.2.1 m_Res_init.2.2.1 m_Res_init.2.2.2.1 ∈ x_W := x_inW (i := 75) rfl rfl
theorem xw_eRes_init : Cond.instanceMethod m_Res_init.1 ∈ x_W := x_inW (i := 74) (by decide +kernel) (by decide +kernel)
set_option maxRecDepth 100000 in
theorem xw_dRes_hasRoom : Cond.code m_Res_hasRoom.1 m_Res_hasRoom.2.1 m_Res_hasRoom.2.2.1 m_Res_hasRoom.2.2.2.1 ∈ x_W := x_inW (i := 532) rfl rfl
theorem xw_eRes_hasRoom : Cond.instanceMethod m_Res_hasRoom.1 ∈ x_W := x_inW (i := 530) (by decide +kernel) (by decide +kernel)
theorem xw_vRes_hasRoom : Cond.selects m_Res_hasRoom.1.cls m_Res_hasRoom.1 m_Res_hasRoom.1 ∈ x_W := x_inW (i := 531) (by decide +kernel) (by decide +kernel)
set_option maxRecDepth 100000 in
theorem xw_dRes_remove : Cond.code m_Res_remove.1 m_Res_remove.2.1 m_Res_remove.2.2.1 m_Res_remove.2.2.2.1 ∈ x_W := x_inW (i := 570) rfl rfl
theorem xw_eRes_remove : Cond.instanceMethod m_Res_remove.1 ∈ x_W := x_inW (i := 568) (by decide +kernel) (by decide +kernel)
theorem xw_vRes_remove : Cond.selects m_Res_remove.1.cls m_Res_remove.1 m_Res_remove.1 ∈ x_W := x_inW (i := 569) (by decide +kernel) (by decide +kernel)
set_option maxRecDepth 100000 in
theorem xw_dRes_put : Cond.code m_Res_put.1 m_Res_put.2.1 m_Res_put.2.2.1 m_Res_put.2.2.2.1 ∈ x_W := x_inW (i := 578) rfl rfl
theorem xw_eRes_put : Cond.instanceMethod m_Res_put.1 ∈ x_W := x_inW (i := 576) (by decide +kernel) (by decide +kernel)
theorem xw_vRes_put : Cond.selects m_Res_put.1.cls m_Res_put.1 m_Res_put.1 ∈ x_W := x_inW (i := 577) (by decide +kernel) (by decide +kernel)
set_option maxRecDepth 100000 in
theorem xw_dRes_indexOf : Cond.code m_Res_indexOf.1 m_Res_indexOf.2.1 m_Res_indexOf.2.2.1 m_Res_indexOf.2.2.2.1 ∈ x_W := x_inW (i := 536) rfl rfl
theorem xw_eRes_indexOf : Cond.instanceMethod m_Res_indexOf.1 ∈ x_W := x_inW (i := 535) (by decide +kernel) (by decide +kernel)
theorem xw_vRes_indexOf : Cond.selects m_Res_indexOf.1.cls m_Res_indexOf.1 m_Res_indexOf.1 ∈ x_W := x_inP (i := 17) (by decide +kernel) (by decide +kernel)
set_option maxRecDepth 100000 in
theorem xw_dSpn_init : Cond.code m_Spn_init.1 m_Spn_init.2.1 m_Spn_init.2.2.1 m_Spn_init.2.2.2.1 ∈ x_W := x_inW (i := 51) rfl rfl
theorem xw_eSpn_init : Cond.instanceMethod m_Spn_init.1 ∈ x_W := x_inW (i := 50) (by decide +kernel) (by decide +kernel)
set_option maxRecDepth 100000 in
theorem xw_dSpn_isEmpty : Cond.code m_Spn_isEmpty.1 m_Spn_isEmpty.2.1 m_Spn_isEmpty.2.2.1 m_Spn_isEmpty.2.2.2.1 ∈ x_W := x_inW (i := 603) rfl rfl
theorem xw_eSpn_isEmpty : Cond.instanceMethod m_Spn_isEmpty.1 ∈ x_W := x_inW (i := 601) (by decide +kernel) (by decide +kernel)
theorem xw_vSpn_isEmpty : Cond.selects m_Spn_isEmpty.1.cls m_Spn_isEmpty.1 m_Spn_isEmpty.1 ∈ x_W := x_inW (i := 602) (by decide +kernel) (by decide +kernel)
set_option maxRecDepth 100000 in
theorem xw_dSpn_clear : Cond.code m_Spn_clear.1 m_Spn_clear.2.1 m_Spn_clear.2.2.1 m_Spn_clear.2.2.2.1 ∈ x_W := x_inW (i := 431) rfl rfl
theorem xw_eSpn_clear : Cond.instanceMethod m_Spn_clear.1 ∈ x_W := x_inW (i := 429) (by decide +kernel) (by decide +kernel)
theorem xw_vSpn_clear : Cond.selects m_Spn_clear.1.cls m_Spn_clear.1 m_Spn_clear.1 ∈ x_W := x_inW (i := 430) (by decide +kernel) (by decide +kernel)
set_option maxRecDepth 100000 in
theorem xw_dSpn_add : Cond.code m_Spn_add.1 m_Spn_add.2.1 m_Spn_add.2.2.1 m_Spn_add.2.2.2.1 ∈ x_W := x_inW (i := 444) rfl rfl
theorem xw_eSpn_add : Cond.instanceMethod m_Spn_add.1 ∈ x_W := x_inW (i := 442) (by decide +kernel) (by decide +kernel)
theorem xw_vSpn_add : Cond.selects m_Spn_add.1.cls m_Spn_add.1 m_Spn_add.1 ∈ x_W := x_inW (i := 443) (by decide +kernel) (by decide +kernel)
set_option maxRecDepth 100000 in
theorem xw_dSpn_addStep : Cond.code m_Spn_addStep.1 m_Spn_addStep.2.1 m_Spn_addStep.2.2.1 m_Spn_addStep.2.2.2.1 ∈ x_W := x_inW (i := 439) rfl rfl
theorem xw_eSpn_addStep : Cond.instanceMethod m_Spn_addStep.1 ∈ x_W := x_inW (i := 437) (by decide +kernel) (by decide +kernel)
theorem xw_vSpn_addStep : Cond.selects m_Spn_addStep.1.cls m_Spn_addStep.1 m_Spn_addStep.1 ∈ x_W := x_inW (i := 438) (by decide +kernel) (by decide +kernel)
set_option maxRecDepth 100000 in
theorem xw_dSpn_copyFrom : Cond.code m_Spn_copyFrom.1 m_Spn_copyFrom.2.1 m_Spn_copyFrom.2.2.1 m_Spn_copyFrom.2.2.2.1 ∈ x_W := x_inW (i := 584) rfl rfl
theorem xw_eSpn_copyFrom : Cond.instanceMethod m_Spn_copyFrom.1 ∈ x_W := x_inW (i := 582) (by decide +kernel) (by decide +kernel)
theorem xw_vSpn_copyFrom : Cond.selects m_Spn_copyFrom.1.cls m_Spn_copyFrom.1 m_Spn_copyFrom.1 ∈ x_W := x_inW (i := 583) (by decide +kernel) (by decide +kernel)
set_option maxRecDepth 100000 in
theorem xw_dSpn_fillFromLast : Cond.code m_Spn_fillFromLast.1 m_Spn_fillFromLast.2.1 m_Spn_fillFromLast.2.2.1 m_Spn_fillFromLast.2.2.2.1 ∈ x_W := x_inW (i := 574) rfl rfl
theorem xw_eSpn_fillFromLast : Cond.instanceMethod m_Spn_fillFromLast.1 ∈ x_W := x_inW (i := 572) (by decide +kernel) (by decide +kernel)
theorem xw_vSpn_fillFromLast : Cond.selects m_Spn_fillFromLast.1.cls m_Spn_fillFromLast.1 m_Spn_fillFromLast.1 ∈ x_W := x_inW (i := 573) (by decide +kernel) (by decide +kernel)
set_option maxRecDepth 100000 in
theorem xw_dSpn_least : Cond.code m_Spn_least.1 m_Spn_least.2.1 m_Spn_least.2.2.1 m_Spn_least.2.2.2.1 ∈ x_W := x_inW (i := 484) rfl rfl
theorem xw_eSpn_least : Cond.instanceMethod m_Spn_least.1 ∈ x_W := x_inW (i := 482) (by decide +kernel) (by decide +kernel)
theorem xw_vSpn_least : Cond.selects m_Spn_least.1.cls m_Spn_least.1 m_Spn_least.1 ∈ x_W := x_inW (i := 483) (by decide +kernel) (by decide +kernel)
set_option maxRecDepth 100000 in
theorem xw_dSpn_greatest : Cond.code m_Spn_greatest.1 m_Spn_greatest.2.1 m_Spn_greatest.2.2.1 m_Spn_greatest.2.2.2.1 ∈ x_W := x_inW (i := 497) rfl rfl
theorem xw_eSpn_greatest : Cond.instanceMethod m_Spn_greatest.1 ∈ x_W := x_inW (i := 495) (by decide +kernel) (by decide +kernel)
theorem xw_vSpn_greatest : Cond.selects m_Spn_greatest.1.cls m_Spn_greatest.1 m_Spn_greatest.1 ∈ x_W := x_inW (i := 496) (by decide +kernel) (by decide +kernel)
set_option maxRecDepth 100000 in
theorem xw_dTrk_init : Cond.code m_Trk_init.1 m_Trk_init.2.1 m_Trk_init.2.2.1 m_Trk_init.2.2.2.1 ∈ x_W := x_inW (i := 45) rfl rfl
theorem xw_eTrk_init : Cond.instanceMethod m_Trk_init.1 ∈ x_W := x_inW (i := 44) (by decide +kernel) (by decide +kernel)
set_option maxRecDepth 100000 in
theorem xw_dTrk_forget : Cond.code m_Trk_forget.1 m_Trk_forget.2.1 m_Trk_forget.2.2.1 m_Trk_forget.2.2.2.1 ∈ x_W := x_inW (i := 560) rfl rfl
theorem xw_eTrk_forget : Cond.instanceMethod m_Trk_forget.1 ∈ x_W := x_inW (i := 558) (by decide +kernel) (by decide +kernel)
theorem xw_vTrk_forget : Cond.selects m_Trk_forget.1.cls m_Trk_forget.1 m_Trk_forget.1 ∈ x_W := x_inW (i := 559) (by decide +kernel) (by decide +kernel)
set_option maxRecDepth 100000 in
theorem xw_dTrk_leastLimit : Cond.code m_Trk_leastLimit.1 m_Trk_leastLimit.2.1 m_Trk_leastLimit.2.2.1 m_Trk_leastLimit.2.2.2.1 ∈ x_W := x_inW (i := 480) rfl rfl
theorem xw_eTrk_leastLimit : Cond.instanceMethod m_Trk_leastLimit.1 ∈ x_W := x_inW (i := 478) (by decide +kernel) (by decide +kernel)
theorem xw_vTrk_leastLimit : Cond.selects m_Trk_leastLimit.1.cls m_Trk_leastLimit.1 m_Trk_leastLimit.1 ∈ x_W := x_inW (i := 479) (by decide +kernel) (by decide +kernel)
set_option maxRecDepth 100000 in
theorem xw_dTrk_put : Cond.code m_Trk_put.1 m_Trk_put.2.1 m_Trk_put.2.2.1 m_Trk_put.2.2.2.1 ∈ x_W := x_inW (i := 566) rfl rfl
theorem xw_eTrk_put : Cond.instanceMethod m_Trk_put.1 ∈ x_W := x_inW (i := 564) (by decide +kernel) (by decide +kernel)
theorem xw_vTrk_put : Cond.selects m_Trk_put.1.cls m_Trk_put.1 m_Trk_put.1 ∈ x_W := x_inW (i := 565) (by decide +kernel) (by decide +kernel)
set_option maxRecDepth 100000 in
theorem xw_dLaw_cell : Cond.code m_Law_cell.1 m_Law_cell.2.1 m_Law_cell.2.2.1 m_Law_cell.2.2.2.1 ∈ x_W := x_inW (i := 720) rfl rfl
theorem xw_sLaw_cell : Cond.static m_Law_cell.1 ∈ x_W := x_inW (i := 719) (by decide +kernel) (by decide +kernel)
set_option maxRecDepth 100000 in
theorem xw_dMth_max : Cond.code m_Mth_max.1 m_Mth_max.2.1 m_Mth_max.2.2.1 m_Mth_max.2.2.2.1 ∈ x_W := x_inW (i := 280) rfl rfl
theorem xw_sMth_max : Cond.static m_Mth_max.1 ∈ x_W := x_inW (i := 279) (by decide +kernel) (by decide +kernel)
set_option maxRecDepth 100000 in
theorem xw_dMth_min : Cond.code m_Mth_min.1 m_Mth_min.2.1 m_Mth_min.2.2.1 m_Mth_min.2.2.2.1 ∈ x_W := x_inW (i := 277) rfl rfl
theorem xw_sMth_min : Cond.static m_Mth_min.1 ∈ x_W := x_inW (i := 276) (by decide +kernel) (by decide +kernel)
end
section
theorem d_G_init_0 : decode prog_1_method_1_code 0 = .ok (.aload_n 0, 1) := by decide +kernel
theorem d_G_init_1 : decode prog_1_method_1_code 1 = .ok (.invokespecial 1, 3) := by decide +kernel
theorem d_G_init_4 : decode prog_1_method_1_code 4 = .ok (.aload_n 0, 1) := by decide +kernel
theorem d_G_init_5 : decode prog_1_method_1_code 5 = .ok (.new 7, 3) := by decide +kernel
theorem d_G_init_8 : decode prog_1_method_1_code 8 = .ok (.dup, 1) := by decide +kernel
theorem d_G_init_9 : decode prog_1_method_1_code 9 = .ok (.invokespecial 9, 3) := by decide +kernel
theorem d_G_init_12 : decode prog_1_method_1_code 12 = .ok (.putfield 10, 3) := by decide +kernel
theorem d_G_init_15 : decode prog_1_method_1_code 15 = .ok (.aload_n 0, 1) := by decide +kernel
theorem d_G_init_16 : decode prog_1_method_1_code 16 = .ok (.new 16, 3) := by decide +kernel
theorem d_G_init_19 : decode prog_1_method_1_code 19 = .ok (.dup, 1) := by decide +kernel
theorem d_G_init_20 : decode prog_1_method_1_code 20 = .ok (.invokespecial 18, 3) := by decide +kernel
theorem d_G_init_23 : decode prog_1_method_1_code 23 = .ok (.putfield 19, 3) := by decide +kernel
theorem d_G_init_26 : decode prog_1_method_1_code 26 = .ok (.aload_n 0, 1) := by decide +kernel
theorem d_G_init_27 : decode prog_1_method_1_code 27 = .ok (.new 23, 3) := by decide +kernel
theorem d_G_init_30 : decode prog_1_method_1_code 30 = .ok (.dup, 1) := by decide +kernel
theorem d_G_init_31 : decode prog_1_method_1_code 31 = .ok (.invokespecial 25, 3) := by decide +kernel
theorem d_G_init_34 : decode prog_1_method_1_code 34 = .ok (.putfield 26, 3) := by decide +kernel
theorem d_G_init_37 : decode prog_1_method_1_code 37 = .ok (.aload_n 0, 1) := by decide +kernel
theorem d_G_init_38 : decode prog_1_method_1_code 38 = .ok (.new 30, 3) := by decide +kernel
theorem d_G_init_41 : decode prog_1_method_1_code 41 = .ok (.dup, 1) := by decide +kernel
theorem d_G_init_42 : decode prog_1_method_1_code 42 = .ok (.invokespecial 32, 3) := by decide +kernel
theorem d_G_init_45 : decode prog_1_method_1_code 45 = .ok (.putfield 33, 3) := by decide +kernel
theorem d_G_init_48 : decode prog_1_method_1_code 48 = .ok (.aload_n 0, 1) := by decide +kernel
theorem d_G_init_49 : decode prog_1_method_1_code 49 = .ok (.new 37, 3) := by decide +kernel
theorem d_G_init_52 : decode prog_1_method_1_code 52 = .ok (.dup, 1) := by decide +kernel
theorem d_G_init_53 : decode prog_1_method_1_code 53 = .ok (.invokespecial 39, 3) := by decide +kernel
theorem d_G_init_56 : decode prog_1_method_1_code 56 = .ok (.putfield 40, 3) := by decide +kernel
theorem d_G_init_59 : decode prog_1_method_1_code 59 = .ok (.aload_n 0, 1) := by decide +kernel
theorem d_G_init_60 : decode prog_1_method_1_code 60 = .ok (.new 44, 3) := by decide +kernel
theorem d_G_init_63 : decode prog_1_method_1_code 63 = .ok (.dup, 1) := by decide +kernel
theorem d_G_init_64 : decode prog_1_method_1_code 64 = .ok (.invokespecial 46, 3) := by decide +kernel
theorem d_G_init_67 : decode prog_1_method_1_code 67 = .ok (.putfield 47, 3) := by decide +kernel
theorem d_G_init_70 : decode prog_1_method_1_code 70 = .ok (.aload_n 0, 1) := by decide +kernel
theorem d_G_init_71 : decode prog_1_method_1_code 71 = .ok (.iconst 0, 1) := by decide +kernel
theorem d_G_init_72 : decode prog_1_method_1_code 72 = .ok (.putfield 51, 3) := by decide +kernel
theorem d_G_init_75 : decode prog_1_method_1_code 75 = .ok (.aload_n 0, 1) := by decide +kernel
theorem d_G_init_76 : decode prog_1_method_1_code 76 = .ok (.iconst (-1), 1) := by decide +kernel
theorem d_G_init_77 : decode prog_1_method_1_code 77 = .ok (.putfield 55, 3) := by decide +kernel
theorem d_G_init_80 : decode prog_1_method_1_code 80 = .ok (.iload_n 1, 1) := by decide +kernel
theorem d_G_init_81 : decode prog_1_method_1_code 81 = .ok (.iconst 4, 1) := by decide +kernel
theorem d_G_init_82 : decode prog_1_method_1_code 82 = .ok (.bipush (40), 2) := by decide +kernel
theorem d_G_init_84 : decode prog_1_method_1_code 84 = .ok (.invokestatic 58, 3) := by decide +kernel
theorem d_G_init_87 : decode prog_1_method_1_code 87 = .ok (.istore 4, 2) := by decide +kernel
theorem d_G_init_89 : decode prog_1_method_1_code 89 = .ok (.aload_n 0, 1) := by decide +kernel
theorem d_G_init_90 : decode prog_1_method_1_code 90 = .ok (.new 62, 3) := by decide +kernel
theorem d_G_init_93 : decode prog_1_method_1_code 93 = .ok (.dup, 1) := by decide +kernel
theorem d_G_init_94 : decode prog_1_method_1_code 94 = .ok (.iload 4, 2) := by decide +kernel
theorem d_G_init_96 : decode prog_1_method_1_code 96 = .ok (.iload_n 2, 1) := by decide +kernel
theorem d_G_init_97 : decode prog_1_method_1_code 97 = .ok (.iconst 2, 1) := by decide +kernel
theorem d_G_init_98 : decode prog_1_method_1_code 98 = .ok (.iload 4, 2) := by decide +kernel
theorem d_G_init_100 : decode prog_1_method_1_code 100 = .ok (.invokestatic 58, 3) := by decide +kernel
theorem d_G_init_103 : decode prog_1_method_1_code 103 = .ok (.invokespecial 64, 3) := by decide +kernel
theorem d_G_init_106 : decode prog_1_method_1_code 106 = .ok (.putfield 67, 3) := by decide +kernel
theorem d_G_init_109 : decode prog_1_method_1_code 109 = .ok (.aload_n 0, 1) := by decide +kernel
theorem d_G_init_110 : decode prog_1_method_1_code 110 = .ok (.iload_n 3, 1) := by decide +kernel
theorem d_G_init_111 : decode prog_1_method_1_code 111 = .ok (.iconst 0, 1) := by decide +kernel
theorem d_G_init_112 : decode prog_1_method_1_code 112 = .ok (.sipush (4000), 3) := by decide +kernel
theorem d_G_init_115 : decode prog_1_method_1_code 115 = .ok (.invokestatic 58, 3) := by decide +kernel
theorem d_G_init_118 : decode prog_1_method_1_code 118 = .ok (.putfield 71, 3) := by decide +kernel
theorem d_G_init_121 : decode prog_1_method_1_code 121 = .ok (.return_, 1) := by decide +kernel
theorem d_G_bits_0 : decode prog_1_method_2_code 0 = .ok (.aload_n 0, 1) := by decide +kernel
theorem d_G_bits_1 : decode prog_1_method_2_code 1 = .ok (.getfield 26, 3) := by decide +kernel
theorem d_G_bits_4 : decode prog_1_method_2_code 4 = .ok (.iload_n 1, 1) := by decide +kernel
theorem d_G_bits_5 : decode prog_1_method_2_code 5 = .ok (.iload_n 2, 1) := by decide +kernel
theorem d_G_bits_6 : decode prog_1_method_2_code 6 = .ok (.invokevirtual 74, 3) := by decide +kernel
theorem d_G_bits_9 : decode prog_1_method_2_code 9 = .ok (.ireturn, 1) := by decide +kernel
theorem d_G_message_0 : decode prog_1_method_3_code 0 = .ok (.aload_n 0, 1) := by decide +kernel
theorem d_G_message_1 : decode prog_1_method_3_code 1 = .ok (.getfield 33, 3) := by decide +kernel
theorem d_G_message_4 : decode prog_1_method_3_code 4 = .ok (.aload_n 0, 1) := by decide +kernel
theorem d_G_message_5 : decode prog_1_method_3_code 5 = .ok (.getfield 26, 3) := by decide +kernel
theorem d_G_message_8 : decode prog_1_method_3_code 8 = .ok (.aload_n 0, 1) := by decide +kernel
theorem d_G_message_9 : decode prog_1_method_3_code 9 = .ok (.getfield 55, 3) := by decide +kernel
theorem d_G_message_12 : decode prog_1_method_3_code 12 = .ok (.invokevirtual 78, 3) := by decide +kernel
theorem d_G_message_15 : decode prog_1_method_3_code 15 = .ok (.istore_n 1, 1) := by decide +kernel
theorem d_G_message_16 : decode prog_1_method_3_code 16 = .ok (.aload_n 0, 1) := by decide +kernel
theorem d_G_message_17 : decode prog_1_method_3_code 17 = .ok (.getfield 26, 3) := by decide +kernel
theorem d_G_message_20 : decode prog_1_method_3_code 20 = .ok (.invokevirtual 82, 3) := by decide +kernel
theorem d_G_message_23 : decode prog_1_method_3_code 23 = .ok (.iload_n 1, 1) := by decide +kernel
theorem d_G_message_24 : decode prog_1_method_3_code 24 = .ok (.ifCond .ne (8), 3) := by decide +kernel
theorem d_G_message_27 : decode prog_1_method_3_code 27 = .ok (.aload_n 0, 1) := by decide +kernel
theorem d_G_message_28 : decode prog_1_method_3_code 28 = .ok (.invokevirtual 85, 3) := by decide +kernel
theorem d_G_message_31 : decode prog_1_method_3_code 31 = .ok (.istore_n 1, 1) := by decide +kernel
theorem d_G_message_32 : decode prog_1_method_3_code 32 = .ok (.iload_n 1, 1) := by decide +kernel
theorem d_G_message_33 : decode prog_1_method_3_code 33 = .ok (.ifCond .eq (11), 3) := by decide +kernel
theorem d_G_message_36 : decode prog_1_method_3_code 36 = .ok (.aload_n 0, 1) := by decide +kernel
theorem d_G_message_37 : decode prog_1_method_3_code 37 = .ok (.iconst 4, 1) := by decide +kernel
theorem d_G_message_38 : decode prog_1_method_3_code 38 = .ok (.iload_n 1, 1) := by decide +kernel
theorem d_G_message_39 : decode prog_1_method_3_code 39 = .ok (.invokevirtual 89, 3) := by decide +kernel
theorem d_G_message_42 : decode prog_1_method_3_code 42 = .ok (.iload_n 1, 1) := by decide +kernel
theorem d_G_message_43 : decode prog_1_method_3_code 43 = .ok (.ireturn, 1) := by decide +kernel
theorem d_G_message_44 : decode prog_1_method_3_code 44 = .ok (.aload_n 0, 1) := by decide +kernel
theorem d_G_message_45 : decode prog_1_method_3_code 45 = .ok (.iconst 3, 1) := by decide +kernel
theorem d_G_message_46 : decode prog_1_method_3_code 46 = .ok (.aload_n 0, 1) := by decide +kernel
theorem d_G_message_47 : decode prog_1_method_3_code 47 = .ok (.getfield 33, 3) := by decide +kernel
theorem d_G_message_50 : decode prog_1_method_3_code 50 = .ok (.getfield 92, 3) := by decide +kernel
theorem d_G_message_53 : decode prog_1_method_3_code 53 = .ok (.invokevirtual 89, 3) := by decide +kernel
theorem d_G_message_56 : decode prog_1_method_3_code 56 = .ok (.aload_n 0, 1) := by decide +kernel
theorem d_G_message_57 : decode prog_1_method_3_code 57 = .ok (.aload_n 0, 1) := by decide +kernel
theorem d_G_message_58 : decode prog_1_method_3_code 58 = .ok (.getfield 33, 3) := by decide +kernel
theorem d_G_message_61 : decode prog_1_method_3_code 61 = .ok (.getfield 95, 3) := by decide +kernel
theorem d_G_message_64 : decode prog_1_method_3_code 64 = .ok (.putfield 55, 3) := by decide +kernel
theorem d_G_message_67 : decode prog_1_method_3_code 67 = .ok (.aload_n 0, 1) := by decide +kernel
theorem d_G_message_68 : decode prog_1_method_3_code 68 = .ok (.invokevirtual 98, 3) := by decide +kernel
theorem d_G_message_71 : decode prog_1_method_3_code 71 = .ok (.iconst 0, 1) := by decide +kernel
theorem d_G_message_72 : decode prog_1_method_3_code 72 = .ok (.ireturn, 1) := by decide +kernel
theorem d_G_mark_0 : decode prog_1_method_4_code 0 = .ok (.aload_n 0, 1) := by decide +kernel
theorem d_G_mark_1 : decode prog_1_method_4_code 1 = .ok (.getfield 19, 3) := by decide +kernel
theorem d_G_mark_4 : decode prog_1_method_4_code 4 = .ok (.getfield 101, 3) := by decide +kernel
theorem d_G_mark_7 : decode prog_1_method_4_code 7 = .ok (.astore_n 2, 1) := by decide +kernel
theorem d_G_mark_8 : decode prog_1_method_4_code 8 = .ok (.aload_n 2, 1) := by decide +kernel
theorem d_G_mark_9 : decode prog_1_method_4_code 9 = .ok (.iload_n 1, 1) := by decide +kernel
theorem d_G_mark_10 : decode prog_1_method_4_code 10 = .ok (.invokevirtual 105, 3) := by decide +kernel
theorem d_G_mark_13 : decode prog_1_method_4_code 13 = .ok (.istore_n 3, 1) := by decide +kernel
theorem d_G_mark_14 : decode prog_1_method_4_code 14 = .ok (.iload_n 3, 1) := by decide +kernel
theorem d_G_mark_15 : decode prog_1_method_4_code 15 = .ok (.ifCond .ge (5), 3) := by decide +kernel
theorem d_G_mark_18 : decode prog_1_method_4_code 18 = .ok (.iconst 0, 1) := by decide +kernel
theorem d_G_mark_19 : decode prog_1_method_4_code 19 = .ok (.ireturn, 1) := by decide +kernel
theorem d_G_mark_20 : decode prog_1_method_4_code 20 = .ok (.aload_n 2, 1) := by decide +kernel
theorem d_G_mark_21 : decode prog_1_method_4_code 21 = .ok (.iload_n 3, 1) := by decide +kernel
theorem d_G_mark_22 : decode prog_1_method_4_code 22 = .ok (.invokevirtual 111, 3) := by decide +kernel
theorem d_G_mark_25 : decode prog_1_method_4_code 25 = .ok (.ifCond .ne (33), 3) := by decide +kernel
theorem d_G_mark_28 : decode prog_1_method_4_code 28 = .ok (.aload_n 0, 1) := by decide +kernel
theorem d_G_mark_29 : decode prog_1_method_4_code 29 = .ok (.getfield 10, 3) := by decide +kernel
theorem d_G_mark_32 : decode prog_1_method_4_code 32 = .ok (.getfield 115, 3) := by decide +kernel
theorem d_G_mark_35 : decode prog_1_method_4_code 35 = .ok (.aload_n 2, 1) := by decide +kernel
theorem d_G_mark_36 : decode prog_1_method_4_code 36 = .ok (.iload_n 3, 1) := by decide +kernel
theorem d_G_mark_37 : decode prog_1_method_4_code 37 = .ok (.invokevirtual 118, 3) := by decide +kernel
theorem d_G_mark_40 : decode prog_1_method_4_code 40 = .ok (.if_icmp .lt (18), 3) := by decide +kernel
theorem d_G_mark_43 : decode prog_1_method_4_code 43 = .ok (.aload_n 0, 1) := by decide +kernel
theorem d_G_mark_44 : decode prog_1_method_4_code 44 = .ok (.getfield 10, 3) := by decide +kernel
theorem d_G_mark_47 : decode prog_1_method_4_code 47 = .ok (.getfield 121, 3) := by decide +kernel
theorem d_G_mark_50 : decode prog_1_method_4_code 50 = .ok (.aload_n 2, 1) := by decide +kernel
theorem d_G_mark_51 : decode prog_1_method_4_code 51 = .ok (.iload_n 3, 1) := by decide +kernel
theorem d_G_mark_52 : decode prog_1_method_4_code 52 = .ok (.invokevirtual 124, 3) := by decide +kernel
theorem d_G_mark_55 : decode prog_1_method_4_code 55 = .ok (.if_icmp .le (7), 3) := by decide +kernel
theorem d_G_mark_58 : decode prog_1_method_4_code 58 = .ok (.iconst 1, 1) := by decide +kernel
theorem d_G_mark_59 : decode prog_1_method_4_code 59 = .ok (.goto (4), 3) := by decide +kernel
theorem d_G_mark_62 : decode prog_1_method_4_code 62 = .ok (.iconst 0, 1) := by decide +kernel
theorem d_G_mark_63 : decode prog_1_method_4_code 63 = .ok (.istore 4, 2) := by decide +kernel
theorem d_G_mark_65 : decode prog_1_method_4_code 65 = .ok (.aload_n 2, 1) := by decide +kernel
theorem d_G_mark_66 : decode prog_1_method_4_code 66 = .ok (.iload_n 3, 1) := by decide +kernel
theorem d_G_mark_67 : decode prog_1_method_4_code 67 = .ok (.invokevirtual 127, 3) := by decide +kernel
theorem d_G_mark_70 : decode prog_1_method_4_code 70 = .ok (.aload_n 0, 1) := by decide +kernel
theorem d_G_mark_71 : decode prog_1_method_4_code 71 = .ok (.iconst 5, 1) := by decide +kernel
theorem d_G_mark_72 : decode prog_1_method_4_code 72 = .ok (.iload_n 1, 1) := by decide +kernel
theorem d_G_mark_73 : decode prog_1_method_4_code 73 = .ok (.bipush (100), 2) := by decide +kernel
theorem d_G_mark_75 : decode prog_1_method_4_code 75 = .ok (.irem, 1) := by decide +kernel
theorem d_G_mark_76 : decode prog_1_method_4_code 76 = .ok (.invokevirtual 89, 3) := by decide +kernel
theorem d_G_mark_79 : decode prog_1_method_4_code 79 = .ok (.iload 4, 2) := by decide +kernel
theorem d_G_mark_81 : decode prog_1_method_4_code 81 = .ok (.ifCond .eq (10), 3) := by decide +kernel
theorem d_G_mark_84 : decode prog_1_method_4_code 84 = .ok (.aload_n 0, 1) := by decide +kernel
theorem d_G_mark_85 : decode prog_1_method_4_code 85 = .ok (.invokevirtual 131, 3) := by decide +kernel
theorem d_G_mark_88 : decode prog_1_method_4_code 88 = .ok (.goto (20), 3) := by decide +kernel
theorem d_G_mark_91 : decode prog_1_method_4_code 91 = .ok (.aload_n 0, 1) := by decide +kernel
theorem d_G_mark_92 : decode prog_1_method_4_code 92 = .ok (.getfield 10, 3) := by decide +kernel
theorem d_G_mark_95 : decode prog_1_method_4_code 95 = .ok (.aload_n 2, 1) := by decide +kernel
theorem d_G_mark_96 : decode prog_1_method_4_code 96 = .ok (.iload_n 3, 1) := by decide +kernel
theorem d_G_mark_97 : decode prog_1_method_4_code 97 = .ok (.invokevirtual 118, 3) := by decide +kernel
theorem d_G_mark_100 : decode prog_1_method_4_code 100 = .ok (.aload_n 2, 1) := by decide +kernel
theorem d_G_mark_101 : decode prog_1_method_4_code 101 = .ok (.iload_n 3, 1) := by decide +kernel
theorem d_G_mark_102 : decode prog_1_method_4_code 102 = .ok (.invokevirtual 124, 3) := by decide +kernel
theorem d_G_mark_105 : decode prog_1_method_4_code 105 = .ok (.invokevirtual 134, 3) := by decide +kernel
theorem d_G_mark_108 : decode prog_1_method_4_code 108 = .ok (.iconst 1, 1) := by decide +kernel
theorem d_G_mark_109 : decode prog_1_method_4_code 109 = .ok (.ireturn, 1) := by decide +kernel
theorem d_G_cycle_0 : decode prog_1_method_5_code 0 = .ok (.aload_n 0, 1) := by decide +kernel
theorem d_G_cycle_1 : decode prog_1_method_5_code 1 = .ok (.dup, 1) := by decide +kernel
theorem d_G_cycle_2 : decode prog_1_method_5_code 2 = .ok (.getfield 137, 3) := by decide +kernel
theorem d_G_cycle_5 : decode prog_1_method_5_code 5 = .ok (.iconst 1, 1) := by decide +kernel
theorem d_G_cycle_6 : decode prog_1_method_5_code 6 = .ok (.iadd, 1) := by decide +kernel
theorem d_G_cycle_7 : decode prog_1_method_5_code 7 = .ok (.putfield 137, 3) := by decide +kernel
theorem d_G_cycle_10 : decode prog_1_method_5_code 10 = .ok (.aload_n 0, 1) := by decide +kernel
theorem d_G_cycle_11 : decode prog_1_method_5_code 11 = .ok (.getfield 51, 3) := by decide +kernel
theorem d_G_cycle_14 : decode prog_1_method_5_code 14 = .ok (.bipush (6), 2) := by decide +kernel
theorem d_G_cycle_16 : decode prog_1_method_5_code 16 = .ok (.if_icmp .eq (14), 3) := by decide +kernel
theorem d_G_cycle_19 : decode prog_1_method_5_code 19 = .ok (.iload_n 1, 1) := by decide +kernel
theorem d_G_cycle_20 : decode prog_1_method_5_code 20 = .ok (.ifCond .lt (10), 3) := by decide +kernel
theorem d_G_cycle_23 : decode prog_1_method_5_code 23 = .ok (.iload_n 1, 1) := by decide +kernel
theorem d_G_cycle_24 : decode prog_1_method_5_code 24 = .ok (.sipush (500), 3) := by decide +kernel
theorem d_G_cycle_27 : decode prog_1_method_5_code 27 = .ok (.if_icmp .le (12), 3) := by decide +kernel
theorem d_G_cycle_30 : decode prog_1_method_5_code 30 = .ok (.aload_n 0, 1) := by decide +kernel
theorem d_G_cycle_31 : decode prog_1_method_5_code 31 = .ok (.bipush (6), 2) := by decide +kernel
theorem d_G_cycle_33 : decode prog_1_method_5_code 33 = .ok (.invokevirtual 140, 3) := by decide +kernel
theorem d_G_cycle_36 : decode prog_1_method_5_code 36 = .ok (.goto (15), 3) := by decide +kernel
theorem d_G_cycle_39 : decode prog_1_method_5_code 39 = .ok (.aload_n 0, 1) := by decide +kernel
theorem d_G_cycle_40 : decode prog_1_method_5_code 40 = .ok (.getfield 10, 3) := by decide +kernel
theorem d_G_cycle_43 : decode prog_1_method_5_code 43 = .ok (.iload_n 1, 1) := by decide +kernel
theorem d_G_cycle_44 : decode prog_1_method_5_code 44 = .ok (.invokevirtual 143, 3) := by decide +kernel
theorem d_G_cycle_47 : decode prog_1_method_5_code 47 = .ok (.aload_n 0, 1) := by decide +kernel
theorem d_G_cycle_48 : decode prog_1_method_5_code 48 = .ok (.invokevirtual 146, 3) := by decide +kernel
theorem d_G_cycle_51 : decode prog_1_method_5_code 51 = .ok (.aload_n 0, 1) := by decide +kernel
theorem d_G_cycle_52 : decode prog_1_method_5_code 52 = .ok (.getfield 149, 3) := by decide +kernel
theorem d_G_cycle_55 : decode prog_1_method_5_code 55 = .ok (.ifCond .eq (13), 3) := by decide +kernel
theorem d_G_cycle_58 : decode prog_1_method_5_code 58 = .ok (.aload_n 0, 1) := by decide +kernel
theorem d_G_cycle_59 : decode prog_1_method_5_code 59 = .ok (.dup, 1) := by decide +kernel
theorem d_G_cycle_60 : decode prog_1_method_5_code 60 = .ok (.getfield 153, 3) := by decide +kernel
theorem d_G_cycle_63 : decode prog_1_method_5_code 63 = .ok (.iconst 1, 1) := by decide +kernel
theorem d_G_cycle_64 : decode prog_1_method_5_code 64 = .ok (.iadd, 1) := by decide +kernel
theorem d_G_cycle_65 : decode prog_1_method_5_code 65 = .ok (.putfield 153, 3) := by decide +kernel
theorem d_G_cycle_68 : decode prog_1_method_5_code 68 = .ok (.aload_n 0, 1) := by decide +kernel
theorem d_G_cycle_69 : decode prog_1_method_5_code 69 = .ok (.getfield 149, 3) := by decide +kernel
theorem d_G_cycle_72 : decode prog_1_method_5_code 72 = .ok (.ifCond .eq (15), 3) := by decide +kernel
theorem d_G_cycle_75 : decode prog_1_method_5_code 75 = .ok (.aload_n 0, 1) := by decide +kernel
theorem d_G_cycle_76 : decode prog_1_method_5_code 76 = .ok (.getfield 153, 3) := by decide +kernel
theorem d_G_cycle_79 : decode prog_1_method_5_code 79 = .ok (.iconst 3, 1) := by decide +kernel
theorem d_G_cycle_80 : decode prog_1_method_5_code 80 = .ok (.if_icmp .lt (7), 3) := by decide +kernel
theorem d_G_cycle_83 : decode prog_1_method_5_code 83 = .ok (.iconst 1, 1) := by decide +kernel
theorem d_G_cycle_84 : decode prog_1_method_5_code 84 = .ok (.goto (4), 3) := by decide +kernel
theorem d_G_cycle_87 : decode prog_1_method_5_code 87 = .ok (.iconst 0, 1) := by decide +kernel
theorem d_G_cycle_88 : decode prog_1_method_5_code 88 = .ok (.istore_n 2, 1) := by decide +kernel
theorem d_G_cycle_89 : decode prog_1_method_5_code 89 = .ok (.aload_n 0, 1) := by decide +kernel
theorem d_G_cycle_90 : decode prog_1_method_5_code 90 = .ok (.getfield 40, 3) := by decide +kernel
theorem d_G_cycle_93 : decode prog_1_method_5_code 93 = .ok (.aload_n 0, 1) := by decide +kernel
theorem d_G_cycle_94 : decode prog_1_method_5_code 94 = .ok (.invokevirtual 156, 3) := by decide +kernel
theorem d_G_cycle_97 : decode prog_1_method_5_code 97 = .ok (.iload_n 1, 1) := by decide +kernel
theorem d_G_cycle_98 : decode prog_1_method_5_code 98 = .ok (.ifCond .ne (7), 3) := by decide +kernel
theorem d_G_cycle_101 : decode prog_1_method_5_code 101 = .ok (.iconst 1, 1) := by decide +kernel
theorem d_G_cycle_102 : decode prog_1_method_5_code 102 = .ok (.goto (4), 3) := by decide +kernel
theorem d_G_cycle_105 : decode prog_1_method_5_code 105 = .ok (.iconst 0, 1) := by decide +kernel
theorem d_G_cycle_106 : decode prog_1_method_5_code 106 = .ok (.iload_n 2, 1) := by decide +kernel
theorem d_G_cycle_107 : decode prog_1_method_5_code 107 = .ok (.invokevirtual 159, 3) := by decide +kernel
theorem d_G_cycle_110 : decode prog_1_method_5_code 110 = .ok (.ifCond .eq (15), 3) := by decide +kernel
theorem d_G_cycle_113 : decode prog_1_method_5_code 113 = .ok (.aload_n 0, 1) := by decide +kernel
theorem d_G_cycle_114 : decode prog_1_method_5_code 114 = .ok (.iconst 2, 1) := by decide +kernel
theorem d_G_cycle_115 : decode prog_1_method_5_code 115 = .ok (.aload_n 0, 1) := by decide +kernel
theorem d_G_cycle_116 : decode prog_1_method_5_code 116 = .ok (.getfield 40, 3) := by decide +kernel
theorem d_G_cycle_119 : decode prog_1_method_5_code 119 = .ok (.getfield 163, 3) := by decide +kernel
theorem d_G_cycle_122 : decode prog_1_method_5_code 122 = .ok (.invokevirtual 89, 3) := by decide +kernel
theorem d_G_cycle_125 : decode prog_1_method_5_code 125 = .ok (.aload_n 0, 1) := by decide +kernel
theorem d_G_cycle_126 : decode prog_1_method_5_code 126 = .ok (.getfield 40, 3) := by decide +kernel
theorem d_G_cycle_129 : decode prog_1_method_5_code 129 = .ok (.getfield 163, 3) := by decide +kernel
theorem d_G_cycle_132 : decode prog_1_method_5_code 132 = .ok (.ireturn, 1) := by decide +kernel
theorem d_G_driver_0 : decode prog_1_method_6_code 0 = .ok (.aload_n 0, 1) := by decide +kernel
theorem d_G_driver_1 : decode prog_1_method_6_code 1 = .ok (.iload_n 1, 1) := by decide +kernel
theorem d_G_driver_2 : decode prog_1_method_6_code 2 = .ok (.invokevirtual 166, 3) := by decide +kernel
theorem d_G_driver_5 : decode prog_1_method_6_code 5 = .ok (.ifCond .ne (5), 3) := by decide +kernel
theorem d_G_driver_8 : decode prog_1_method_6_code 8 = .ok (.iconst 0, 1) := by decide +kernel
theorem d_G_driver_9 : decode prog_1_method_6_code 9 = .ok (.ireturn, 1) := by decide +kernel
theorem d_G_driver_10 : decode prog_1_method_6_code 10 = .ok (.aload_n 0, 1) := by decide +kernel
theorem d_G_driver_11 : decode prog_1_method_6_code 11 = .ok (.bipush (7), 2) := by decide +kernel
theorem d_G_driver_13 : decode prog_1_method_6_code 13 = .ok (.iload_n 1, 1) := by decide +kernel
theorem d_G_driver_14 : decode prog_1_method_6_code 14 = .ok (.invokevirtual 89, 3) := by decide +kernel
theorem d_G_driver_17 : decode prog_1_method_6_code 17 = .ok (.iload_n 1, 1) := by decide +kernel
theorem d_G_driver_18 : decode prog_1_method_6_code 18 = .ok (.ifCond .ne (10), 3) := by decide +kernel
theorem d_G_driver_21 : decode prog_1_method_6_code 21 = .ok (.aload_n 0, 1) := by decide +kernel
theorem d_G_driver_22 : decode prog_1_method_6_code 22 = .ok (.invokevirtual 169, 3) := by decide +kernel
theorem d_G_driver_25 : decode prog_1_method_6_code 25 = .ok (.goto (21), 3) := by decide +kernel
theorem d_G_driver_28 : decode prog_1_method_6_code 28 = .ok (.iload_n 1, 1) := by decide +kernel
theorem d_G_driver_29 : decode prog_1_method_6_code 29 = .ok (.iconst 1, 1) := by decide +kernel
theorem d_G_driver_30 : decode prog_1_method_6_code 30 = .ok (.if_icmp .ne (11), 3) := by decide +kernel
theorem d_G_driver_33 : decode prog_1_method_6_code 33 = .ok (.aload_n 0, 1) := by decide +kernel
theorem d_G_driver_34 : decode prog_1_method_6_code 34 = .ok (.iconst 0, 1) := by decide +kernel
theorem d_G_driver_35 : decode prog_1_method_6_code 35 = .ok (.putfield 149, 3) := by decide +kernel
theorem d_G_driver_38 : decode prog_1_method_6_code 38 = .ok (.goto (8), 3) := by decide +kernel
theorem d_G_driver_41 : decode prog_1_method_6_code 41 = .ok (.aload_n 0, 1) := by decide +kernel
theorem d_G_driver_42 : decode prog_1_method_6_code 42 = .ok (.iconst 5, 1) := by decide +kernel
theorem d_G_driver_43 : decode prog_1_method_6_code 43 = .ok (.invokevirtual 140, 3) := by decide +kernel
theorem d_G_driver_46 : decode prog_1_method_6_code 46 = .ok (.iconst 1, 1) := by decide +kernel
theorem d_G_driver_47 : decode prog_1_method_6_code 47 = .ok (.ireturn, 1) := by decide +kernel
theorem d_G_mode_0 : decode prog_1_method_7_code 0 = .ok (.aload_n 0, 1) := by decide +kernel
theorem d_G_mode_1 : decode prog_1_method_7_code 1 = .ok (.getfield 51, 3) := by decide +kernel
theorem d_G_mode_4 : decode prog_1_method_7_code 4 = .ok (.ireturn, 1) := by decide +kernel
theorem d_G_state_0 : decode prog_1_method_8_code 0 = .ok (.iload_n 1, 1) := by decide +kernel
theorem d_G_state_1 : decode prog_1_method_8_code 1 = .ok (.tableswitch (101) (0) (6) #[43, 51, 59, 67, 75, 88, 93], 43) := by decide +kernel
theorem d_G_state_44 : decode prog_1_method_8_code 44 = .ok (.aload_n 0, 1) := by decide +kernel
theorem d_G_state_45 : decode prog_1_method_8_code 45 = .ok (.getfield 10, 3) := by decide +kernel
theorem d_G_state_48 : decode prog_1_method_8_code 48 = .ok (.getfield 121, 3) := by decide +kernel
theorem d_G_state_51 : decode prog_1_method_8_code 51 = .ok (.ireturn, 1) := by decide +kernel
theorem d_G_state_52 : decode prog_1_method_8_code 52 = .ok (.aload_n 0, 1) := by decide +kernel
theorem d_G_state_53 : decode prog_1_method_8_code 53 = .ok (.getfield 10, 3) := by decide +kernel
theorem d_G_state_56 : decode prog_1_method_8_code 56 = .ok (.getfield 115, 3) := by decide +kernel
theorem d_G_state_59 : decode prog_1_method_8_code 59 = .ok (.ireturn, 1) := by decide +kernel
theorem d_G_state_60 : decode prog_1_method_8_code 60 = .ok (.aload_n 0, 1) := by decide +kernel
theorem d_G_state_61 : decode prog_1_method_8_code 61 = .ok (.getfield 10, 3) := by decide +kernel
theorem d_G_state_64 : decode prog_1_method_8_code 64 = .ok (.getfield 172, 3) := by decide +kernel
theorem d_G_state_67 : decode prog_1_method_8_code 67 = .ok (.ireturn, 1) := by decide +kernel
theorem d_G_state_68 : decode prog_1_method_8_code 68 = .ok (.aload_n 0, 1) := by decide +kernel
theorem d_G_state_69 : decode prog_1_method_8_code 69 = .ok (.getfield 40, 3) := by decide +kernel
theorem d_G_state_72 : decode prog_1_method_8_code 72 = .ok (.getfield 163, 3) := by decide +kernel
theorem d_G_state_75 : decode prog_1_method_8_code 75 = .ok (.ireturn, 1) := by decide +kernel
theorem d_G_state_76 : decode prog_1_method_8_code 76 = .ok (.aload_n 0, 1) := by decide +kernel
theorem d_G_state_77 : decode prog_1_method_8_code 77 = .ok (.getfield 149, 3) := by decide +kernel
theorem d_G_state_80 : decode prog_1_method_8_code 80 = .ok (.ifCond .eq (7), 3) := by decide +kernel
theorem d_G_state_83 : decode prog_1_method_8_code 83 = .ok (.iconst 1, 1) := by decide +kernel
theorem d_G_state_84 : decode prog_1_method_8_code 84 = .ok (.goto (4), 3) := by decide +kernel
theorem d_G_state_87 : decode prog_1_method_8_code 87 = .ok (.iconst 0, 1) := by decide +kernel
theorem d_G_state_88 : decode prog_1_method_8_code 88 = .ok (.ireturn, 1) := by decide +kernel
theorem d_G_state_89 : decode prog_1_method_8_code 89 = .ok (.aload_n 0, 1) := by decide +kernel
theorem d_G_state_90 : decode prog_1_method_8_code 90 = .ok (.getfield 137, 3) := by decide +kernel
theorem d_G_state_93 : decode prog_1_method_8_code 93 = .ok (.ireturn, 1) := by decide +kernel
theorem d_G_state_94 : decode prog_1_method_8_code 94 = .ok (.aload_n 0, 1) := by decide +kernel
theorem d_G_state_95 : decode prog_1_method_8_code 95 = .ok (.getfield 26, 3) := by decide +kernel
theorem d_G_state_98 : decode prog_1_method_8_code 98 = .ok (.getfield 175, 3) := by decide +kernel
theorem d_G_state_101 : decode prog_1_method_8_code 101 = .ok (.ireturn, 1) := by decide +kernel
theorem d_G_state_102 : decode prog_1_method_8_code 102 = .ok (.iconst (-1), 1) := by decide +kernel
theorem d_G_state_103 : decode prog_1_method_8_code 103 = .ok (.ireturn, 1) := by decide +kernel
theorem d_G_display_0 : decode prog_1_method_9_code 0 = .ok (.iload_n 1, 1) := by decide +kernel
theorem d_G_display_1 : decode prog_1_method_9_code 1 = .ok (.tableswitch (91) (0) (3) #[31, 36, 41, 75], 31) := by decide +kernel
theorem d_G_display_32 : decode prog_1_method_9_code 32 = .ok (.aload_n 0, 1) := by decide +kernel
theorem d_G_display_33 : decode prog_1_method_9_code 33 = .ok (.invokevirtual 178, 3) := by decide +kernel
theorem d_G_display_36 : decode prog_1_method_9_code 36 = .ok (.ireturn, 1) := by decide +kernel
theorem d_G_display_37 : decode prog_1_method_9_code 37 = .ok (.aload_n 0, 1) := by decide +kernel
theorem d_G_display_38 : decode prog_1_method_9_code 38 = .ok (.invokevirtual 156, 3) := by decide +kernel
theorem d_G_display_41 : decode prog_1_method_9_code 41 = .ok (.ireturn, 1) := by decide +kernel
theorem d_G_display_42 : decode prog_1_method_9_code 42 = .ok (.aload_n 0, 1) := by decide +kernel
theorem d_G_display_43 : decode prog_1_method_9_code 43 = .ok (.getfield 19, 3) := by decide +kernel
theorem d_G_display_46 : decode prog_1_method_9_code 46 = .ok (.getfield 181, 3) := by decide +kernel
theorem d_G_display_49 : decode prog_1_method_9_code 49 = .ok (.ifCond .eq (25), 3) := by decide +kernel
theorem d_G_display_52 : decode prog_1_method_9_code 52 = .ok (.aload_n 0, 1) := by decide +kernel
theorem d_G_display_53 : decode prog_1_method_9_code 53 = .ok (.getfield 19, 3) := by decide +kernel
theorem d_G_display_56 : decode prog_1_method_9_code 56 = .ok (.getfield 184, 3) := by decide +kernel
theorem d_G_display_59 : decode prog_1_method_9_code 59 = .ok (.aload_n 0, 1) := by decide +kernel
theorem d_G_display_60 : decode prog_1_method_9_code 60 = .ok (.getfield 10, 3) := by decide +kernel
theorem d_G_display_63 : decode prog_1_method_9_code 63 = .ok (.getfield 115, 3) := by decide +kernel
theorem d_G_display_66 : decode prog_1_method_9_code 66 = .ok (.isub, 1) := by decide +kernel
theorem d_G_display_67 : decode prog_1_method_9_code 67 = .ok (.iconst 0, 1) := by decide +kernel
theorem d_G_display_68 : decode prog_1_method_9_code 68 = .ok (.invokestatic 187, 3) := by decide +kernel
theorem d_G_display_71 : decode prog_1_method_9_code 71 = .ok (.goto (4), 3) := by decide +kernel
theorem d_G_display_74 : decode prog_1_method_9_code 74 = .ok (.iconst (-1), 1) := by decide +kernel
theorem d_G_display_75 : decode prog_1_method_9_code 75 = .ok (.ireturn, 1) := by decide +kernel
theorem d_G_display_76 : decode prog_1_method_9_code 76 = .ok (.aload_n 0, 1) := by decide +kernel
theorem d_G_display_77 : decode prog_1_method_9_code 77 = .ok (.invokevirtual 193, 3) := by decide +kernel
theorem d_G_display_80 : decode prog_1_method_9_code 80 = .ok (.ifCond .eq (7), 3) := by decide +kernel
theorem d_G_display_83 : decode prog_1_method_9_code 83 = .ok (.iconst (-1), 1) := by decide +kernel
theorem d_G_display_84 : decode prog_1_method_9_code 84 = .ok (.goto (7), 3) := by decide +kernel
theorem d_G_display_87 : decode prog_1_method_9_code 87 = .ok (.aload_n 0, 1) := by decide +kernel
theorem d_G_display_88 : decode prog_1_method_9_code 88 = .ok (.invokevirtual 197, 3) := by decide +kernel
theorem d_G_display_91 : decode prog_1_method_9_code 91 = .ok (.ireturn, 1) := by decide +kernel
theorem d_G_display_92 : decode prog_1_method_9_code 92 = .ok (.iconst (-1), 1) := by decide +kernel
theorem d_G_display_93 : decode prog_1_method_9_code 93 = .ok (.ireturn, 1) := by decide +kernel
theorem d_G_limit_0 : decode prog_1_method_10_code 0 = .ok (.iload_n 1, 1) := by decide +kernel
theorem d_G_limit_1 : decode prog_1_method_10_code 1 = .ok (.ifCond .ge (9), 3) := by decide +kernel
theorem d_G_limit_4 : decode prog_1_method_10_code 4 = .ok (.sipush (600), 3) := by decide +kernel
theorem d_G_limit_7 : decode prog_1_method_10_code 7 = .ok (.goto (12), 3) := by decide +kernel
theorem d_G_limit_10 : decode prog_1_method_10_code 10 = .ok (.aload_n 0, 1) := by decide +kernel
theorem d_G_limit_11 : decode prog_1_method_10_code 11 = .ok (.getfield 19, 3) := by decide +kernel
theorem d_G_limit_14 : decode prog_1_method_10_code 14 = .ok (.iload_n 1, 1) := by decide +kernel
theorem d_G_limit_15 : decode prog_1_method_10_code 15 = .ok (.iload_n 1, 1) := by decide +kernel
theorem d_G_limit_16 : decode prog_1_method_10_code 16 = .ok (.invokevirtual 200, 3) := by decide +kernel
theorem d_G_limit_19 : decode prog_1_method_10_code 19 = .ok (.ireturn, 1) := by decide +kernel
theorem d_G_way_0 : decode prog_1_method_11_code 0 = .ok (.iload_n 1, 1) := by decide +kernel
theorem d_G_way_1 : decode prog_1_method_11_code 1 = .ok (.ifCond .lt (32), 3) := by decide +kernel
theorem d_G_way_4 : decode prog_1_method_11_code 4 = .ok (.iload_n 1, 1) := by decide +kernel
theorem d_G_way_5 : decode prog_1_method_11_code 5 = .ok (.sipush (600), 3) := by decide +kernel
theorem d_G_way_8 : decode prog_1_method_11_code 8 = .ok (.if_icmp .gt (25), 3) := by decide +kernel
theorem d_G_way_11 : decode prog_1_method_11_code 11 = .ok (.iload_n 2, 1) := by decide +kernel
theorem d_G_way_12 : decode prog_1_method_11_code 12 = .ok (.ifCond .lt (21), 3) := by decide +kernel
theorem d_G_way_15 : decode prog_1_method_11_code 15 = .ok (.iload_n 2, 1) := by decide +kernel
theorem d_G_way_16 : decode prog_1_method_11_code 16 = .ok (.sipush (600), 3) := by decide +kernel
theorem d_G_way_19 : decode prog_1_method_11_code 19 = .ok (.if_icmp .gt (14), 3) := by decide +kernel
theorem d_G_way_22 : decode prog_1_method_11_code 22 = .ok (.iload_n 3, 1) := by decide +kernel
theorem d_G_way_23 : decode prog_1_method_11_code 23 = .ok (.iconst 1, 1) := by decide +kernel
theorem d_G_way_24 : decode prog_1_method_11_code 24 = .ok (.if_icmp .lt (9), 3) := by decide +kernel
theorem d_G_way_27 : decode prog_1_method_11_code 27 = .ok (.iload_n 3, 1) := by decide +kernel
theorem d_G_way_28 : decode prog_1_method_11_code 28 = .ok (.bipush (40), 2) := by decide +kernel
theorem d_G_way_30 : decode prog_1_method_11_code 30 = .ok (.if_icmp .le (5), 3) := by decide +kernel
theorem d_G_way_33 : decode prog_1_method_11_code 33 = .ok (.iconst (-1), 1) := by decide +kernel
theorem d_G_way_34 : decode prog_1_method_11_code 34 = .ok (.ireturn, 1) := by decide +kernel
theorem d_G_way_35 : decode prog_1_method_11_code 35 = .ok (.iload_n 1, 1) := by decide +kernel
theorem d_G_way_36 : decode prog_1_method_11_code 36 = .ok (.iload_n 2, 1) := by decide +kernel
theorem d_G_way_37 : decode prog_1_method_11_code 37 = .ok (.iload_n 3, 1) := by decide +kernel
theorem d_G_way_38 : decode prog_1_method_11_code 38 = .ok (.invokestatic 203, 3) := by decide +kernel
theorem d_G_way_41 : decode prog_1_method_11_code 41 = .ok (.ireturn, 1) := by decide +kernel
theorem d_G_marks_0 : decode prog_1_method_12_code 0 = .ok (.aload_n 0, 1) := by decide +kernel
theorem d_G_marks_1 : decode prog_1_method_12_code 1 = .ok (.getfield 19, 3) := by decide +kernel
theorem d_G_marks_4 : decode prog_1_method_12_code 4 = .ok (.getfield 101, 3) := by decide +kernel
theorem d_G_marks_7 : decode prog_1_method_12_code 7 = .ok (.iload_n 1, 1) := by decide +kernel
theorem d_G_marks_8 : decode prog_1_method_12_code 8 = .ok (.invokevirtual 206, 3) := by decide +kernel
theorem d_G_marks_11 : decode prog_1_method_12_code 11 = .ok (.ireturn, 1) := by decide +kernel
theorem d_G_note_0 : decode prog_1_method_13_code 0 = .ok (.aload_n 0, 1) := by decide +kernel
theorem d_G_note_1 : decode prog_1_method_13_code 1 = .ok (.getfield 47, 3) := by decide +kernel
theorem d_G_note_4 : decode prog_1_method_13_code 4 = .ok (.iload_n 1, 1) := by decide +kernel
theorem d_G_note_5 : decode prog_1_method_13_code 5 = .ok (.invokevirtual 209, 3) := by decide +kernel
theorem d_G_note_8 : decode prog_1_method_13_code 8 = .ok (.ireturn, 1) := by decide +kernel
theorem d_G_within_0 : decode prog_1_method_14_code 0 = .ok (.iload_n 1, 1) := by decide +kernel
theorem d_G_within_1 : decode prog_1_method_14_code 1 = .ok (.iload_n 0, 1) := by decide +kernel
theorem d_G_within_2 : decode prog_1_method_14_code 2 = .ok (.iload_n 2, 1) := by decide +kernel
theorem d_G_within_3 : decode prog_1_method_14_code 3 = .ok (.invokestatic 212, 3) := by decide +kernel
theorem d_G_within_6 : decode prog_1_method_14_code 6 = .ok (.invokestatic 187, 3) := by decide +kernel
theorem d_G_within_9 : decode prog_1_method_14_code 9 = .ok (.ireturn, 1) := by decide +kernel
theorem d_G_brakingWay_0 : decode prog_1_method_15_code 0 = .ok (.iload_n 0, 1) := by decide +kernel
theorem d_G_brakingWay_1 : decode prog_1_method_15_code 1 = .ok (.iload_n 1, 1) := by decide +kernel
theorem d_G_brakingWay_2 : decode prog_1_method_15_code 2 = .ok (.if_icmp .le (8), 3) := by decide +kernel
theorem d_G_brakingWay_5 : decode prog_1_method_15_code 5 = .ok (.iload_n 2, 1) := by decide +kernel
theorem d_G_brakingWay_6 : decode prog_1_method_15_code 6 = .ok (.iconst 1, 1) := by decide +kernel
theorem d_G_brakingWay_7 : decode prog_1_method_15_code 7 = .ok (.if_icmp .ge (5), 3) := by decide +kernel
theorem d_G_brakingWay_10 : decode prog_1_method_15_code 10 = .ok (.iconst 0, 1) := by decide +kernel
theorem d_G_brakingWay_11 : decode prog_1_method_15_code 11 = .ok (.ireturn, 1) := by decide +kernel
theorem d_G_brakingWay_12 : decode prog_1_method_15_code 12 = .ok (.iload_n 0, 1) := by decide +kernel
theorem d_G_brakingWay_13 : decode prog_1_method_15_code 13 = .ok (.iload_n 1, 1) := by decide +kernel
theorem d_G_brakingWay_14 : decode prog_1_method_15_code 14 = .ok (.isub, 1) := by decide +kernel
theorem d_G_brakingWay_15 : decode prog_1_method_15_code 15 = .ok (.iload_n 2, 1) := by decide +kernel
theorem d_G_brakingWay_16 : decode prog_1_method_15_code 16 = .ok (.iadd, 1) := by decide +kernel
theorem d_G_brakingWay_17 : decode prog_1_method_15_code 17 = .ok (.iconst 1, 1) := by decide +kernel
theorem d_G_brakingWay_18 : decode prog_1_method_15_code 18 = .ok (.isub, 1) := by decide +kernel
theorem d_G_brakingWay_19 : decode prog_1_method_15_code 19 = .ok (.iload_n 2, 1) := by decide +kernel
theorem d_G_brakingWay_20 : decode prog_1_method_15_code 20 = .ok (.idiv, 1) := by decide +kernel
theorem d_G_brakingWay_21 : decode prog_1_method_15_code 21 = .ok (.istore_n 3, 1) := by decide +kernel
theorem d_G_brakingWay_22 : decode prog_1_method_15_code 22 = .ok (.iload_n 3, 1) := by decide +kernel
theorem d_G_brakingWay_23 : decode prog_1_method_15_code 23 = .ok (.iconst 1, 1) := by decide +kernel
theorem d_G_brakingWay_24 : decode prog_1_method_15_code 24 = .ok (.isub, 1) := by decide +kernel
theorem d_G_brakingWay_25 : decode prog_1_method_15_code 25 = .ok (.istore 4, 2) := by decide +kernel
theorem d_G_brakingWay_27 : decode prog_1_method_15_code 27 = .ok (.iload_n 0, 1) := by decide +kernel
theorem d_G_brakingWay_28 : decode prog_1_method_15_code 28 = .ok (.iload_n 3, 1) := by decide +kernel
theorem d_G_brakingWay_29 : decode prog_1_method_15_code 29 = .ok (.iload_n 2, 1) := by decide +kernel
theorem d_G_brakingWay_30 : decode prog_1_method_15_code 30 = .ok (.imul, 1) := by decide +kernel
theorem d_G_brakingWay_31 : decode prog_1_method_15_code 31 = .ok (.isub, 1) := by decide +kernel
theorem d_G_brakingWay_32 : decode prog_1_method_15_code 32 = .ok (.istore 5, 2) := by decide +kernel
theorem d_G_brakingWay_34 : decode prog_1_method_15_code 34 = .ok (.iload 4, 2) := by decide +kernel
theorem d_G_brakingWay_36 : decode prog_1_method_15_code 36 = .ok (.iload_n 0, 1) := by decide +kernel
theorem d_G_brakingWay_37 : decode prog_1_method_15_code 37 = .ok (.imul, 1) := by decide +kernel
theorem d_G_brakingWay_38 : decode prog_1_method_15_code 38 = .ok (.iload_n 2, 1) := by decide +kernel
theorem d_G_brakingWay_39 : decode prog_1_method_15_code 39 = .ok (.iload 4, 2) := by decide +kernel
theorem d_G_brakingWay_41 : decode prog_1_method_15_code 41 = .ok (.iload_n 3, 1) := by decide +kernel
theorem d_G_brakingWay_42 : decode prog_1_method_15_code 42 = .ok (.imul, 1) := by decide +kernel
theorem d_G_brakingWay_43 : decode prog_1_method_15_code 43 = .ok (.iconst 2, 1) := by decide +kernel
theorem d_G_brakingWay_44 : decode prog_1_method_15_code 44 = .ok (.idiv, 1) := by decide +kernel
theorem d_G_brakingWay_45 : decode prog_1_method_15_code 45 = .ok (.imul, 1) := by decide +kernel
theorem d_G_brakingWay_46 : decode prog_1_method_15_code 46 = .ok (.isub, 1) := by decide +kernel
theorem d_G_brakingWay_47 : decode prog_1_method_15_code 47 = .ok (.iload 5, 2) := by decide +kernel
theorem d_G_brakingWay_49 : decode prog_1_method_15_code 49 = .ok (.ifCond .le (8), 3) := by decide +kernel
theorem d_G_brakingWay_52 : decode prog_1_method_15_code 52 = .ok (.iload 5, 2) := by decide +kernel
theorem d_G_brakingWay_54 : decode prog_1_method_15_code 54 = .ok (.goto (4), 3) := by decide +kernel
theorem d_G_brakingWay_57 : decode prog_1_method_15_code 57 = .ok (.iconst 0, 1) := by decide +kernel
theorem d_G_brakingWay_58 : decode prog_1_method_15_code 58 = .ok (.iadd, 1) := by decide +kernel
theorem d_G_brakingWay_59 : decode prog_1_method_15_code 59 = .ok (.ireturn, 1) := by decide +kernel
theorem d_G_isGuided_0 : decode prog_1_method_16_code 0 = .ok (.aload_n 0, 1) := by decide +kernel
theorem d_G_isGuided_1 : decode prog_1_method_16_code 1 = .ok (.getfield 51, 3) := by decide +kernel
theorem d_G_isGuided_4 : decode prog_1_method_16_code 4 = .ok (.iconst 2, 1) := by decide +kernel
theorem d_G_isGuided_5 : decode prog_1_method_16_code 5 = .ok (.if_icmp .eq (11), 3) := by decide +kernel
theorem d_G_isGuided_8 : decode prog_1_method_16_code 8 = .ok (.aload_n 0, 1) := by decide +kernel
theorem d_G_isGuided_9 : decode prog_1_method_16_code 9 = .ok (.getfield 51, 3) := by decide +kernel
theorem d_G_isGuided_12 : decode prog_1_method_16_code 12 = .ok (.iconst 3, 1) := by decide +kernel
theorem d_G_isGuided_13 : decode prog_1_method_16_code 13 = .ok (.if_icmp .ne (7), 3) := by decide +kernel
theorem d_G_isGuided_16 : decode prog_1_method_16_code 16 = .ok (.iconst 1, 1) := by decide +kernel
theorem d_G_isGuided_17 : decode prog_1_method_16_code 17 = .ok (.goto (4), 3) := by decide +kernel
theorem d_G_isGuided_20 : decode prog_1_method_16_code 20 = .ok (.iconst 0, 1) := by decide +kernel
theorem d_G_isGuided_21 : decode prog_1_method_16_code 21 = .ok (.ireturn, 1) := by decide +kernel
theorem d_G_isStopped_0 : decode prog_1_method_17_code 0 = .ok (.aload_n 0, 1) := by decide +kernel
theorem d_G_isStopped_1 : decode prog_1_method_17_code 1 = .ok (.getfield 51, 3) := by decide +kernel
theorem d_G_isStopped_4 : decode prog_1_method_17_code 4 = .ok (.iconst 4, 1) := by decide +kernel
theorem d_G_isStopped_5 : decode prog_1_method_17_code 5 = .ok (.if_icmp .eq (12), 3) := by decide +kernel
theorem d_G_isStopped_8 : decode prog_1_method_17_code 8 = .ok (.aload_n 0, 1) := by decide +kernel
theorem d_G_isStopped_9 : decode prog_1_method_17_code 9 = .ok (.getfield 51, 3) := by decide +kernel
theorem d_G_isStopped_12 : decode prog_1_method_17_code 12 = .ok (.bipush (6), 2) := by decide +kernel
theorem d_G_isStopped_14 : decode prog_1_method_17_code 14 = .ok (.if_icmp .ne (7), 3) := by decide +kernel
theorem d_G_isStopped_17 : decode prog_1_method_17_code 17 = .ok (.iconst 1, 1) := by decide +kernel
theorem d_G_isStopped_18 : decode prog_1_method_17_code 18 = .ok (.goto (4), 3) := by decide +kernel
theorem d_G_isStopped_21 : decode prog_1_method_17_code 21 = .ok (.iconst 0, 1) := by decide +kernel
theorem d_G_isStopped_22 : decode prog_1_method_17_code 22 = .ok (.ireturn, 1) := by decide +kernel
theorem d_G_write_0 : decode prog_1_method_18_code 0 = .ok (.aload_n 0, 1) := by decide +kernel
theorem d_G_write_1 : decode prog_1_method_18_code 1 = .ok (.getfield 47, 3) := by decide +kernel
theorem d_G_write_4 : decode prog_1_method_18_code 4 = .ok (.sipush (10000), 3) := by decide +kernel
theorem d_G_write_7 : decode prog_1_method_18_code 7 = .ok (.aload_n 0, 1) := by decide +kernel
theorem d_G_write_8 : decode prog_1_method_18_code 8 = .ok (.getfield 137, 3) := by decide +kernel
theorem d_G_write_11 : decode prog_1_method_18_code 11 = .ok (.imul, 1) := by decide +kernel
theorem d_G_write_12 : decode prog_1_method_18_code 12 = .ok (.bipush (100), 2) := by decide +kernel
theorem d_G_write_14 : decode prog_1_method_18_code 14 = .ok (.iload_n 1, 1) := by decide +kernel
theorem d_G_write_15 : decode prog_1_method_18_code 15 = .ok (.imul, 1) := by decide +kernel
theorem d_G_write_16 : decode prog_1_method_18_code 16 = .ok (.iadd, 1) := by decide +kernel
theorem d_G_write_17 : decode prog_1_method_18_code 17 = .ok (.iload_n 2, 1) := by decide +kernel
theorem d_G_write_18 : decode prog_1_method_18_code 18 = .ok (.iadd, 1) := by decide +kernel
theorem d_G_write_19 : decode prog_1_method_18_code 19 = .ok (.invokevirtual 215, 3) := by decide +kernel
theorem d_G_write_22 : decode prog_1_method_18_code 22 = .ok (.return_, 1) := by decide +kernel
theorem d_G_become_0 : decode prog_1_method_19_code 0 = .ok (.aload_n 0, 1) := by decide +kernel
theorem d_G_become_1 : decode prog_1_method_19_code 1 = .ok (.getfield 51, 3) := by decide +kernel
theorem d_G_become_4 : decode prog_1_method_19_code 4 = .ok (.iload_n 1, 1) := by decide +kernel
theorem d_G_become_5 : decode prog_1_method_19_code 5 = .ok (.if_icmp .eq (14), 3) := by decide +kernel
theorem d_G_become_8 : decode prog_1_method_19_code 8 = .ok (.aload_n 0, 1) := by decide +kernel
theorem d_G_become_9 : decode prog_1_method_19_code 9 = .ok (.iload_n 1, 1) := by decide +kernel
theorem d_G_become_10 : decode prog_1_method_19_code 10 = .ok (.putfield 51, 3) := by decide +kernel
theorem d_G_become_13 : decode prog_1_method_19_code 13 = .ok (.aload_n 0, 1) := by decide +kernel
theorem d_G_become_14 : decode prog_1_method_19_code 14 = .ok (.iconst 1, 1) := by decide +kernel
theorem d_G_become_15 : decode prog_1_method_19_code 15 = .ok (.iload_n 1, 1) := by decide +kernel
theorem d_G_become_16 : decode prog_1_method_19_code 16 = .ok (.invokevirtual 89, 3) := by decide +kernel
theorem d_G_become_19 : decode prog_1_method_19_code 19 = .ok (.return_, 1) := by decide +kernel
theorem d_G_trip_0 : decode prog_1_method_20_code 0 = .ok (.aload_n 0, 1) := by decide +kernel
theorem d_G_trip_1 : decode prog_1_method_20_code 1 = .ok (.iconst 4, 1) := by decide +kernel
theorem d_G_trip_2 : decode prog_1_method_20_code 2 = .ok (.invokevirtual 140, 3) := by decide +kernel
theorem d_G_trip_5 : decode prog_1_method_20_code 5 = .ok (.aload_n 0, 1) := by decide +kernel
theorem d_G_trip_6 : decode prog_1_method_20_code 6 = .ok (.getfield 19, 3) := by decide +kernel
theorem d_G_trip_9 : decode prog_1_method_20_code 9 = .ok (.invokevirtual 218, 3) := by decide +kernel
theorem d_G_trip_12 : decode prog_1_method_20_code 12 = .ok (.aload_n 0, 1) := by decide +kernel
theorem d_G_trip_13 : decode prog_1_method_20_code 13 = .ok (.iconst 0, 1) := by decide +kernel
theorem d_G_trip_14 : decode prog_1_method_20_code 14 = .ok (.putfield 149, 3) := by decide +kernel
theorem d_G_trip_17 : decode prog_1_method_20_code 17 = .ok (.return_, 1) := by decide +kernel
theorem d_G_faultOfMarks_0 : decode prog_1_method_21_code 0 = .ok (.aload_n 0, 1) := by decide +kernel
theorem d_G_faultOfMarks_1 : decode prog_1_method_21_code 1 = .ok (.bipush (6), 2) := by decide +kernel
theorem d_G_faultOfMarks_3 : decode prog_1_method_21_code 3 = .ok (.iconst 0, 1) := by decide +kernel
theorem d_G_faultOfMarks_4 : decode prog_1_method_21_code 4 = .ok (.invokevirtual 89, 3) := by decide +kernel
theorem d_G_faultOfMarks_7 : decode prog_1_method_21_code 7 = .ok (.aload_n 0, 1) := by decide +kernel
theorem d_G_faultOfMarks_8 : decode prog_1_method_21_code 8 = .ok (.invokevirtual 221, 3) := by decide +kernel
theorem d_G_faultOfMarks_11 : decode prog_1_method_21_code 11 = .ok (.ifCond .eq (7), 3) := by decide +kernel
theorem d_G_faultOfMarks_14 : decode prog_1_method_21_code 14 = .ok (.aload_n 0, 1) := by decide +kernel
theorem d_G_faultOfMarks_15 : decode prog_1_method_21_code 15 = .ok (.invokevirtual 224, 3) := by decide +kernel
theorem d_G_faultOfMarks_18 : decode prog_1_method_21_code 18 = .ok (.return_, 1) := by decide +kernel
theorem d_G_lookForTrip_0 : decode prog_1_method_22_code 0 = .ok (.aload_n 0, 1) := by decide +kernel
theorem d_G_lookForTrip_1 : decode prog_1_method_22_code 1 = .ok (.invokevirtual 221, 3) := by decide +kernel
theorem d_G_lookForTrip_4 : decode prog_1_method_22_code 4 = .ok (.ifCond .eq (54), 3) := by decide +kernel
theorem d_G_lookForTrip_7 : decode prog_1_method_22_code 7 = .ok (.aload_n 0, 1) := by decide +kernel
theorem d_G_lookForTrip_8 : decode prog_1_method_22_code 8 = .ok (.getfield 19, 3) := by decide +kernel
theorem d_G_lookForTrip_11 : decode prog_1_method_22_code 11 = .ok (.getfield 101, 3) := by decide +kernel
theorem d_G_lookForTrip_14 : decode prog_1_method_22_code 14 = .ok (.aload_n 0, 1) := by decide +kernel
theorem d_G_lookForTrip_15 : decode prog_1_method_22_code 15 = .ok (.getfield 10, 3) := by decide +kernel
theorem d_G_lookForTrip_18 : decode prog_1_method_22_code 18 = .ok (.getfield 121, 3) := by decide +kernel
theorem d_G_lookForTrip_21 : decode prog_1_method_22_code 21 = .ok (.invokevirtual 227, 3) := by decide +kernel
theorem d_G_lookForTrip_24 : decode prog_1_method_22_code 24 = .ok (.ifCond .eq (10), 3) := by decide +kernel
theorem d_G_lookForTrip_27 : decode prog_1_method_22_code 27 = .ok (.aload_n 0, 1) := by decide +kernel
theorem d_G_lookForTrip_28 : decode prog_1_method_22_code 28 = .ok (.invokevirtual 131, 3) := by decide +kernel
theorem d_G_lookForTrip_31 : decode prog_1_method_22_code 31 = .ok (.goto (53), 3) := by decide +kernel
theorem d_G_lookForTrip_34 : decode prog_1_method_22_code 34 = .ok (.aload_n 0, 1) := by decide +kernel
theorem d_G_lookForTrip_35 : decode prog_1_method_22_code 35 = .ok (.getfield 10, 3) := by decide +kernel
theorem d_G_lookForTrip_38 : decode prog_1_method_22_code 38 = .ok (.getfield 121, 3) := by decide +kernel
theorem d_G_lookForTrip_41 : decode prog_1_method_22_code 41 = .ok (.aload_n 0, 1) := by decide +kernel
theorem d_G_lookForTrip_42 : decode prog_1_method_22_code 42 = .ok (.getfield 19, 3) := by decide +kernel
theorem d_G_lookForTrip_45 : decode prog_1_method_22_code 45 = .ok (.getfield 184, 3) := by decide +kernel
theorem d_G_lookForTrip_48 : decode prog_1_method_22_code 48 = .ok (.if_icmp .le (36), 3) := by decide +kernel
theorem d_G_lookForTrip_51 : decode prog_1_method_22_code 51 = .ok (.aload_n 0, 1) := by decide +kernel
theorem d_G_lookForTrip_52 : decode prog_1_method_22_code 52 = .ok (.invokevirtual 224, 3) := by decide +kernel
theorem d_G_lookForTrip_55 : decode prog_1_method_22_code 55 = .ok (.goto (29), 3) := by decide +kernel
theorem d_G_lookForTrip_58 : decode prog_1_method_22_code 58 = .ok (.aload_n 0, 1) := by decide +kernel
theorem d_G_lookForTrip_59 : decode prog_1_method_22_code 59 = .ok (.getfield 51, 3) := by decide +kernel
theorem d_G_lookForTrip_62 : decode prog_1_method_22_code 62 = .ok (.iconst 1, 1) := by decide +kernel
theorem d_G_lookForTrip_63 : decode prog_1_method_22_code 63 = .ok (.if_icmp .ne (21), 3) := by decide +kernel
theorem d_G_lookForTrip_66 : decode prog_1_method_22_code 66 = .ok (.aload_n 0, 1) := by decide +kernel
theorem d_G_lookForTrip_67 : decode prog_1_method_22_code 67 = .ok (.getfield 10, 3) := by decide +kernel
theorem d_G_lookForTrip_70 : decode prog_1_method_22_code 70 = .ok (.getfield 121, 3) := by decide +kernel
theorem d_G_lookForTrip_73 : decode prog_1_method_22_code 73 = .ok (.aload_n 0, 1) := by decide +kernel
theorem d_G_lookForTrip_74 : decode prog_1_method_22_code 74 = .ok (.getfield 230, 3) := by decide +kernel
theorem d_G_lookForTrip_77 : decode prog_1_method_22_code 77 = .ok (.if_icmp .le (7), 3) := by decide +kernel
theorem d_G_lookForTrip_80 : decode prog_1_method_22_code 80 = .ok (.aload_n 0, 1) := by decide +kernel
theorem d_G_lookForTrip_81 : decode prog_1_method_22_code 81 = .ok (.invokevirtual 224, 3) := by decide +kernel
theorem d_G_lookForTrip_84 : decode prog_1_method_22_code 84 = .ok (.return_, 1) := by decide +kernel
theorem d_G_enterModeOfAuthority_0 : decode prog_1_method_23_code 0 = .ok (.aload_n 0, 1) := by decide +kernel
theorem d_G_enterModeOfAuthority_1 : decode prog_1_method_23_code 1 = .ok (.getfield 51, 3) := by decide +kernel
theorem d_G_enterModeOfAuthority_4 : decode prog_1_method_23_code 4 = .ok (.aload_n 0, 1) := by decide +kernel
theorem d_G_enterModeOfAuthority_5 : decode prog_1_method_23_code 5 = .ok (.getfield 19, 3) := by decide +kernel
theorem d_G_enterModeOfAuthority_8 : decode prog_1_method_23_code 8 = .ok (.getfield 233, 3) := by decide +kernel
theorem d_G_enterModeOfAuthority_11 : decode prog_1_method_23_code 11 = .ok (.if_icmp .eq (7), 3) := by decide +kernel
theorem d_G_enterModeOfAuthority_14 : decode prog_1_method_23_code 14 = .ok (.iconst 1, 1) := by decide +kernel
theorem d_G_enterModeOfAuthority_15 : decode prog_1_method_23_code 15 = .ok (.goto (4), 3) := by decide +kernel
theorem d_G_enterModeOfAuthority_18 : decode prog_1_method_23_code 18 = .ok (.iconst 0, 1) := by decide +kernel
theorem d_G_enterModeOfAuthority_19 : decode prog_1_method_23_code 19 = .ok (.istore_n 1, 1) := by decide +kernel
theorem d_G_enterModeOfAuthority_20 : decode prog_1_method_23_code 20 = .ok (.aload_n 0, 1) := by decide +kernel
theorem d_G_enterModeOfAuthority_21 : decode prog_1_method_23_code 21 = .ok (.aload_n 0, 1) := by decide +kernel
theorem d_G_enterModeOfAuthority_22 : decode prog_1_method_23_code 22 = .ok (.getfield 19, 3) := by decide +kernel
theorem d_G_enterModeOfAuthority_25 : decode prog_1_method_23_code 25 = .ok (.getfield 233, 3) := by decide +kernel
theorem d_G_enterModeOfAuthority_28 : decode prog_1_method_23_code 28 = .ok (.invokevirtual 140, 3) := by decide +kernel
theorem d_G_enterModeOfAuthority_31 : decode prog_1_method_23_code 31 = .ok (.aload_n 0, 1) := by decide +kernel
theorem d_G_enterModeOfAuthority_32 : decode prog_1_method_23_code 32 = .ok (.getfield 19, 3) := by decide +kernel
theorem d_G_enterModeOfAuthority_35 : decode prog_1_method_23_code 35 = .ok (.getfield 233, 3) := by decide +kernel
theorem d_G_enterModeOfAuthority_38 : decode prog_1_method_23_code 38 = .ok (.iconst 2, 1) := by decide +kernel
theorem d_G_enterModeOfAuthority_39 : decode prog_1_method_23_code 39 = .ok (.if_icmp .ne (11), 3) := by decide +kernel
theorem d_G_enterModeOfAuthority_42 : decode prog_1_method_23_code 42 = .ok (.aload_n 0, 1) := by decide +kernel
theorem d_G_enterModeOfAuthority_43 : decode prog_1_method_23_code 43 = .ok (.iconst 0, 1) := by decide +kernel
theorem d_G_enterModeOfAuthority_44 : decode prog_1_method_23_code 44 = .ok (.putfield 149, 3) := by decide +kernel
theorem d_G_enterModeOfAuthority_47 : decode prog_1_method_23_code 47 = .ok (.goto (17), 3) := by decide +kernel
theorem d_G_enterModeOfAuthority_50 : decode prog_1_method_23_code 50 = .ok (.iload_n 1, 1) := by decide +kernel
theorem d_G_enterModeOfAuthority_51 : decode prog_1_method_23_code 51 = .ok (.ifCond .eq (13), 3) := by decide +kernel
theorem d_G_enterModeOfAuthority_54 : decode prog_1_method_23_code 54 = .ok (.aload_n 0, 1) := by decide +kernel
theorem d_G_enterModeOfAuthority_55 : decode prog_1_method_23_code 55 = .ok (.iconst 1, 1) := by decide +kernel
theorem d_G_enterModeOfAuthority_56 : decode prog_1_method_23_code 56 = .ok (.putfield 149, 3) := by decide +kernel
theorem d_G_enterModeOfAuthority_59 : decode prog_1_method_23_code 59 = .ok (.aload_n 0, 1) := by decide +kernel
theorem d_G_enterModeOfAuthority_60 : decode prog_1_method_23_code 60 = .ok (.iconst 0, 1) := by decide +kernel
theorem d_G_enterModeOfAuthority_61 : decode prog_1_method_23_code 61 = .ok (.putfield 153, 3) := by decide +kernel
theorem d_G_enterModeOfAuthority_64 : decode prog_1_method_23_code 64 = .ok (.return_, 1) := by decide +kernel
theorem d_G_driverMay_0 : decode prog_1_method_24_code 0 = .ok (.iload_n 1, 1) := by decide +kernel
theorem d_G_driverMay_1 : decode prog_1_method_24_code 1 = .ok (.tableswitch (87) (0) (2) #[27, 58, 63], 27) := by decide +kernel
theorem d_G_driverMay_28 : decode prog_1_method_24_code 28 = .ok (.aload_n 0, 1) := by decide +kernel
theorem d_G_driverMay_29 : decode prog_1_method_24_code 29 = .ok (.getfield 51, 3) := by decide +kernel
theorem d_G_driverMay_32 : decode prog_1_method_24_code 32 = .ok (.ifCond .eq (11), 3) := by decide +kernel
theorem d_G_driverMay_35 : decode prog_1_method_24_code 35 = .ok (.aload_n 0, 1) := by decide +kernel
theorem d_G_driverMay_36 : decode prog_1_method_24_code 36 = .ok (.getfield 51, 3) := by decide +kernel
theorem d_G_driverMay_39 : decode prog_1_method_24_code 39 = .ok (.iconst 5, 1) := by decide +kernel
theorem d_G_driverMay_40 : decode prog_1_method_24_code 40 = .ok (.if_icmp .ne (17), 3) := by decide +kernel
theorem d_G_driverMay_43 : decode prog_1_method_24_code 43 = .ok (.aload_n 0, 1) := by decide +kernel
theorem d_G_driverMay_44 : decode prog_1_method_24_code 44 = .ok (.getfield 10, 3) := by decide +kernel
theorem d_G_driverMay_47 : decode prog_1_method_24_code 47 = .ok (.getfield 172, 3) := by decide +kernel
theorem d_G_driverMay_50 : decode prog_1_method_24_code 50 = .ok (.ifCond .ne (7), 3) := by decide +kernel
theorem d_G_driverMay_53 : decode prog_1_method_24_code 53 = .ok (.iconst 1, 1) := by decide +kernel
theorem d_G_driverMay_54 : decode prog_1_method_24_code 54 = .ok (.goto (4), 3) := by decide +kernel
theorem d_G_driverMay_57 : decode prog_1_method_24_code 57 = .ok (.iconst 0, 1) := by decide +kernel
theorem d_G_driverMay_58 : decode prog_1_method_24_code 58 = .ok (.ireturn, 1) := by decide +kernel
theorem d_G_driverMay_59 : decode prog_1_method_24_code 59 = .ok (.aload_n 0, 1) := by decide +kernel
theorem d_G_driverMay_60 : decode prog_1_method_24_code 60 = .ok (.getfield 149, 3) := by decide +kernel
theorem d_G_driverMay_63 : decode prog_1_method_24_code 63 = .ok (.ireturn, 1) := by decide +kernel
theorem d_G_driverMay_64 : decode prog_1_method_24_code 64 = .ok (.aload_n 0, 1) := by decide +kernel
theorem d_G_driverMay_65 : decode prog_1_method_24_code 65 = .ok (.getfield 51, 3) := by decide +kernel
theorem d_G_driverMay_68 : decode prog_1_method_24_code 68 = .ok (.iconst 4, 1) := by decide +kernel
theorem d_G_driverMay_69 : decode prog_1_method_24_code 69 = .ok (.if_icmp .ne (17), 3) := by decide +kernel
theorem d_G_driverMay_72 : decode prog_1_method_24_code 72 = .ok (.aload_n 0, 1) := by decide +kernel
theorem d_G_driverMay_73 : decode prog_1_method_24_code 73 = .ok (.getfield 10, 3) := by decide +kernel
theorem d_G_driverMay_76 : decode prog_1_method_24_code 76 = .ok (.getfield 172, 3) := by decide +kernel
theorem d_G_driverMay_79 : decode prog_1_method_24_code 79 = .ok (.ifCond .ne (7), 3) := by decide +kernel
theorem d_G_driverMay_82 : decode prog_1_method_24_code 82 = .ok (.iconst 1, 1) := by decide +kernel
theorem d_G_driverMay_83 : decode prog_1_method_24_code 83 = .ok (.goto (4), 3) := by decide +kernel
theorem d_G_driverMay_86 : decode prog_1_method_24_code 86 = .ok (.iconst 0, 1) := by decide +kernel
theorem d_G_driverMay_87 : decode prog_1_method_24_code 87 = .ok (.ireturn, 1) := by decide +kernel
theorem d_G_driverMay_88 : decode prog_1_method_24_code 88 = .ok (.iconst 0, 1) := by decide +kernel
theorem d_G_driverMay_89 : decode prog_1_method_24_code 89 = .ok (.ireturn, 1) := by decide +kernel
theorem d_G_start_0 : decode prog_1_method_25_code 0 = .ok (.aload_n 0, 1) := by decide +kernel
theorem d_G_start_1 : decode prog_1_method_25_code 1 = .ok (.getfield 19, 3) := by decide +kernel
theorem d_G_start_4 : decode prog_1_method_25_code 4 = .ok (.getfield 181, 3) := by decide +kernel
theorem d_G_start_7 : decode prog_1_method_25_code 7 = .ok (.ifCond .eq (23), 3) := by decide +kernel
theorem d_G_start_10 : decode prog_1_method_25_code 10 = .ok (.aload_n 0, 1) := by decide +kernel
theorem d_G_start_11 : decode prog_1_method_25_code 11 = .ok (.getfield 19, 3) := by decide +kernel
theorem d_G_start_14 : decode prog_1_method_25_code 14 = .ok (.getfield 236, 3) := by decide +kernel
theorem d_G_start_17 : decode prog_1_method_25_code 17 = .ok (.invokevirtual 240, 3) := by decide +kernel
theorem d_G_start_20 : decode prog_1_method_25_code 20 = .ok (.ifCond .ne (10), 3) := by decide +kernel
theorem d_G_start_23 : decode prog_1_method_25_code 23 = .ok (.aload_n 0, 1) := by decide +kernel
theorem d_G_start_24 : decode prog_1_method_25_code 24 = .ok (.invokevirtual 245, 3) := by decide +kernel
theorem d_G_start_27 : decode prog_1_method_25_code 27 = .ok (.goto (23), 3) := by decide +kernel
theorem d_G_start_30 : decode prog_1_method_25_code 30 = .ok (.aload_n 0, 1) := by decide +kernel
theorem d_G_start_31 : decode prog_1_method_25_code 31 = .ok (.iconst 1, 1) := by decide +kernel
theorem d_G_start_32 : decode prog_1_method_25_code 32 = .ok (.invokevirtual 140, 3) := by decide +kernel
theorem d_G_start_35 : decode prog_1_method_25_code 35 = .ok (.aload_n 0, 1) := by decide +kernel
theorem d_G_start_36 : decode prog_1_method_25_code 36 = .ok (.aload_n 0, 1) := by decide +kernel
theorem d_G_start_37 : decode prog_1_method_25_code 37 = .ok (.getfield 10, 3) := by decide +kernel
theorem d_G_start_40 : decode prog_1_method_25_code 40 = .ok (.getfield 115, 3) := by decide +kernel
theorem d_G_start_43 : decode prog_1_method_25_code 43 = .ok (.sipush (3000), 3) := by decide +kernel
theorem d_G_start_46 : decode prog_1_method_25_code 46 = .ok (.iadd, 1) := by decide +kernel
theorem d_G_start_47 : decode prog_1_method_25_code 47 = .ok (.putfield 230, 3) := by decide +kernel
theorem d_G_start_50 : decode prog_1_method_25_code 50 = .ok (.return_, 1) := by decide +kernel
theorem d_G_faultOfReceived_0 : decode prog_1_method_26_code 0 = .ok (.aload_n 0, 1) := by decide +kernel
theorem d_G_faultOfReceived_1 : decode prog_1_method_26_code 1 = .ok (.getfield 33, 3) := by decide +kernel
theorem d_G_faultOfReceived_4 : decode prog_1_method_26_code 4 = .ok (.getfield 248, 3) := by decide +kernel
theorem d_G_faultOfReceived_7 : decode prog_1_method_26_code 7 = .ok (.iconst 1, 1) := by decide +kernel
theorem d_G_faultOfReceived_8 : decode prog_1_method_26_code 8 = .ok (.baload, 1) := by decide +kernel
theorem d_G_faultOfReceived_9 : decode prog_1_method_26_code 9 = .ok (.istore_n 1, 1) := by decide +kernel
theorem d_G_faultOfReceived_10 : decode prog_1_method_26_code 10 = .ok (.aload_n 0, 1) := by decide +kernel
theorem d_G_faultOfReceived_11 : decode prog_1_method_26_code 11 = .ok (.getfield 33, 3) := by decide +kernel
theorem d_G_faultOfReceived_14 : decode prog_1_method_26_code 14 = .ok (.getfield 92, 3) := by decide +kernel
theorem d_G_faultOfReceived_17 : decode prog_1_method_26_code 17 = .ok (.iconst 3, 1) := by decide +kernel
theorem d_G_faultOfReceived_18 : decode prog_1_method_26_code 18 = .ok (.if_icmp .ne (7), 3) := by decide +kernel
theorem d_G_faultOfReceived_21 : decode prog_1_method_26_code 21 = .ok (.iload_n 1, 1) := by decide +kernel
theorem d_G_faultOfReceived_22 : decode prog_1_method_26_code 22 = .ok (.ifCond .eq (19), 3) := by decide +kernel
theorem d_G_faultOfReceived_25 : decode prog_1_method_26_code 25 = .ok (.aload_n 0, 1) := by decide +kernel
theorem d_G_faultOfReceived_26 : decode prog_1_method_26_code 26 = .ok (.getfield 33, 3) := by decide +kernel
theorem d_G_faultOfReceived_29 : decode prog_1_method_26_code 29 = .ok (.getfield 92, 3) := by decide +kernel
theorem d_G_faultOfReceived_32 : decode prog_1_method_26_code 32 = .ok (.bipush (24), 2) := by decide +kernel
theorem d_G_faultOfReceived_34 : decode prog_1_method_26_code 34 = .ok (.if_icmp .ne (10), 3) := by decide +kernel
theorem d_G_faultOfReceived_37 : decode prog_1_method_26_code 37 = .ok (.iload_n 1, 1) := by decide +kernel
theorem d_G_faultOfReceived_38 : decode prog_1_method_26_code 38 = .ok (.ifCond .eq (6), 3) := by decide +kernel
theorem d_G_faultOfReceived_41 : decode prog_1_method_26_code 41 = .ok (.bipush (8), 2) := by decide +kernel
theorem d_G_faultOfReceived_43 : decode prog_1_method_26_code 43 = .ok (.ireturn, 1) := by decide +kernel
theorem d_G_faultOfReceived_44 : decode prog_1_method_26_code 44 = .ok (.aload_n 0, 1) := by decide +kernel
theorem d_G_faultOfReceived_45 : decode prog_1_method_26_code 45 = .ok (.getfield 51, 3) := by decide +kernel
theorem d_G_faultOfReceived_48 : decode prog_1_method_26_code 48 = .ok (.bipush (6), 2) := by decide +kernel
theorem d_G_faultOfReceived_50 : decode prog_1_method_26_code 50 = .ok (.if_icmp .eq (23), 3) := by decide +kernel
theorem d_G_faultOfReceived_53 : decode prog_1_method_26_code 53 = .ok (.aload_n 0, 1) := by decide +kernel
theorem d_G_faultOfReceived_54 : decode prog_1_method_26_code 54 = .ok (.getfield 51, 3) := by decide +kernel
theorem d_G_faultOfReceived_57 : decode prog_1_method_26_code 57 = .ok (.iconst 4, 1) := by decide +kernel
theorem d_G_faultOfReceived_58 : decode prog_1_method_26_code 58 = .ok (.if_icmp .ne (18), 3) := by decide +kernel
theorem d_G_faultOfReceived_61 : decode prog_1_method_26_code 61 = .ok (.aload_n 0, 1) := by decide +kernel
theorem d_G_faultOfReceived_62 : decode prog_1_method_26_code 62 = .ok (.getfield 33, 3) := by decide +kernel
theorem d_G_faultOfReceived_65 : decode prog_1_method_26_code 65 = .ok (.getfield 92, 3) := by decide +kernel
theorem d_G_faultOfReceived_68 : decode prog_1_method_26_code 68 = .ok (.bipush (16), 2) := by decide +kernel
theorem d_G_faultOfReceived_70 : decode prog_1_method_26_code 70 = .ok (.if_icmp .eq (6), 3) := by decide +kernel
theorem d_G_faultOfReceived_73 : decode prog_1_method_26_code 73 = .ok (.bipush (9), 2) := by decide +kernel
theorem d_G_faultOfReceived_75 : decode prog_1_method_26_code 75 = .ok (.ireturn, 1) := by decide +kernel
theorem d_G_faultOfReceived_76 : decode prog_1_method_26_code 76 = .ok (.aload_n 0, 1) := by decide +kernel
theorem d_G_faultOfReceived_77 : decode prog_1_method_26_code 77 = .ok (.getfield 33, 3) := by decide +kernel
theorem d_G_faultOfReceived_80 : decode prog_1_method_26_code 80 = .ok (.getfield 92, 3) := by decide +kernel
theorem d_G_faultOfReceived_83 : decode prog_1_method_26_code 83 = .ok (.bipush (9), 2) := by decide +kernel
theorem d_G_faultOfReceived_85 : decode prog_1_method_26_code 85 = .ok (.if_icmp .ne (16), 3) := by decide +kernel
theorem d_G_faultOfReceived_88 : decode prog_1_method_26_code 88 = .ok (.aload_n 0, 1) := by decide +kernel
theorem d_G_faultOfReceived_89 : decode prog_1_method_26_code 89 = .ok (.getfield 19, 3) := by decide +kernel
theorem d_G_faultOfReceived_92 : decode prog_1_method_26_code 92 = .ok (.getfield 181, 3) := by decide +kernel
theorem d_G_faultOfReceived_95 : decode prog_1_method_26_code 95 = .ok (.ifCond .ne (6), 3) := by decide +kernel
theorem d_G_faultOfReceived_98 : decode prog_1_method_26_code 98 = .ok (.bipush (10), 2) := by decide +kernel
theorem d_G_faultOfReceived_100 : decode prog_1_method_26_code 100 = .ok (.ireturn, 1) := by decide +kernel
theorem d_G_faultOfReceived_101 : decode prog_1_method_26_code 101 = .ok (.aload_n 0, 1) := by decide +kernel
theorem d_G_faultOfReceived_102 : decode prog_1_method_26_code 102 = .ok (.getfield 33, 3) := by decide +kernel
theorem d_G_faultOfReceived_105 : decode prog_1_method_26_code 105 = .ok (.getfield 92, 3) := by decide +kernel
theorem d_G_faultOfReceived_108 : decode prog_1_method_26_code 108 = .ok (.bipush (9), 2) := by decide +kernel
theorem d_G_faultOfReceived_110 : decode prog_1_method_26_code 110 = .ok (.if_icmp .ne (45), 3) := by decide +kernel
theorem d_G_faultOfReceived_113 : decode prog_1_method_26_code 113 = .ok (.aload_n 0, 1) := by decide +kernel
theorem d_G_faultOfReceived_114 : decode prog_1_method_26_code 114 = .ok (.getfield 33, 3) := by decide +kernel
theorem d_G_faultOfReceived_117 : decode prog_1_method_26_code 117 = .ok (.getfield 252, 3) := by decide +kernel
theorem d_G_faultOfReceived_120 : decode prog_1_method_26_code 120 = .ok (.aload_n 0, 1) := by decide +kernel
theorem d_G_faultOfReceived_121 : decode prog_1_method_26_code 121 = .ok (.getfield 19, 3) := by decide +kernel
theorem d_G_faultOfReceived_124 : decode prog_1_method_26_code 124 = .ok (.getfield 184, 3) := by decide +kernel
theorem d_G_faultOfReceived_127 : decode prog_1_method_26_code 127 = .ok (.if_icmp .gt (25), 3) := by decide +kernel
theorem d_G_faultOfReceived_130 : decode prog_1_method_26_code 130 = .ok (.aload_n 0, 1) := by decide +kernel
theorem d_G_faultOfReceived_131 : decode prog_1_method_26_code 131 = .ok (.invokevirtual 221, 3) := by decide +kernel
theorem d_G_faultOfReceived_134 : decode prog_1_method_26_code 134 = .ok (.ifCond .eq (21), 3) := by decide +kernel
theorem d_G_faultOfReceived_137 : decode prog_1_method_26_code 137 = .ok (.aload_n 0, 1) := by decide +kernel
theorem d_G_faultOfReceived_138 : decode prog_1_method_26_code 138 = .ok (.aload_n 0, 1) := by decide +kernel
theorem d_G_faultOfReceived_139 : decode prog_1_method_26_code 139 = .ok (.getfield 33, 3) := by decide +kernel
theorem d_G_faultOfReceived_142 : decode prog_1_method_26_code 142 = .ok (.getfield 252, 3) := by decide +kernel
theorem d_G_faultOfReceived_145 : decode prog_1_method_26_code 145 = .ok (.invokevirtual 253, 3) := by decide +kernel
theorem d_G_faultOfReceived_148 : decode prog_1_method_26_code 148 = .ok (.iconst 3, 1) := by decide +kernel
theorem d_G_faultOfReceived_149 : decode prog_1_method_26_code 149 = .ok (.if_icmp .lt (6), 3) := by decide +kernel
theorem d_G_faultOfReceived_152 : decode prog_1_method_26_code 152 = .ok (.bipush (11), 2) := by decide +kernel
theorem d_G_faultOfReceived_154 : decode prog_1_method_26_code 154 = .ok (.ireturn, 1) := by decide +kernel
theorem d_G_faultOfReceived_155 : decode prog_1_method_26_code 155 = .ok (.aload_n 0, 1) := by decide +kernel
theorem d_G_faultOfReceived_156 : decode prog_1_method_26_code 156 = .ok (.getfield 33, 3) := by decide +kernel
theorem d_G_faultOfReceived_159 : decode prog_1_method_26_code 159 = .ok (.getfield 248, 3) := by decide +kernel
theorem d_G_faultOfReceived_162 : decode prog_1_method_26_code 162 = .ok (.iconst 4, 1) := by decide +kernel
theorem d_G_faultOfReceived_163 : decode prog_1_method_26_code 163 = .ok (.baload, 1) := by decide +kernel
theorem d_G_faultOfReceived_164 : decode prog_1_method_26_code 164 = .ok (.ifCond .eq (30), 3) := by decide +kernel
theorem d_G_faultOfReceived_167 : decode prog_1_method_26_code 167 = .ok (.aload_n 0, 1) := by decide +kernel
theorem d_G_faultOfReceived_168 : decode prog_1_method_26_code 168 = .ok (.getfield 19, 3) := by decide +kernel
theorem d_G_faultOfReceived_171 : decode prog_1_method_26_code 171 = .ok (.getfield 256, 3) := by decide +kernel
theorem d_G_faultOfReceived_174 : decode prog_1_method_26_code 174 = .ok (.aload_n 0, 1) := by decide +kernel
theorem d_G_faultOfReceived_175 : decode prog_1_method_26_code 175 = .ok (.getfield 33, 3) := by decide +kernel
theorem d_G_faultOfReceived_178 : decode prog_1_method_26_code 178 = .ok (.getfield 260, 3) := by decide +kernel
theorem d_G_faultOfReceived_181 : decode prog_1_method_26_code 181 = .ok (.aload_n 0, 1) := by decide +kernel
theorem d_G_faultOfReceived_182 : decode prog_1_method_26_code 182 = .ok (.getfield 33, 3) := by decide +kernel
theorem d_G_faultOfReceived_185 : decode prog_1_method_26_code 185 = .ok (.invokevirtual 263, 3) := by decide +kernel
theorem d_G_faultOfReceived_188 : decode prog_1_method_26_code 188 = .ok (.invokevirtual 266, 3) := by decide +kernel
theorem d_G_faultOfReceived_191 : decode prog_1_method_26_code 191 = .ok (.ifCond .eq (7), 3) := by decide +kernel
theorem d_G_faultOfReceived_194 : decode prog_1_method_26_code 194 = .ok (.iconst 1, 1) := by decide +kernel
theorem d_G_faultOfReceived_195 : decode prog_1_method_26_code 195 = .ok (.goto (4), 3) := by decide +kernel
theorem d_G_faultOfReceived_198 : decode prog_1_method_26_code 198 = .ok (.iconst 0, 1) := by decide +kernel
theorem d_G_faultOfReceived_199 : decode prog_1_method_26_code 199 = .ok (.istore_n 2, 1) := by decide +kernel
theorem d_G_faultOfReceived_200 : decode prog_1_method_26_code 200 = .ok (.iload_n 2, 1) := by decide +kernel
theorem d_G_faultOfReceived_201 : decode prog_1_method_26_code 201 = .ok (.ifCond .eq (7), 3) := by decide +kernel
theorem d_G_faultOfReceived_204 : decode prog_1_method_26_code 204 = .ok (.iconst 0, 1) := by decide +kernel
theorem d_G_faultOfReceived_205 : decode prog_1_method_26_code 205 = .ok (.goto (5), 3) := by decide +kernel
theorem d_G_faultOfReceived_208 : decode prog_1_method_26_code 208 = .ok (.bipush (12), 2) := by decide +kernel
theorem d_G_faultOfReceived_210 : decode prog_1_method_26_code 210 = .ok (.ireturn, 1) := by decide +kernel
theorem d_G_obeyReceived_0 : decode prog_1_method_27_code 0 = .ok (.aload_n 0, 1) := by decide +kernel
theorem d_G_obeyReceived_1 : decode prog_1_method_27_code 1 = .ok (.getfield 33, 3) := by decide +kernel
theorem d_G_obeyReceived_4 : decode prog_1_method_27_code 4 = .ok (.getfield 92, 3) := by decide +kernel
theorem d_G_obeyReceived_7 : decode prog_1_method_27_code 7 = .ok (.bipush (16), 2) := by decide +kernel
theorem d_G_obeyReceived_9 : decode prog_1_method_27_code 9 = .ok (.if_icmp .ne (10), 3) := by decide +kernel
theorem d_G_obeyReceived_12 : decode prog_1_method_27_code 12 = .ok (.aload_n 0, 1) := by decide +kernel
theorem d_G_obeyReceived_13 : decode prog_1_method_27_code 13 = .ok (.invokevirtual 224, 3) := by decide +kernel
theorem d_G_obeyReceived_16 : decode prog_1_method_27_code 16 = .ok (.goto (103), 3) := by decide +kernel
theorem d_G_obeyReceived_19 : decode prog_1_method_27_code 19 = .ok (.aload_n 0, 1) := by decide +kernel
theorem d_G_obeyReceived_20 : decode prog_1_method_27_code 20 = .ok (.getfield 33, 3) := by decide +kernel
theorem d_G_obeyReceived_23 : decode prog_1_method_27_code 23 = .ok (.getfield 92, 3) := by decide +kernel
theorem d_G_obeyReceived_26 : decode prog_1_method_27_code 26 = .ok (.bipush (9), 2) := by decide +kernel
theorem d_G_obeyReceived_28 : decode prog_1_method_27_code 28 = .ok (.if_icmp .ne (20), 3) := by decide +kernel
theorem d_G_obeyReceived_31 : decode prog_1_method_27_code 31 = .ok (.aload_n 0, 1) := by decide +kernel
theorem d_G_obeyReceived_32 : decode prog_1_method_27_code 32 = .ok (.getfield 19, 3) := by decide +kernel
theorem d_G_obeyReceived_35 : decode prog_1_method_27_code 35 = .ok (.aload_n 0, 1) := by decide +kernel
theorem d_G_obeyReceived_36 : decode prog_1_method_27_code 36 = .ok (.getfield 33, 3) := by decide +kernel
theorem d_G_obeyReceived_39 : decode prog_1_method_27_code 39 = .ok (.getfield 252, 3) := by decide +kernel
theorem d_G_obeyReceived_42 : decode prog_1_method_27_code 42 = .ok (.putfield 184, 3) := by decide +kernel
theorem d_G_obeyReceived_45 : decode prog_1_method_27_code 45 = .ok (.goto (74), 3) := by decide +kernel
theorem d_G_obeyReceived_48 : decode prog_1_method_27_code 48 = .ok (.aload_n 0, 1) := by decide +kernel
theorem d_G_obeyReceived_49 : decode prog_1_method_27_code 49 = .ok (.getfield 19, 3) := by decide +kernel
theorem d_G_obeyReceived_52 : decode prog_1_method_27_code 52 = .ok (.aload_n 0, 1) := by decide +kernel
theorem d_G_obeyReceived_53 : decode prog_1_method_27_code 53 = .ok (.getfield 33, 3) := by decide +kernel
theorem d_G_obeyReceived_56 : decode prog_1_method_27_code 56 = .ok (.aload_n 0, 1) := by decide +kernel
theorem d_G_obeyReceived_57 : decode prog_1_method_27_code 57 = .ok (.getfield 10, 3) := by decide +kernel
theorem d_G_obeyReceived_60 : decode prog_1_method_27_code 60 = .ok (.getfield 121, 3) := by decide +kernel
theorem d_G_obeyReceived_63 : decode prog_1_method_27_code 63 = .ok (.invokevirtual 271, 3) := by decide +kernel
theorem d_G_obeyReceived_66 : decode prog_1_method_27_code 66 = .ok (.aload_n 0, 1) := by decide +kernel
theorem d_G_obeyReceived_67 : decode prog_1_method_27_code 67 = .ok (.getfield 51, 3) := by decide +kernel
theorem d_G_obeyReceived_70 : decode prog_1_method_27_code 70 = .ok (.iconst 1, 1) := by decide +kernel
theorem d_G_obeyReceived_71 : decode prog_1_method_27_code 71 = .ok (.if_icmp .eq (10), 3) := by decide +kernel
theorem d_G_obeyReceived_74 : decode prog_1_method_27_code 74 = .ok (.aload_n 0, 1) := by decide +kernel
theorem d_G_obeyReceived_75 : decode prog_1_method_27_code 75 = .ok (.invokevirtual 221, 3) := by decide +kernel
theorem d_G_obeyReceived_78 : decode prog_1_method_27_code 78 = .ok (.ifCond .eq (7), 3) := by decide +kernel
theorem d_G_obeyReceived_81 : decode prog_1_method_27_code 81 = .ok (.iconst 1, 1) := by decide +kernel
theorem d_G_obeyReceived_82 : decode prog_1_method_27_code 82 = .ok (.goto (4), 3) := by decide +kernel
theorem d_G_obeyReceived_85 : decode prog_1_method_27_code 85 = .ok (.iconst 0, 1) := by decide +kernel
theorem d_G_obeyReceived_86 : decode prog_1_method_27_code 86 = .ok (.istore_n 1, 1) := by decide +kernel
theorem d_G_obeyReceived_87 : decode prog_1_method_27_code 87 = .ok (.aload_n 0, 1) := by decide +kernel
theorem d_G_obeyReceived_88 : decode prog_1_method_27_code 88 = .ok (.getfield 33, 3) := by decide +kernel
theorem d_G_obeyReceived_91 : decode prog_1_method_27_code 91 = .ok (.getfield 92, 3) := by decide +kernel
theorem d_G_obeyReceived_94 : decode prog_1_method_27_code 94 = .ok (.iconst 3, 1) := by decide +kernel
theorem d_G_obeyReceived_95 : decode prog_1_method_27_code 95 = .ok (.if_icmp .ne (24), 3) := by decide +kernel
theorem d_G_obeyReceived_98 : decode prog_1_method_27_code 98 = .ok (.iload_n 1, 1) := by decide +kernel
theorem d_G_obeyReceived_99 : decode prog_1_method_27_code 99 = .ok (.ifCond .eq (20), 3) := by decide +kernel
theorem d_G_obeyReceived_102 : decode prog_1_method_27_code 102 = .ok (.aload_n 0, 1) := by decide +kernel
theorem d_G_obeyReceived_103 : decode prog_1_method_27_code 103 = .ok (.getfield 19, 3) := by decide +kernel
theorem d_G_obeyReceived_106 : decode prog_1_method_27_code 106 = .ok (.getfield 236, 3) := by decide +kernel
theorem d_G_obeyReceived_109 : decode prog_1_method_27_code 109 = .ok (.invokevirtual 240, 3) := by decide +kernel
theorem d_G_obeyReceived_112 : decode prog_1_method_27_code 112 = .ok (.ifCond .ne (7), 3) := by decide +kernel
theorem d_G_obeyReceived_115 : decode prog_1_method_27_code 115 = .ok (.aload_n 0, 1) := by decide +kernel
theorem d_G_obeyReceived_116 : decode prog_1_method_27_code 116 = .ok (.invokevirtual 245, 3) := by decide +kernel
theorem d_G_obeyReceived_119 : decode prog_1_method_27_code 119 = .ok (.return_, 1) := by decide +kernel
theorem d_G_ceilingNow_0 : decode prog_1_method_28_code 0 = .ok (.aload_n 0, 1) := by decide +kernel
theorem d_G_ceilingNow_1 : decode prog_1_method_28_code 1 = .ok (.invokevirtual 221, 3) := by decide +kernel
theorem d_G_ceilingNow_4 : decode prog_1_method_28_code 4 = .ok (.ifCond .eq (49), 3) := by decide +kernel
theorem d_G_ceilingNow_7 : decode prog_1_method_28_code 7 = .ok (.aload_n 0, 1) := by decide +kernel
theorem d_G_ceilingNow_8 : decode prog_1_method_28_code 8 = .ok (.getfield 19, 3) := by decide +kernel
theorem d_G_ceilingNow_11 : decode prog_1_method_28_code 11 = .ok (.aload_n 0, 1) := by decide +kernel
theorem d_G_ceilingNow_12 : decode prog_1_method_28_code 12 = .ok (.getfield 10, 3) := by decide +kernel
theorem d_G_ceilingNow_15 : decode prog_1_method_28_code 15 = .ok (.getfield 121, 3) := by decide +kernel
theorem d_G_ceilingNow_18 : decode prog_1_method_28_code 18 = .ok (.aload_n 0, 1) := by decide +kernel
theorem d_G_ceilingNow_19 : decode prog_1_method_28_code 19 = .ok (.getfield 71, 3) := by decide +kernel
theorem d_G_ceilingNow_22 : decode prog_1_method_28_code 22 = .ok (.isub, 1) := by decide +kernel
theorem d_G_ceilingNow_23 : decode prog_1_method_28_code 23 = .ok (.aload_n 0, 1) := by decide +kernel
theorem d_G_ceilingNow_24 : decode prog_1_method_28_code 24 = .ok (.getfield 10, 3) := by decide +kernel
theorem d_G_ceilingNow_27 : decode prog_1_method_28_code 27 = .ok (.getfield 115, 3) := by decide +kernel
theorem d_G_ceilingNow_30 : decode prog_1_method_28_code 30 = .ok (.invokevirtual 200, 3) := by decide +kernel
theorem d_G_ceilingNow_33 : decode prog_1_method_28_code 33 = .ok (.istore_n 1, 1) := by decide +kernel
theorem d_G_ceilingNow_34 : decode prog_1_method_28_code 34 = .ok (.aload_n 0, 1) := by decide +kernel
theorem d_G_ceilingNow_35 : decode prog_1_method_28_code 35 = .ok (.getfield 51, 3) := by decide +kernel
theorem d_G_ceilingNow_38 : decode prog_1_method_28_code 38 = .ok (.iconst 3, 1) := by decide +kernel
theorem d_G_ceilingNow_39 : decode prog_1_method_28_code 39 = .ok (.if_icmp .ne (12), 3) := by decide +kernel
theorem d_G_ceilingNow_42 : decode prog_1_method_28_code 42 = .ok (.iload_n 1, 1) := by decide +kernel
theorem d_G_ceilingNow_43 : decode prog_1_method_28_code 43 = .ok (.bipush (60), 2) := by decide +kernel
theorem d_G_ceilingNow_45 : decode prog_1_method_28_code 45 = .ok (.invokestatic 212, 3) := by decide +kernel
theorem d_G_ceilingNow_48 : decode prog_1_method_28_code 48 = .ok (.goto (4), 3) := by decide +kernel
theorem d_G_ceilingNow_51 : decode prog_1_method_28_code 51 = .ok (.iload_n 1, 1) := by decide +kernel
theorem d_G_ceilingNow_52 : decode prog_1_method_28_code 52 = .ok (.ireturn, 1) := by decide +kernel
theorem d_G_ceilingNow_53 : decode prog_1_method_28_code 53 = .ok (.aload_n 0, 1) := by decide +kernel
theorem d_G_ceilingNow_54 : decode prog_1_method_28_code 54 = .ok (.getfield 51, 3) := by decide +kernel
theorem d_G_ceilingNow_57 : decode prog_1_method_28_code 57 = .ok (.iconst 1, 1) := by decide +kernel
theorem d_G_ceilingNow_58 : decode prog_1_method_28_code 58 = .ok (.if_icmp .ne (8), 3) := by decide +kernel
theorem d_G_ceilingNow_61 : decode prog_1_method_28_code 61 = .ok (.bipush (80), 2) := by decide +kernel
theorem d_G_ceilingNow_63 : decode prog_1_method_28_code 63 = .ok (.goto (4), 3) := by decide +kernel
theorem d_G_ceilingNow_66 : decode prog_1_method_28_code 66 = .ok (.iconst 0, 1) := by decide +kernel
theorem d_G_ceilingNow_67 : decode prog_1_method_28_code 67 = .ok (.ireturn, 1) := by decide +kernel
theorem d_G_gradeNow_0 : decode prog_1_method_29_code 0 = .ok (.aload_n 0, 1) := by decide +kernel
theorem d_G_gradeNow_1 : decode prog_1_method_29_code 1 = .ok (.aload_n 0, 1) := by decide +kernel
theorem d_G_gradeNow_2 : decode prog_1_method_29_code 2 = .ok (.getfield 19, 3) := by decide +kernel
theorem d_G_gradeNow_5 : decode prog_1_method_29_code 5 = .ok (.getfield 184, 3) := by decide +kernel
theorem d_G_gradeNow_8 : decode prog_1_method_29_code 8 = .ok (.invokevirtual 253, 3) := by decide +kernel
theorem d_G_gradeNow_11 : decode prog_1_method_29_code 11 = .ok (.ireturn, 1) := by decide +kernel
theorem d_G_gradeWithEnd_0 : decode prog_1_method_30_code 0 = .ok (.aload_n 0, 1) := by decide +kernel
theorem d_G_gradeWithEnd_1 : decode prog_1_method_30_code 1 = .ok (.invokevirtual 193, 3) := by decide +kernel
theorem d_G_gradeWithEnd_4 : decode prog_1_method_30_code 4 = .ok (.ifCond .eq (5), 3) := by decide +kernel
theorem d_G_gradeWithEnd_7 : decode prog_1_method_30_code 7 = .ok (.iconst 4, 1) := by decide +kernel
theorem d_G_gradeWithEnd_8 : decode prog_1_method_30_code 8 = .ok (.ireturn, 1) := by decide +kernel
theorem d_G_gradeWithEnd_9 : decode prog_1_method_30_code 9 = .ok (.aload_n 0, 1) := by decide +kernel
theorem d_G_gradeWithEnd_10 : decode prog_1_method_30_code 10 = .ok (.iload_n 1, 1) := by decide +kernel
theorem d_G_gradeWithEnd_11 : decode prog_1_method_30_code 11 = .ok (.invokevirtual 274, 3) := by decide +kernel
theorem d_G_gradeWithEnd_14 : decode prog_1_method_30_code 14 = .ok (.aload_n 0, 1) := by decide +kernel
theorem d_G_gradeWithEnd_15 : decode prog_1_method_30_code 15 = .ok (.getfield 67, 3) := by decide +kernel
theorem d_G_gradeWithEnd_18 : decode prog_1_method_30_code 18 = .ok (.aload_n 0, 1) := by decide +kernel
theorem d_G_gradeWithEnd_19 : decode prog_1_method_30_code 19 = .ok (.getfield 10, 3) := by decide +kernel
theorem d_G_gradeWithEnd_22 : decode prog_1_method_30_code 22 = .ok (.getfield 172, 3) := by decide +kernel
theorem d_G_gradeWithEnd_25 : decode prog_1_method_30_code 25 = .ok (.invokevirtual 277, 3) := by decide +kernel
theorem d_G_gradeWithEnd_28 : decode prog_1_method_30_code 28 = .ok (.ireturn, 1) := by decide +kernel
theorem d_G_allowedNow_0 : decode prog_1_method_31_code 0 = .ok (.aload_n 0, 1) := by decide +kernel
theorem d_G_allowedNow_1 : decode prog_1_method_31_code 1 = .ok (.invokevirtual 193, 3) := by decide +kernel
theorem d_G_allowedNow_4 : decode prog_1_method_31_code 4 = .ok (.ifCond .eq (5), 3) := by decide +kernel
theorem d_G_allowedNow_7 : decode prog_1_method_31_code 7 = .ok (.iconst 0, 1) := by decide +kernel
theorem d_G_allowedNow_8 : decode prog_1_method_31_code 8 = .ok (.ireturn, 1) := by decide +kernel
theorem d_G_allowedNow_9 : decode prog_1_method_31_code 9 = .ok (.aload_n 0, 1) := by decide +kernel
theorem d_G_allowedNow_10 : decode prog_1_method_31_code 10 = .ok (.aload_n 0, 1) := by decide +kernel
theorem d_G_allowedNow_11 : decode prog_1_method_31_code 11 = .ok (.getfield 19, 3) := by decide +kernel
theorem d_G_allowedNow_14 : decode prog_1_method_31_code 14 = .ok (.getfield 184, 3) := by decide +kernel
theorem d_G_allowedNow_17 : decode prog_1_method_31_code 17 = .ok (.invokevirtual 274, 3) := by decide +kernel
theorem d_G_allowedNow_20 : decode prog_1_method_31_code 20 = .ok (.aload_n 0, 1) := by decide +kernel
theorem d_G_allowedNow_21 : decode prog_1_method_31_code 21 = .ok (.getfield 67, 3) := by decide +kernel
theorem d_G_allowedNow_24 : decode prog_1_method_31_code 24 = .ok (.invokevirtual 280, 3) := by decide +kernel
theorem d_G_allowedNow_27 : decode prog_1_method_31_code 27 = .ok (.ireturn, 1) := by decide +kernel
theorem d_G_lookAhead_0 : decode prog_1_method_32_code 0 = .ok (.aload_n 0, 1) := by decide +kernel
theorem d_G_lookAhead_1 : decode prog_1_method_32_code 1 = .ok (.getfield 67, 3) := by decide +kernel
theorem d_G_lookAhead_4 : decode prog_1_method_32_code 4 = .ok (.aload_n 0, 1) := by decide +kernel
theorem d_G_lookAhead_5 : decode prog_1_method_32_code 5 = .ok (.invokevirtual 197, 3) := by decide +kernel
theorem d_G_lookAhead_8 : decode prog_1_method_32_code 8 = .ok (.aload_n 0, 1) := by decide +kernel
theorem d_G_lookAhead_9 : decode prog_1_method_32_code 9 = .ok (.getfield 10, 3) := by decide +kernel
theorem d_G_lookAhead_12 : decode prog_1_method_32_code 12 = .ok (.getfield 115, 3) := by decide +kernel
theorem d_G_lookAhead_15 : decode prog_1_method_32_code 15 = .ok (.invokevirtual 283, 3) := by decide +kernel
theorem d_G_lookAhead_18 : decode prog_1_method_32_code 18 = .ok (.aload_n 0, 1) := by decide +kernel
theorem d_G_lookAhead_19 : decode prog_1_method_32_code 19 = .ok (.invokevirtual 221, 3) := by decide +kernel
theorem d_G_lookAhead_22 : decode prog_1_method_32_code 22 = .ok (.ifCond .eq (48), 3) := by decide +kernel
theorem d_G_lookAhead_25 : decode prog_1_method_32_code 25 = .ok (.aload_n 0, 1) := by decide +kernel
theorem d_G_lookAhead_26 : decode prog_1_method_32_code 26 = .ok (.iload_n 1, 1) := by decide +kernel
theorem d_G_lookAhead_27 : decode prog_1_method_32_code 27 = .ok (.iconst 0, 1) := by decide +kernel
theorem d_G_lookAhead_28 : decode prog_1_method_32_code 28 = .ok (.invokevirtual 286, 3) := by decide +kernel
theorem d_G_lookAhead_31 : decode prog_1_method_32_code 31 = .ok (.aload_n 0, 1) := by decide +kernel
theorem d_G_lookAhead_32 : decode prog_1_method_32_code 32 = .ok (.aload_n 0, 1) := by decide +kernel
theorem d_G_lookAhead_33 : decode prog_1_method_32_code 33 = .ok (.getfield 19, 3) := by decide +kernel
theorem d_G_lookAhead_36 : decode prog_1_method_32_code 36 = .ok (.getfield 236, 3) := by decide +kernel
theorem d_G_lookAhead_39 : decode prog_1_method_32_code 39 = .ok (.invokevirtual 289, 3) := by decide +kernel
theorem d_G_lookAhead_42 : decode prog_1_method_32_code 42 = .ok (.aload_n 0, 1) := by decide +kernel
theorem d_G_lookAhead_43 : decode prog_1_method_32_code 43 = .ok (.aload_n 0, 1) := by decide +kernel
theorem d_G_lookAhead_44 : decode prog_1_method_32_code 44 = .ok (.getfield 19, 3) := by decide +kernel
theorem d_G_lookAhead_47 : decode prog_1_method_32_code 47 = .ok (.getfield 256, 3) := by decide +kernel
theorem d_G_lookAhead_50 : decode prog_1_method_32_code 50 = .ok (.getfield 293, 3) := by decide +kernel
theorem d_G_lookAhead_53 : decode prog_1_method_32_code 53 = .ok (.invokevirtual 289, 3) := by decide +kernel
theorem d_G_lookAhead_56 : decode prog_1_method_32_code 56 = .ok (.aload_n 0, 1) := by decide +kernel
theorem d_G_lookAhead_57 : decode prog_1_method_32_code 57 = .ok (.iload_n 1, 1) := by decide +kernel
theorem d_G_lookAhead_58 : decode prog_1_method_32_code 58 = .ok (.aload_n 0, 1) := by decide +kernel
theorem d_G_lookAhead_59 : decode prog_1_method_32_code 59 = .ok (.getfield 19, 3) := by decide +kernel
theorem d_G_lookAhead_62 : decode prog_1_method_32_code 62 = .ok (.getfield 296, 3) := by decide +kernel
theorem d_G_lookAhead_65 : decode prog_1_method_32_code 65 = .ok (.iadd, 1) := by decide +kernel
theorem d_G_lookAhead_66 : decode prog_1_method_32_code 66 = .ok (.iconst 0, 1) := by decide +kernel
theorem d_G_lookAhead_67 : decode prog_1_method_32_code 67 = .ok (.invokevirtual 286, 3) := by decide +kernel
theorem d_G_lookAhead_70 : decode prog_1_method_32_code 70 = .ok (.return_, 1) := by decide +kernel
end
section
theorem d_G_addTargetsOf_0 : decode prog_1_method_33_code 0 = .ok (.iconst 0, 1) := by decide +kernel
theorem d_G_addTargetsOf_1 : decode prog_1_method_33_code 1 = .ok (.istore_n 2, 1) := by decide +kernel
theorem d_G_addTargetsOf_2 : decode prog_1_method_33_code 2 = .ok (.iload_n 2, 1) := by decide +kernel
theorem d_G_addTargetsOf_3 : decode prog_1_method_33_code 3 = .ok (.aload_n 1, 1) := by decide +kernel
theorem d_G_addTargetsOf_4 : decode prog_1_method_33_code 4 = .ok (.getfield 299, 3) := by decide +kernel
theorem d_G_addTargetsOf_7 : decode prog_1_method_33_code 7 = .ok (.if_icmp .ge (41), 3) := by decide +kernel
theorem d_G_addTargetsOf_10 : decode prog_1_method_33_code 10 = .ok (.aload_n 1, 1) := by decide +kernel
theorem d_G_addTargetsOf_11 : decode prog_1_method_33_code 11 = .ok (.getfield 300, 3) := by decide +kernel
theorem d_G_addTargetsOf_14 : decode prog_1_method_33_code 14 = .ok (.iload_n 2, 1) := by decide +kernel
theorem d_G_addTargetsOf_15 : decode prog_1_method_33_code 15 = .ok (.iaload, 1) := by decide +kernel
theorem d_G_addTargetsOf_16 : decode prog_1_method_33_code 16 = .ok (.aload_n 0, 1) := by decide +kernel
theorem d_G_addTargetsOf_17 : decode prog_1_method_33_code 17 = .ok (.getfield 10, 3) := by decide +kernel
theorem d_G_addTargetsOf_20 : decode prog_1_method_33_code 20 = .ok (.getfield 115, 3) := by decide +kernel
theorem d_G_addTargetsOf_23 : decode prog_1_method_33_code 23 = .ok (.if_icmp .le (19), 3) := by decide +kernel
theorem d_G_addTargetsOf_26 : decode prog_1_method_33_code 26 = .ok (.aload_n 0, 1) := by decide +kernel
theorem d_G_addTargetsOf_27 : decode prog_1_method_33_code 27 = .ok (.aload_n 1, 1) := by decide +kernel
theorem d_G_addTargetsOf_28 : decode prog_1_method_33_code 28 = .ok (.getfield 300, 3) := by decide +kernel
theorem d_G_addTargetsOf_31 : decode prog_1_method_33_code 31 = .ok (.iload_n 2, 1) := by decide +kernel
theorem d_G_addTargetsOf_32 : decode prog_1_method_33_code 32 = .ok (.iaload, 1) := by decide +kernel
theorem d_G_addTargetsOf_33 : decode prog_1_method_33_code 33 = .ok (.aload_n 1, 1) := by decide +kernel
theorem d_G_addTargetsOf_34 : decode prog_1_method_33_code 34 = .ok (.getfield 304, 3) := by decide +kernel
theorem d_G_addTargetsOf_37 : decode prog_1_method_33_code 37 = .ok (.iload_n 2, 1) := by decide +kernel
theorem d_G_addTargetsOf_38 : decode prog_1_method_33_code 38 = .ok (.iaload, 1) := by decide +kernel
theorem d_G_addTargetsOf_39 : decode prog_1_method_33_code 39 = .ok (.invokevirtual 286, 3) := by decide +kernel
theorem d_G_addTargetsOf_42 : decode prog_1_method_33_code 42 = .ok (.iinc 2 (1), 3) := by decide +kernel
theorem d_G_addTargetsOf_45 : decode prog_1_method_33_code 45 = .ok (.goto (-43), 3) := by decide +kernel
theorem d_G_addTargetsOf_48 : decode prog_1_method_33_code 48 = .ok (.return_, 1) := by decide +kernel
theorem d_G_addTarget_0 : decode prog_1_method_34_code 0 = .ok (.aload_n 0, 1) := by decide +kernel
theorem d_G_addTarget_1 : decode prog_1_method_34_code 1 = .ok (.getfield 67, 3) := by decide +kernel
theorem d_G_addTarget_4 : decode prog_1_method_34_code 4 = .ok (.iload_n 1, 1) := by decide +kernel
theorem d_G_addTarget_5 : decode prog_1_method_34_code 5 = .ok (.iload_n 2, 1) := by decide +kernel
theorem d_G_addTarget_6 : decode prog_1_method_34_code 6 = .ok (.aload_n 0, 1) := by decide +kernel
theorem d_G_addTarget_7 : decode prog_1_method_34_code 7 = .ok (.getfield 19, 3) := by decide +kernel
theorem d_G_addTarget_10 : decode prog_1_method_34_code 10 = .ok (.getfield 307, 3) := by decide +kernel
theorem d_G_addTarget_13 : decode prog_1_method_34_code 13 = .ok (.aload_n 0, 1) := by decide +kernel
theorem d_G_addTarget_14 : decode prog_1_method_34_code 14 = .ok (.getfield 10, 3) := by decide +kernel
theorem d_G_addTarget_17 : decode prog_1_method_34_code 17 = .ok (.getfield 121, 3) := by decide +kernel
theorem d_G_addTarget_20 : decode prog_1_method_34_code 20 = .ok (.aload_n 0, 1) := by decide +kernel
theorem d_G_addTarget_21 : decode prog_1_method_34_code 21 = .ok (.getfield 71, 3) := by decide +kernel
theorem d_G_addTarget_24 : decode prog_1_method_34_code 24 = .ok (.isub, 1) := by decide +kernel
theorem d_G_addTarget_25 : decode prog_1_method_34_code 25 = .ok (.iload_n 1, 1) := by decide +kernel
theorem d_G_addTarget_26 : decode prog_1_method_34_code 26 = .ok (.invokevirtual 310, 3) := by decide +kernel
theorem d_G_addTarget_29 : decode prog_1_method_34_code 29 = .ok (.invokevirtual 313, 3) := by decide +kernel
theorem d_G_addTarget_32 : decode prog_1_method_34_code 32 = .ok (.return_, 1) := by decide +kernel
theorem d_Mod_init_0 : decode prog_13_method_1_code 0 = .ok (.aload_n 0, 1) := by decide +kernel
theorem d_Mod_init_1 : decode prog_13_method_1_code 1 = .ok (.invokespecial 1, 3) := by decide +kernel
theorem d_Mod_init_4 : decode prog_13_method_1_code 4 = .ok (.aload_n 0, 1) := by decide +kernel
theorem d_Mod_init_5 : decode prog_13_method_1_code 5 = .ok (.bipush (7), 2) := by decide +kernel
theorem d_Mod_init_7 : decode prog_13_method_1_code 7 = .ok (.newarray .int, 2) := by decide +kernel
theorem d_Mod_init_9 : decode prog_13_method_1_code 9 = .ok (.putfield 7, 3) := by decide +kernel
theorem d_Mod_init_12 : decode prog_13_method_1_code 12 = .ok (.aload_n 0, 1) := by decide +kernel
theorem d_Mod_init_13 : decode prog_13_method_1_code 13 = .ok (.bipush (7), 2) := by decide +kernel
theorem d_Mod_init_15 : decode prog_13_method_1_code 15 = .ok (.newarray .int, 2) := by decide +kernel
theorem d_Mod_init_17 : decode prog_13_method_1_code 17 = .ok (.putfield 13, 3) := by decide +kernel
theorem d_Mod_init_20 : decode prog_13_method_1_code 20 = .ok (.aload_n 0, 1) := by decide +kernel
theorem d_Mod_init_21 : decode prog_13_method_1_code 21 = .ok (.bipush (7), 2) := by decide +kernel
theorem d_Mod_init_23 : decode prog_13_method_1_code 23 = .ok (.newarray .int, 2) := by decide +kernel
theorem d_Mod_init_25 : decode prog_13_method_1_code 25 = .ok (.putfield 16, 3) := by decide +kernel
theorem d_Mod_init_28 : decode prog_13_method_1_code 28 = .ok (.aload_n 0, 1) := by decide +kernel
theorem d_Mod_init_29 : decode prog_13_method_1_code 29 = .ok (.bipush (7), 2) := by decide +kernel
theorem d_Mod_init_31 : decode prog_13_method_1_code 31 = .ok (.newarray .int, 2) := by decide +kernel
theorem d_Mod_init_33 : decode prog_13_method_1_code 33 = .ok (.putfield 19, 3) := by decide +kernel
theorem d_Mod_init_36 : decode prog_13_method_1_code 36 = .ok (.aload_n 0, 1) := by decide +kernel
theorem d_Mod_init_37 : decode prog_13_method_1_code 37 = .ok (.bipush (7), 2) := by decide +kernel
theorem d_Mod_init_39 : decode prog_13_method_1_code 39 = .ok (.newarray .int, 2) := by decide +kernel
theorem d_Mod_init_41 : decode prog_13_method_1_code 41 = .ok (.putfield 22, 3) := by decide +kernel
theorem d_Mod_init_44 : decode prog_13_method_1_code 44 = .ok (.aload_n 0, 1) := by decide +kernel
theorem d_Mod_init_45 : decode prog_13_method_1_code 45 = .ok (.bipush (7), 2) := by decide +kernel
theorem d_Mod_init_47 : decode prog_13_method_1_code 47 = .ok (.newarray .int, 2) := by decide +kernel
theorem d_Mod_init_49 : decode prog_13_method_1_code 49 = .ok (.putfield 25, 3) := by decide +kernel
theorem d_Mod_init_52 : decode prog_13_method_1_code 52 = .ok (.aload_n 0, 1) := by decide +kernel
theorem d_Mod_init_53 : decode prog_13_method_1_code 53 = .ok (.bipush (7), 2) := by decide +kernel
theorem d_Mod_init_55 : decode prog_13_method_1_code 55 = .ok (.newarray .int, 2) := by decide +kernel
theorem d_Mod_init_57 : decode prog_13_method_1_code 57 = .ok (.putfield 28, 3) := by decide +kernel
theorem d_Mod_init_60 : decode prog_13_method_1_code 60 = .ok (.aload_n 0, 1) := by decide +kernel
theorem d_Mod_init_61 : decode prog_13_method_1_code 61 = .ok (.bipush (7), 2) := by decide +kernel
theorem d_Mod_init_63 : decode prog_13_method_1_code 63 = .ok (.newarray .boolean, 2) := by decide +kernel
theorem d_Mod_init_65 : decode prog_13_method_1_code 65 = .ok (.putfield 31, 3) := by decide +kernel
theorem d_Mod_init_68 : decode prog_13_method_1_code 68 = .ok (.aload_n 0, 1) := by decide +kernel
theorem d_Mod_init_69 : decode prog_13_method_1_code 69 = .ok (.bipush (6), 2) := by decide +kernel
theorem d_Mod_init_71 : decode prog_13_method_1_code 71 = .ok (.newarray .int, 2) := by decide +kernel
theorem d_Mod_init_73 : decode prog_13_method_1_code 73 = .ok (.putfield 35, 3) := by decide +kernel
theorem d_Mod_init_76 : decode prog_13_method_1_code 76 = .ok (.aload_n 0, 1) := by decide +kernel
theorem d_Mod_init_77 : decode prog_13_method_1_code 77 = .ok (.bipush (6), 2) := by decide +kernel
theorem d_Mod_init_79 : decode prog_13_method_1_code 79 = .ok (.newarray .int, 2) := by decide +kernel
theorem d_Mod_init_81 : decode prog_13_method_1_code 81 = .ok (.putfield 38, 3) := by decide +kernel
theorem d_Mod_init_84 : decode prog_13_method_1_code 84 = .ok (.aload_n 0, 1) := by decide +kernel
theorem d_Mod_init_85 : decode prog_13_method_1_code 85 = .ok (.bipush (6), 2) := by decide +kernel
theorem d_Mod_init_87 : decode prog_13_method_1_code 87 = .ok (.newarray .int, 2) := by decide +kernel
theorem d_Mod_init_89 : decode prog_13_method_1_code 89 = .ok (.putfield 41, 3) := by decide +kernel
theorem d_Mod_init_92 : decode prog_13_method_1_code 92 = .ok (.aload_n 0, 1) := by decide +kernel
theorem d_Mod_init_93 : decode prog_13_method_1_code 93 = .ok (.bipush (6), 2) := by decide +kernel
theorem d_Mod_init_95 : decode prog_13_method_1_code 95 = .ok (.newarray .int, 2) := by decide +kernel
theorem d_Mod_init_97 : decode prog_13_method_1_code 97 = .ok (.putfield 44, 3) := by decide +kernel
theorem d_Mod_init_100 : decode prog_13_method_1_code 100 = .ok (.aload_n 0, 1) := by decide +kernel
theorem d_Mod_init_101 : decode prog_13_method_1_code 101 = .ok (.iconst (-1), 1) := by decide +kernel
theorem d_Mod_init_102 : decode prog_13_method_1_code 102 = .ok (.putfield 47, 3) := by decide +kernel
theorem d_Mod_init_105 : decode prog_13_method_1_code 105 = .ok (.aload_n 0, 1) := by decide +kernel
theorem d_Mod_init_106 : decode prog_13_method_1_code 106 = .ok (.sipush (600), 3) := by decide +kernel
theorem d_Mod_init_109 : decode prog_13_method_1_code 109 = .ok (.newarray .int, 2) := by decide +kernel
theorem d_Mod_init_111 : decode prog_13_method_1_code 111 = .ok (.putfield 51, 3) := by decide +kernel
theorem d_Mod_init_114 : decode prog_13_method_1_code 114 = .ok (.aload_n 0, 1) := by decide +kernel
theorem d_Mod_init_115 : decode prog_13_method_1_code 115 = .ok (.bipush (6), 2) := by decide +kernel
theorem d_Mod_init_117 : decode prog_13_method_1_code 117 = .ok (.newarray .boolean, 2) := by decide +kernel
theorem d_Mod_init_119 : decode prog_13_method_1_code 119 = .ok (.putfield 54, 3) := by decide +kernel
theorem d_Mod_init_122 : decode prog_13_method_1_code 122 = .ok (.aload_n 0, 1) := by decide +kernel
theorem d_Mod_init_123 : decode prog_13_method_1_code 123 = .ok (.bipush (6), 2) := by decide +kernel
theorem d_Mod_init_125 : decode prog_13_method_1_code 125 = .ok (.newarray .int, 2) := by decide +kernel
theorem d_Mod_init_127 : decode prog_13_method_1_code 127 = .ok (.putfield 57, 3) := by decide +kernel
theorem d_Mod_init_130 : decode prog_13_method_1_code 130 = .ok (.aload_n 0, 1) := by decide +kernel
theorem d_Mod_init_131 : decode prog_13_method_1_code 131 = .ok (.bipush (126), 2) := by decide +kernel
theorem d_Mod_init_133 : decode prog_13_method_1_code 133 = .ok (.newarray .int, 2) := by decide +kernel
theorem d_Mod_init_135 : decode prog_13_method_1_code 135 = .ok (.putfield 60, 3) := by decide +kernel
theorem d_Mod_init_138 : decode prog_13_method_1_code 138 = .ok (.aload_n 0, 1) := by decide +kernel
theorem d_Mod_init_139 : decode prog_13_method_1_code 139 = .ok (.bipush (16), 2) := by decide +kernel
theorem d_Mod_init_141 : decode prog_13_method_1_code 141 = .ok (.newarray .int, 2) := by decide +kernel
theorem d_Mod_init_143 : decode prog_13_method_1_code 143 = .ok (.putfield 63, 3) := by decide +kernel
theorem d_Mod_init_146 : decode prog_13_method_1_code 146 = .ok (.iload_n 1, 1) := by decide +kernel
theorem d_Mod_init_147 : decode prog_13_method_1_code 147 = .ok (.iconst 4, 1) := by decide +kernel
theorem d_Mod_init_148 : decode prog_13_method_1_code 148 = .ok (.if_icmp .ge (7), 3) := by decide +kernel
theorem d_Mod_init_151 : decode prog_13_method_1_code 151 = .ok (.iconst 4, 1) := by decide +kernel
theorem d_Mod_init_152 : decode prog_13_method_1_code 152 = .ok (.goto (15), 3) := by decide +kernel
theorem d_Mod_init_155 : decode prog_13_method_1_code 155 = .ok (.iload_n 1, 1) := by decide +kernel
theorem d_Mod_init_156 : decode prog_13_method_1_code 156 = .ok (.bipush (40), 2) := by decide +kernel
theorem d_Mod_init_158 : decode prog_13_method_1_code 158 = .ok (.if_icmp .le (8), 3) := by decide +kernel
theorem d_Mod_init_161 : decode prog_13_method_1_code 161 = .ok (.bipush (40), 2) := by decide +kernel
theorem d_Mod_init_163 : decode prog_13_method_1_code 163 = .ok (.goto (4), 3) := by decide +kernel
theorem d_Mod_init_166 : decode prog_13_method_1_code 166 = .ok (.iload_n 1, 1) := by decide +kernel
theorem d_Mod_init_167 : decode prog_13_method_1_code 167 = .ok (.istore 4, 2) := by decide +kernel
theorem d_Mod_init_169 : decode prog_13_method_1_code 169 = .ok (.aload_n 0, 1) := by decide +kernel
theorem d_Mod_init_170 : decode prog_13_method_1_code 170 = .ok (.iload 4, 2) := by decide +kernel
theorem d_Mod_init_172 : decode prog_13_method_1_code 172 = .ok (.putfield 66, 3) := by decide +kernel
theorem d_Mod_init_175 : decode prog_13_method_1_code 175 = .ok (.aload_n 0, 1) := by decide +kernel
theorem d_Mod_init_176 : decode prog_13_method_1_code 176 = .ok (.iload_n 2, 1) := by decide +kernel
theorem d_Mod_init_177 : decode prog_13_method_1_code 177 = .ok (.iconst 2, 1) := by decide +kernel
theorem d_Mod_init_178 : decode prog_13_method_1_code 178 = .ok (.if_icmp .ge (7), 3) := by decide +kernel
theorem d_Mod_init_181 : decode prog_13_method_1_code 181 = .ok (.iconst 2, 1) := by decide +kernel
theorem d_Mod_init_182 : decode prog_13_method_1_code 182 = .ok (.goto (15), 3) := by decide +kernel
theorem d_Mod_init_185 : decode prog_13_method_1_code 185 = .ok (.iload_n 2, 1) := by decide +kernel
theorem d_Mod_init_186 : decode prog_13_method_1_code 186 = .ok (.iload 4, 2) := by decide +kernel
theorem d_Mod_init_188 : decode prog_13_method_1_code 188 = .ok (.if_icmp .le (8), 3) := by decide +kernel
theorem d_Mod_init_191 : decode prog_13_method_1_code 191 = .ok (.iload 4, 2) := by decide +kernel
theorem d_Mod_init_193 : decode prog_13_method_1_code 193 = .ok (.goto (4), 3) := by decide +kernel
theorem d_Mod_init_196 : decode prog_13_method_1_code 196 = .ok (.iload_n 2, 1) := by decide +kernel
theorem d_Mod_init_197 : decode prog_13_method_1_code 197 = .ok (.putfield 69, 3) := by decide +kernel
theorem d_Mod_init_200 : decode prog_13_method_1_code 200 = .ok (.aload_n 0, 1) := by decide +kernel
theorem d_Mod_init_201 : decode prog_13_method_1_code 201 = .ok (.iload_n 3, 1) := by decide +kernel
theorem d_Mod_init_202 : decode prog_13_method_1_code 202 = .ok (.ifCond .ge (7), 3) := by decide +kernel
theorem d_Mod_init_205 : decode prog_13_method_1_code 205 = .ok (.iconst 0, 1) := by decide +kernel
theorem d_Mod_init_206 : decode prog_13_method_1_code 206 = .ok (.goto (17), 3) := by decide +kernel
theorem d_Mod_init_209 : decode prog_13_method_1_code 209 = .ok (.iload_n 3, 1) := by decide +kernel
theorem d_Mod_init_210 : decode prog_13_method_1_code 210 = .ok (.sipush (4000), 3) := by decide +kernel
theorem d_Mod_init_213 : decode prog_13_method_1_code 213 = .ok (.if_icmp .le (9), 3) := by decide +kernel
theorem d_Mod_init_216 : decode prog_13_method_1_code 216 = .ok (.sipush (4000), 3) := by decide +kernel
theorem d_Mod_init_219 : decode prog_13_method_1_code 219 = .ok (.goto (4), 3) := by decide +kernel
theorem d_Mod_init_222 : decode prog_13_method_1_code 222 = .ok (.iload_n 3, 1) := by decide +kernel
theorem d_Mod_init_223 : decode prog_13_method_1_code 223 = .ok (.putfield 72, 3) := by decide +kernel
theorem d_Mod_init_226 : decode prog_13_method_1_code 226 = .ok (.return_, 1) := by decide +kernel
theorem d_Mod_write_0 : decode prog_13_method_2_code 0 = .ok (.bipush (15), 2) := by decide +kernel
theorem d_Mod_write_2 : decode prog_13_method_2_code 2 = .ok (.istore_n 3, 1) := by decide +kernel
theorem d_Mod_write_3 : decode prog_13_method_2_code 3 = .ok (.iload_n 3, 1) := by decide +kernel
theorem d_Mod_write_4 : decode prog_13_method_2_code 4 = .ok (.ifCond .le (23), 3) := by decide +kernel
theorem d_Mod_write_7 : decode prog_13_method_2_code 7 = .ok (.aload_n 0, 1) := by decide +kernel
theorem d_Mod_write_8 : decode prog_13_method_2_code 8 = .ok (.getfield 63, 3) := by decide +kernel
theorem d_Mod_write_11 : decode prog_13_method_2_code 11 = .ok (.iload_n 3, 1) := by decide +kernel
theorem d_Mod_write_12 : decode prog_13_method_2_code 12 = .ok (.aload_n 0, 1) := by decide +kernel
theorem d_Mod_write_13 : decode prog_13_method_2_code 13 = .ok (.getfield 63, 3) := by decide +kernel
theorem d_Mod_write_16 : decode prog_13_method_2_code 16 = .ok (.iload_n 3, 1) := by decide +kernel
theorem d_Mod_write_17 : decode prog_13_method_2_code 17 = .ok (.iconst 1, 1) := by decide +kernel
theorem d_Mod_write_18 : decode prog_13_method_2_code 18 = .ok (.isub, 1) := by decide +kernel
theorem d_Mod_write_19 : decode prog_13_method_2_code 19 = .ok (.iaload, 1) := by decide +kernel
theorem d_Mod_write_20 : decode prog_13_method_2_code 20 = .ok (.iastore, 1) := by decide +kernel
theorem d_Mod_write_21 : decode prog_13_method_2_code 21 = .ok (.iinc 3 (-1), 3) := by decide +kernel
theorem d_Mod_write_24 : decode prog_13_method_2_code 24 = .ok (.goto (-21), 3) := by decide +kernel
theorem d_Mod_write_27 : decode prog_13_method_2_code 27 = .ok (.aload_n 0, 1) := by decide +kernel
theorem d_Mod_write_28 : decode prog_13_method_2_code 28 = .ok (.getfield 63, 3) := by decide +kernel
theorem d_Mod_write_31 : decode prog_13_method_2_code 31 = .ok (.iconst 0, 1) := by decide +kernel
theorem d_Mod_write_32 : decode prog_13_method_2_code 32 = .ok (.sipush (10000), 3) := by decide +kernel
theorem d_Mod_write_35 : decode prog_13_method_2_code 35 = .ok (.aload_n 0, 1) := by decide +kernel
theorem d_Mod_write_36 : decode prog_13_method_2_code 36 = .ok (.getfield 75, 3) := by decide +kernel
theorem d_Mod_write_39 : decode prog_13_method_2_code 39 = .ok (.imul, 1) := by decide +kernel
theorem d_Mod_write_40 : decode prog_13_method_2_code 40 = .ok (.bipush (100), 2) := by decide +kernel
theorem d_Mod_write_42 : decode prog_13_method_2_code 42 = .ok (.iload_n 1, 1) := by decide +kernel
theorem d_Mod_write_43 : decode prog_13_method_2_code 43 = .ok (.imul, 1) := by decide +kernel
theorem d_Mod_write_44 : decode prog_13_method_2_code 44 = .ok (.iadd, 1) := by decide +kernel
theorem d_Mod_write_45 : decode prog_13_method_2_code 45 = .ok (.iload_n 2, 1) := by decide +kernel
theorem d_Mod_write_46 : decode prog_13_method_2_code 46 = .ok (.iadd, 1) := by decide +kernel
theorem d_Mod_write_47 : decode prog_13_method_2_code 47 = .ok (.iastore, 1) := by decide +kernel
theorem d_Mod_write_48 : decode prog_13_method_2_code 48 = .ok (.aload_n 0, 1) := by decide +kernel
theorem d_Mod_write_49 : decode prog_13_method_2_code 49 = .ok (.aload_n 0, 1) := by decide +kernel
theorem d_Mod_write_50 : decode prog_13_method_2_code 50 = .ok (.getfield 78, 3) := by decide +kernel
theorem d_Mod_write_53 : decode prog_13_method_2_code 53 = .ok (.bipush (16), 2) := by decide +kernel
theorem d_Mod_write_55 : decode prog_13_method_2_code 55 = .ok (.if_icmp .ge (12), 3) := by decide +kernel
theorem d_Mod_write_58 : decode prog_13_method_2_code 58 = .ok (.aload_n 0, 1) := by decide +kernel
theorem d_Mod_write_59 : decode prog_13_method_2_code 59 = .ok (.getfield 78, 3) := by decide +kernel
theorem d_Mod_write_62 : decode prog_13_method_2_code 62 = .ok (.iconst 1, 1) := by decide +kernel
theorem d_Mod_write_63 : decode prog_13_method_2_code 63 = .ok (.iadd, 1) := by decide +kernel
theorem d_Mod_write_64 : decode prog_13_method_2_code 64 = .ok (.goto (5), 3) := by decide +kernel
theorem d_Mod_write_67 : decode prog_13_method_2_code 67 = .ok (.bipush (16), 2) := by decide +kernel
theorem d_Mod_write_69 : decode prog_13_method_2_code 69 = .ok (.putfield 78, 3) := by decide +kernel
theorem d_Mod_write_72 : decode prog_13_method_2_code 72 = .ok (.return_, 1) := by decide +kernel
theorem d_Mod_become_0 : decode prog_13_method_3_code 0 = .ok (.iload_n 1, 1) := by decide +kernel
theorem d_Mod_become_1 : decode prog_13_method_3_code 1 = .ok (.aload_n 0, 1) := by decide +kernel
theorem d_Mod_become_2 : decode prog_13_method_3_code 2 = .ok (.getfield 81, 3) := by decide +kernel
theorem d_Mod_become_5 : decode prog_13_method_3_code 5 = .ok (.if_icmp .eq (14), 3) := by decide +kernel
theorem d_Mod_become_8 : decode prog_13_method_3_code 8 = .ok (.aload_n 0, 1) := by decide +kernel
theorem d_Mod_become_9 : decode prog_13_method_3_code 9 = .ok (.iload_n 1, 1) := by decide +kernel
theorem d_Mod_become_10 : decode prog_13_method_3_code 10 = .ok (.putfield 81, 3) := by decide +kernel
theorem d_Mod_become_13 : decode prog_13_method_3_code 13 = .ok (.aload_n 0, 1) := by decide +kernel
theorem d_Mod_become_14 : decode prog_13_method_3_code 14 = .ok (.iconst 1, 1) := by decide +kernel
theorem d_Mod_become_15 : decode prog_13_method_3_code 15 = .ok (.iload_n 1, 1) := by decide +kernel
theorem d_Mod_become_16 : decode prog_13_method_3_code 16 = .ok (.invokevirtual 84, 3) := by decide +kernel
theorem d_Mod_become_19 : decode prog_13_method_3_code 19 = .ok (.return_, 1) := by decide +kernel
theorem d_Mod_trips_0 : decode prog_13_method_4_code 0 = .ok (.aload_n 0, 1) := by decide +kernel
theorem d_Mod_trips_1 : decode prog_13_method_4_code 1 = .ok (.iconst 0, 1) := by decide +kernel
theorem d_Mod_trips_2 : decode prog_13_method_4_code 2 = .ok (.putfield 88, 3) := by decide +kernel
theorem d_Mod_trips_5 : decode prog_13_method_4_code 5 = .ok (.aload_n 0, 1) := by decide +kernel
theorem d_Mod_trips_6 : decode prog_13_method_4_code 6 = .ok (.iconst 0, 1) := by decide +kernel
theorem d_Mod_trips_7 : decode prog_13_method_4_code 7 = .ok (.putfield 92, 3) := by decide +kernel
theorem d_Mod_trips_10 : decode prog_13_method_4_code 10 = .ok (.aload_n 0, 1) := by decide +kernel
theorem d_Mod_trips_11 : decode prog_13_method_4_code 11 = .ok (.iconst 0, 1) := by decide +kernel
theorem d_Mod_trips_12 : decode prog_13_method_4_code 12 = .ok (.putfield 95, 3) := by decide +kernel
theorem d_Mod_trips_15 : decode prog_13_method_4_code 15 = .ok (.aload_n 0, 1) := by decide +kernel
theorem d_Mod_trips_16 : decode prog_13_method_4_code 16 = .ok (.iconst 0, 1) := by decide +kernel
theorem d_Mod_trips_17 : decode prog_13_method_4_code 17 = .ok (.putfield 98, 3) := by decide +kernel
theorem d_Mod_trips_20 : decode prog_13_method_4_code 20 = .ok (.aload_n 0, 1) := by decide +kernel
theorem d_Mod_trips_21 : decode prog_13_method_4_code 21 = .ok (.iconst 0, 1) := by decide +kernel
theorem d_Mod_trips_22 : decode prog_13_method_4_code 22 = .ok (.putfield 101, 3) := by decide +kernel
theorem d_Mod_trips_25 : decode prog_13_method_4_code 25 = .ok (.aload_n 0, 1) := by decide +kernel
theorem d_Mod_trips_26 : decode prog_13_method_4_code 26 = .ok (.iconst 4, 1) := by decide +kernel
theorem d_Mod_trips_27 : decode prog_13_method_4_code 27 = .ok (.invokevirtual 104, 3) := by decide +kernel
theorem d_Mod_trips_30 : decode prog_13_method_4_code 30 = .ok (.return_, 1) := by decide +kernel
theorem d_Mod_enters_0 : decode prog_13_method_5_code 0 = .ok (.aload_n 0, 1) := by decide +kernel
theorem d_Mod_enters_1 : decode prog_13_method_5_code 1 = .ok (.getfield 108, 3) := by decide +kernel
theorem d_Mod_enters_4 : decode prog_13_method_5_code 4 = .ok (.iconst 3, 1) := by decide +kernel
theorem d_Mod_enters_5 : decode prog_13_method_5_code 5 = .ok (.if_icmp .ne (21), 3) := by decide +kernel
theorem d_Mod_enters_8 : decode prog_13_method_5_code 8 = .ok (.aload_n 0, 1) := by decide +kernel
theorem d_Mod_enters_9 : decode prog_13_method_5_code 9 = .ok (.getfield 81, 3) := by decide +kernel
theorem d_Mod_enters_12 : decode prog_13_method_5_code 12 = .ok (.iconst 3, 1) := by decide +kernel
theorem d_Mod_enters_13 : decode prog_13_method_5_code 13 = .ok (.if_icmp .eq (13), 3) := by decide +kernel
theorem d_Mod_enters_16 : decode prog_13_method_5_code 16 = .ok (.aload_n 0, 1) := by decide +kernel
theorem d_Mod_enters_17 : decode prog_13_method_5_code 17 = .ok (.iconst 1, 1) := by decide +kernel
theorem d_Mod_enters_18 : decode prog_13_method_5_code 18 = .ok (.putfield 101, 3) := by decide +kernel
theorem d_Mod_enters_21 : decode prog_13_method_5_code 21 = .ok (.aload_n 0, 1) := by decide +kernel
theorem d_Mod_enters_22 : decode prog_13_method_5_code 22 = .ok (.iconst 0, 1) := by decide +kernel
theorem d_Mod_enters_23 : decode prog_13_method_5_code 23 = .ok (.putfield 111, 3) := by decide +kernel
theorem d_Mod_enters_26 : decode prog_13_method_5_code 26 = .ok (.aload_n 0, 1) := by decide +kernel
theorem d_Mod_enters_27 : decode prog_13_method_5_code 27 = .ok (.getfield 108, 3) := by decide +kernel
theorem d_Mod_enters_30 : decode prog_13_method_5_code 30 = .ok (.iconst 2, 1) := by decide +kernel
theorem d_Mod_enters_31 : decode prog_13_method_5_code 31 = .ok (.if_icmp .ne (8), 3) := by decide +kernel
theorem d_Mod_enters_34 : decode prog_13_method_5_code 34 = .ok (.aload_n 0, 1) := by decide +kernel
theorem d_Mod_enters_35 : decode prog_13_method_5_code 35 = .ok (.iconst 0, 1) := by decide +kernel
theorem d_Mod_enters_36 : decode prog_13_method_5_code 36 = .ok (.putfield 101, 3) := by decide +kernel
theorem d_Mod_enters_39 : decode prog_13_method_5_code 39 = .ok (.aload_n 0, 1) := by decide +kernel
theorem d_Mod_enters_40 : decode prog_13_method_5_code 40 = .ok (.aload_n 0, 1) := by decide +kernel
theorem d_Mod_enters_41 : decode prog_13_method_5_code 41 = .ok (.getfield 108, 3) := by decide +kernel
theorem d_Mod_enters_44 : decode prog_13_method_5_code 44 = .ok (.invokevirtual 104, 3) := by decide +kernel
theorem d_Mod_enters_47 : decode prog_13_method_5_code 47 = .ok (.return_, 1) := by decide +kernel
theorem d_Mod_watched_0 : decode prog_13_method_6_code 0 = .ok (.aload_n 0, 1) := by decide +kernel
theorem d_Mod_watched_1 : decode prog_13_method_6_code 1 = .ok (.getfield 81, 3) := by decide +kernel
theorem d_Mod_watched_4 : decode prog_13_method_6_code 4 = .ok (.iconst 2, 1) := by decide +kernel
theorem d_Mod_watched_5 : decode prog_13_method_6_code 5 = .ok (.if_icmp .eq (11), 3) := by decide +kernel
theorem d_Mod_watched_8 : decode prog_13_method_6_code 8 = .ok (.aload_n 0, 1) := by decide +kernel
theorem d_Mod_watched_9 : decode prog_13_method_6_code 9 = .ok (.getfield 81, 3) := by decide +kernel
theorem d_Mod_watched_12 : decode prog_13_method_6_code 12 = .ok (.iconst 3, 1) := by decide +kernel
theorem d_Mod_watched_13 : decode prog_13_method_6_code 13 = .ok (.if_icmp .ne (7), 3) := by decide +kernel
theorem d_Mod_watched_16 : decode prog_13_method_6_code 16 = .ok (.iconst 1, 1) := by decide +kernel
theorem d_Mod_watched_17 : decode prog_13_method_6_code 17 = .ok (.goto (4), 3) := by decide +kernel
theorem d_Mod_watched_20 : decode prog_13_method_6_code 20 = .ok (.iconst 0, 1) := by decide +kernel
theorem d_Mod_watched_21 : decode prog_13_method_6_code 21 = .ok (.ireturn, 1) := by decide +kernel
theorem d_Mod_bits_0 : decode prog_13_method_7_code 0 = .ok (.iload_n 2, 1) := by decide +kernel
theorem d_Mod_bits_1 : decode prog_13_method_7_code 1 = .ok (.iconst 1, 1) := by decide +kernel
theorem d_Mod_bits_2 : decode prog_13_method_7_code 2 = .ok (.if_icmp .lt (21), 3) := by decide +kernel
theorem d_Mod_bits_5 : decode prog_13_method_7_code 5 = .ok (.iload_n 2, 1) := by decide +kernel
theorem d_Mod_bits_6 : decode prog_13_method_7_code 6 = .ok (.bipush (30), 2) := by decide +kernel
theorem d_Mod_bits_8 : decode prog_13_method_7_code 8 = .ok (.if_icmp .gt (15), 3) := by decide +kernel
theorem d_Mod_bits_11 : decode prog_13_method_7_code 11 = .ok (.aload_n 0, 1) := by decide +kernel
theorem d_Mod_bits_12 : decode prog_13_method_7_code 12 = .ok (.getfield 114, 3) := by decide +kernel
theorem d_Mod_bits_15 : decode prog_13_method_7_code 15 = .ok (.iload_n 2, 1) := by decide +kernel
theorem d_Mod_bits_16 : decode prog_13_method_7_code 16 = .ok (.iadd, 1) := by decide +kernel
theorem d_Mod_bits_17 : decode prog_13_method_7_code 17 = .ok (.sipush (600), 3) := by decide +kernel
theorem d_Mod_bits_20 : decode prog_13_method_7_code 20 = .ok (.if_icmp .le (5), 3) := by decide +kernel
theorem d_Mod_bits_23 : decode prog_13_method_7_code 23 = .ok (.iconst 0, 1) := by decide +kernel
theorem d_Mod_bits_24 : decode prog_13_method_7_code 24 = .ok (.ireturn, 1) := by decide +kernel
theorem d_Mod_bits_25 : decode prog_13_method_7_code 25 = .ok (.iload_n 2, 1) := by decide +kernel
theorem d_Mod_bits_26 : decode prog_13_method_7_code 26 = .ok (.iconst 1, 1) := by decide +kernel
theorem d_Mod_bits_27 : decode prog_13_method_7_code 27 = .ok (.isub, 1) := by decide +kernel
theorem d_Mod_bits_28 : decode prog_13_method_7_code 28 = .ok (.istore_n 3, 1) := by decide +kernel
theorem d_Mod_bits_29 : decode prog_13_method_7_code 29 = .ok (.iload_n 3, 1) := by decide +kernel
theorem d_Mod_bits_30 : decode prog_13_method_7_code 30 = .ok (.ifCond .lt (33), 3) := by decide +kernel
theorem d_Mod_bits_33 : decode prog_13_method_7_code 33 = .ok (.aload_n 0, 1) := by decide +kernel
theorem d_Mod_bits_34 : decode prog_13_method_7_code 34 = .ok (.getfield 51, 3) := by decide +kernel
theorem d_Mod_bits_37 : decode prog_13_method_7_code 37 = .ok (.aload_n 0, 1) := by decide +kernel
theorem d_Mod_bits_38 : decode prog_13_method_7_code 38 = .ok (.getfield 114, 3) := by decide +kernel
theorem d_Mod_bits_41 : decode prog_13_method_7_code 41 = .ok (.iload_n 1, 1) := by decide +kernel
theorem d_Mod_bits_42 : decode prog_13_method_7_code 42 = .ok (.iload_n 3, 1) := by decide +kernel
theorem d_Mod_bits_43 : decode prog_13_method_7_code 43 = .ok (.ishr, 1) := by decide +kernel
theorem d_Mod_bits_44 : decode prog_13_method_7_code 44 = .ok (.iconst 1, 1) := by decide +kernel
theorem d_Mod_bits_45 : decode prog_13_method_7_code 45 = .ok (.iand, 1) := by decide +kernel
theorem d_Mod_bits_46 : decode prog_13_method_7_code 46 = .ok (.iastore, 1) := by decide +kernel
theorem d_Mod_bits_47 : decode prog_13_method_7_code 47 = .ok (.aload_n 0, 1) := by decide +kernel
theorem d_Mod_bits_48 : decode prog_13_method_7_code 48 = .ok (.dup, 1) := by decide +kernel
theorem d_Mod_bits_49 : decode prog_13_method_7_code 49 = .ok (.getfield 114, 3) := by decide +kernel
theorem d_Mod_bits_52 : decode prog_13_method_7_code 52 = .ok (.iconst 1, 1) := by decide +kernel
theorem d_Mod_bits_53 : decode prog_13_method_7_code 53 = .ok (.iadd, 1) := by decide +kernel
theorem d_Mod_bits_54 : decode prog_13_method_7_code 54 = .ok (.putfield 114, 3) := by decide +kernel
theorem d_Mod_bits_57 : decode prog_13_method_7_code 57 = .ok (.iinc 3 (-1), 3) := by decide +kernel
theorem d_Mod_bits_60 : decode prog_13_method_7_code 60 = .ok (.goto (-31), 3) := by decide +kernel
theorem d_Mod_bits_63 : decode prog_13_method_7_code 63 = .ok (.iconst 1, 1) := by decide +kernel
theorem d_Mod_bits_64 : decode prog_13_method_7_code 64 = .ok (.ireturn, 1) := by decide +kernel
theorem d_Mod_read_0 : decode prog_13_method_8_code 0 = .ok (.aload_n 0, 1) := by decide +kernel
theorem d_Mod_read_1 : decode prog_13_method_8_code 1 = .ok (.getfield 117, 3) := by decide +kernel
theorem d_Mod_read_4 : decode prog_13_method_8_code 4 = .ok (.ifCond .ne (21), 3) := by decide +kernel
theorem d_Mod_read_7 : decode prog_13_method_8_code 7 = .ok (.aload_n 0, 1) := by decide +kernel
theorem d_Mod_read_8 : decode prog_13_method_8_code 8 = .ok (.getfield 120, 3) := by decide +kernel
theorem d_Mod_read_11 : decode prog_13_method_8_code 11 = .ok (.iload_n 1, 1) := by decide +kernel
theorem d_Mod_read_12 : decode prog_13_method_8_code 12 = .ok (.iadd, 1) := by decide +kernel
theorem d_Mod_read_13 : decode prog_13_method_8_code 13 = .ok (.aload_n 0, 1) := by decide +kernel
theorem d_Mod_read_14 : decode prog_13_method_8_code 14 = .ok (.getfield 114, 3) := by decide +kernel
theorem d_Mod_read_17 : decode prog_13_method_8_code 17 = .ok (.if_icmp .le (8), 3) := by decide +kernel
theorem d_Mod_read_20 : decode prog_13_method_8_code 20 = .ok (.aload_n 0, 1) := by decide +kernel
theorem d_Mod_read_21 : decode prog_13_method_8_code 21 = .ok (.iconst 2, 1) := by decide +kernel
theorem d_Mod_read_22 : decode prog_13_method_8_code 22 = .ok (.putfield 117, 3) := by decide +kernel
theorem d_Mod_read_25 : decode prog_13_method_8_code 25 = .ok (.aload_n 0, 1) := by decide +kernel
theorem d_Mod_read_26 : decode prog_13_method_8_code 26 = .ok (.getfield 117, 3) := by decide +kernel
theorem d_Mod_read_29 : decode prog_13_method_8_code 29 = .ok (.ifCond .eq (5), 3) := by decide +kernel
theorem d_Mod_read_32 : decode prog_13_method_8_code 32 = .ok (.iconst 0, 1) := by decide +kernel
theorem d_Mod_read_33 : decode prog_13_method_8_code 33 = .ok (.ireturn, 1) := by decide +kernel
theorem d_Mod_read_34 : decode prog_13_method_8_code 34 = .ok (.iconst 0, 1) := by decide +kernel
theorem d_Mod_read_35 : decode prog_13_method_8_code 35 = .ok (.istore_n 2, 1) := by decide +kernel
theorem d_Mod_read_36 : decode prog_13_method_8_code 36 = .ok (.iconst 0, 1) := by decide +kernel
theorem d_Mod_read_37 : decode prog_13_method_8_code 37 = .ok (.istore_n 3, 1) := by decide +kernel
theorem d_Mod_read_38 : decode prog_13_method_8_code 38 = .ok (.iload_n 3, 1) := by decide +kernel
theorem d_Mod_read_39 : decode prog_13_method_8_code 39 = .ok (.iload_n 1, 1) := by decide +kernel
theorem d_Mod_read_40 : decode prog_13_method_8_code 40 = .ok (.if_icmp .ge (33), 3) := by decide +kernel
theorem d_Mod_read_43 : decode prog_13_method_8_code 43 = .ok (.iconst 2, 1) := by decide +kernel
theorem d_Mod_read_44 : decode prog_13_method_8_code 44 = .ok (.iload_n 2, 1) := by decide +kernel
theorem d_Mod_read_45 : decode prog_13_method_8_code 45 = .ok (.imul, 1) := by decide +kernel
theorem d_Mod_read_46 : decode prog_13_method_8_code 46 = .ok (.aload_n 0, 1) := by decide +kernel
theorem d_Mod_read_47 : decode prog_13_method_8_code 47 = .ok (.getfield 51, 3) := by decide +kernel
theorem d_Mod_read_50 : decode prog_13_method_8_code 50 = .ok (.aload_n 0, 1) := by decide +kernel
theorem d_Mod_read_51 : decode prog_13_method_8_code 51 = .ok (.getfield 120, 3) := by decide +kernel
theorem d_Mod_read_54 : decode prog_13_method_8_code 54 = .ok (.iaload, 1) := by decide +kernel
theorem d_Mod_read_55 : decode prog_13_method_8_code 55 = .ok (.iadd, 1) := by decide +kernel
theorem d_Mod_read_56 : decode prog_13_method_8_code 56 = .ok (.istore_n 2, 1) := by decide +kernel
theorem d_Mod_read_57 : decode prog_13_method_8_code 57 = .ok (.aload_n 0, 1) := by decide +kernel
theorem d_Mod_read_58 : decode prog_13_method_8_code 58 = .ok (.dup, 1) := by decide +kernel
theorem d_Mod_read_59 : decode prog_13_method_8_code 59 = .ok (.getfield 120, 3) := by decide +kernel
theorem d_Mod_read_62 : decode prog_13_method_8_code 62 = .ok (.iconst 1, 1) := by decide +kernel
theorem d_Mod_read_63 : decode prog_13_method_8_code 63 = .ok (.iadd, 1) := by decide +kernel
theorem d_Mod_read_64 : decode prog_13_method_8_code 64 = .ok (.putfield 120, 3) := by decide +kernel
theorem d_Mod_read_67 : decode prog_13_method_8_code 67 = .ok (.iinc 3 (1), 3) := by decide +kernel
theorem d_Mod_read_70 : decode prog_13_method_8_code 70 = .ok (.goto (-32), 3) := by decide +kernel
theorem d_Mod_read_73 : decode prog_13_method_8_code 73 = .ok (.iload_n 2, 1) := by decide +kernel
theorem d_Mod_read_74 : decode prog_13_method_8_code 74 = .ok (.ireturn, 1) := by decide +kernel
theorem d_Mod_check_0 : decode prog_13_method_9_code 0 = .ok (.aload_n 0, 1) := by decide +kernel
theorem d_Mod_check_1 : decode prog_13_method_9_code 1 = .ok (.getfield 117, 3) := by decide +kernel
theorem d_Mod_check_4 : decode prog_13_method_9_code 4 = .ok (.ifCond .ne (12), 3) := by decide +kernel
theorem d_Mod_check_7 : decode prog_13_method_9_code 7 = .ok (.iload_n 1, 1) := by decide +kernel
theorem d_Mod_check_8 : decode prog_13_method_9_code 8 = .ok (.ifCond .ne (8), 3) := by decide +kernel
theorem d_Mod_check_11 : decode prog_13_method_9_code 11 = .ok (.aload_n 0, 1) := by decide +kernel
theorem d_Mod_check_12 : decode prog_13_method_9_code 12 = .ok (.iload_n 2, 1) := by decide +kernel
theorem d_Mod_check_13 : decode prog_13_method_9_code 13 = .ok (.putfield 117, 3) := by decide +kernel
theorem d_Mod_check_16 : decode prog_13_method_9_code 16 = .ok (.return_, 1) := by decide +kernel
theorem d_Mod_slotOf_0 : decode prog_13_method_10_code 0 = .ok (.iload_n 0, 1) := by decide +kernel
theorem d_Mod_slotOf_1 : decode prog_13_method_10_code 1 = .ok (.iconst 5, 1) := by decide +kernel
theorem d_Mod_slotOf_2 : decode prog_13_method_10_code 2 = .ok (.if_icmp .ne (7), 3) := by decide +kernel
theorem d_Mod_slotOf_5 : decode prog_13_method_10_code 5 = .ok (.iconst 0, 1) := by decide +kernel
theorem d_Mod_slotOf_6 : decode prog_13_method_10_code 6 = .ok (.goto (54), 3) := by decide +kernel
theorem d_Mod_slotOf_9 : decode prog_13_method_10_code 9 = .ok (.iload_n 0, 1) := by decide +kernel
theorem d_Mod_slotOf_10 : decode prog_13_method_10_code 10 = .ok (.bipush (15), 2) := by decide +kernel
theorem d_Mod_slotOf_12 : decode prog_13_method_10_code 12 = .ok (.if_icmp .ne (7), 3) := by decide +kernel
theorem d_Mod_slotOf_15 : decode prog_13_method_10_code 15 = .ok (.iconst 1, 1) := by decide +kernel
theorem d_Mod_slotOf_16 : decode prog_13_method_10_code 16 = .ok (.goto (44), 3) := by decide +kernel
theorem d_Mod_slotOf_19 : decode prog_13_method_10_code 19 = .ok (.iload_n 0, 1) := by decide +kernel
theorem d_Mod_slotOf_20 : decode prog_13_method_10_code 20 = .ok (.bipush (21), 2) := by decide +kernel
theorem d_Mod_slotOf_22 : decode prog_13_method_10_code 22 = .ok (.if_icmp .ne (7), 3) := by decide +kernel
theorem d_Mod_slotOf_25 : decode prog_13_method_10_code 25 = .ok (.iconst 2, 1) := by decide +kernel
theorem d_Mod_slotOf_26 : decode prog_13_method_10_code 26 = .ok (.goto (34), 3) := by decide +kernel
theorem d_Mod_slotOf_29 : decode prog_13_method_10_code 29 = .ok (.iload_n 0, 1) := by decide +kernel
theorem d_Mod_slotOf_30 : decode prog_13_method_10_code 30 = .ok (.bipush (27), 2) := by decide +kernel
theorem d_Mod_slotOf_32 : decode prog_13_method_10_code 32 = .ok (.if_icmp .ne (7), 3) := by decide +kernel
theorem d_Mod_slotOf_35 : decode prog_13_method_10_code 35 = .ok (.iconst 3, 1) := by decide +kernel
theorem d_Mod_slotOf_36 : decode prog_13_method_10_code 36 = .ok (.goto (24), 3) := by decide +kernel
theorem d_Mod_slotOf_39 : decode prog_13_method_10_code 39 = .ok (.iload_n 0, 1) := by decide +kernel
theorem d_Mod_slotOf_40 : decode prog_13_method_10_code 40 = .ok (.bipush (65), 2) := by decide +kernel
theorem d_Mod_slotOf_42 : decode prog_13_method_10_code 42 = .ok (.if_icmp .ne (7), 3) := by decide +kernel
theorem d_Mod_slotOf_45 : decode prog_13_method_10_code 45 = .ok (.iconst 4, 1) := by decide +kernel
theorem d_Mod_slotOf_46 : decode prog_13_method_10_code 46 = .ok (.goto (14), 3) := by decide +kernel
theorem d_Mod_slotOf_49 : decode prog_13_method_10_code 49 = .ok (.iload_n 0, 1) := by decide +kernel
theorem d_Mod_slotOf_50 : decode prog_13_method_10_code 50 = .ok (.bipush (66), 2) := by decide +kernel
theorem d_Mod_slotOf_52 : decode prog_13_method_10_code 52 = .ok (.if_icmp .ne (7), 3) := by decide +kernel
theorem d_Mod_slotOf_55 : decode prog_13_method_10_code 55 = .ok (.iconst 5, 1) := by decide +kernel
theorem d_Mod_slotOf_56 : decode prog_13_method_10_code 56 = .ok (.goto (4), 3) := by decide +kernel
theorem d_Mod_slotOf_59 : decode prog_13_method_10_code 59 = .ok (.iconst (-1), 1) := by decide +kernel
theorem d_Mod_slotOf_60 : decode prog_13_method_10_code 60 = .ok (.ireturn, 1) := by decide +kernel
theorem d_Mod_told_0 : decode prog_13_method_11_code 0 = .ok (.aload_n 0, 1) := by decide +kernel
theorem d_Mod_told_1 : decode prog_13_method_11_code 1 = .ok (.getfield 60, 3) := by decide +kernel
theorem d_Mod_told_4 : decode prog_13_method_11_code 4 = .ok (.bipush (21), 2) := by decide +kernel
theorem d_Mod_told_6 : decode prog_13_method_11_code 6 = .ok (.iload_n 1, 1) := by decide +kernel
theorem d_Mod_told_7 : decode prog_13_method_11_code 7 = .ok (.imul, 1) := by decide +kernel
theorem d_Mod_told_8 : decode prog_13_method_11_code 8 = .ok (.iconst 3, 1) := by decide +kernel
theorem d_Mod_told_9 : decode prog_13_method_11_code 9 = .ok (.iload_n 2, 1) := by decide +kernel
theorem d_Mod_told_10 : decode prog_13_method_11_code 10 = .ok (.imul, 1) := by decide +kernel
theorem d_Mod_told_11 : decode prog_13_method_11_code 11 = .ok (.iadd, 1) := by decide +kernel
theorem d_Mod_told_12 : decode prog_13_method_11_code 12 = .ok (.iload_n 3, 1) := by decide +kernel
theorem d_Mod_told_13 : decode prog_13_method_11_code 13 = .ok (.iadd, 1) := by decide +kernel
theorem d_Mod_told_14 : decode prog_13_method_11_code 14 = .ok (.iaload, 1) := by decide +kernel
theorem d_Mod_told_15 : decode prog_13_method_11_code 15 = .ok (.ireturn, 1) := by decide +kernel
theorem d_Mod_tell_0 : decode prog_13_method_12_code 0 = .ok (.aload_n 0, 1) := by decide +kernel
theorem d_Mod_tell_1 : decode prog_13_method_12_code 1 = .ok (.getfield 60, 3) := by decide +kernel
theorem d_Mod_tell_4 : decode prog_13_method_12_code 4 = .ok (.bipush (21), 2) := by decide +kernel
theorem d_Mod_tell_6 : decode prog_13_method_12_code 6 = .ok (.iload_n 1, 1) := by decide +kernel
theorem d_Mod_tell_7 : decode prog_13_method_12_code 7 = .ok (.imul, 1) := by decide +kernel
theorem d_Mod_tell_8 : decode prog_13_method_12_code 8 = .ok (.iconst 3, 1) := by decide +kernel
theorem d_Mod_tell_9 : decode prog_13_method_12_code 9 = .ok (.iload_n 2, 1) := by decide +kernel
theorem d_Mod_tell_10 : decode prog_13_method_12_code 10 = .ok (.imul, 1) := by decide +kernel
theorem d_Mod_tell_11 : decode prog_13_method_12_code 11 = .ok (.iadd, 1) := by decide +kernel
theorem d_Mod_tell_12 : decode prog_13_method_12_code 12 = .ok (.iload_n 3, 1) := by decide +kernel
theorem d_Mod_tell_13 : decode prog_13_method_12_code 13 = .ok (.iadd, 1) := by decide +kernel
theorem d_Mod_tell_14 : decode prog_13_method_12_code 14 = .ok (.iload 4, 2) := by decide +kernel
theorem d_Mod_tell_16 : decode prog_13_method_12_code 16 = .ok (.iastore, 1) := by decide +kernel
theorem d_Mod_tell_17 : decode prog_13_method_12_code 17 = .ok (.return_, 1) := by decide +kernel
theorem d_Mod_limitOf_0 : decode prog_13_method_13_code 0 = .ok (.iconst 5, 1) := by decide +kernel
theorem d_Mod_limitOf_1 : decode prog_13_method_13_code 1 = .ok (.iload_n 0, 1) := by decide +kernel
theorem d_Mod_limitOf_2 : decode prog_13_method_13_code 2 = .ok (.imul, 1) := by decide +kernel
theorem d_Mod_limitOf_3 : decode prog_13_method_13_code 3 = .ok (.sipush (600), 3) := by decide +kernel
theorem d_Mod_limitOf_6 : decode prog_13_method_13_code 6 = .ok (.if_icmp .le (9), 3) := by decide +kernel
theorem d_Mod_limitOf_9 : decode prog_13_method_13_code 9 = .ok (.sipush (600), 3) := by decide +kernel
theorem d_Mod_limitOf_12 : decode prog_13_method_13_code 12 = .ok (.goto (6), 3) := by decide +kernel
theorem d_Mod_limitOf_15 : decode prog_13_method_13_code 15 = .ok (.iconst 5, 1) := by decide +kernel
theorem d_Mod_limitOf_16 : decode prog_13_method_13_code 16 = .ok (.iload_n 0, 1) := by decide +kernel
theorem d_Mod_limitOf_17 : decode prog_13_method_13_code 17 = .ok (.imul, 1) := by decide +kernel
theorem d_Mod_limitOf_18 : decode prog_13_method_13_code 18 = .ok (.ireturn, 1) := by decide +kernel
theorem d_Mod_packets_0 : decode prog_13_method_14_code 0 = .ok (.aload_n 0, 1) := by decide +kernel
theorem d_Mod_packets_1 : decode prog_13_method_14_code 1 = .ok (.getfield 117, 3) := by decide +kernel
theorem d_Mod_packets_4 : decode prog_13_method_14_code 4 = .ok (.ifCond .ne (142), 3) := by decide +kernel
theorem d_Mod_packets_7 : decode prog_13_method_14_code 7 = .ok (.aload_n 0, 1) := by decide +kernel
theorem d_Mod_packets_8 : decode prog_13_method_14_code 8 = .ok (.getfield 120, 3) := by decide +kernel
theorem d_Mod_packets_11 : decode prog_13_method_14_code 11 = .ok (.aload_n 0, 1) := by decide +kernel
theorem d_Mod_packets_12 : decode prog_13_method_14_code 12 = .ok (.getfield 114, 3) := by decide +kernel
theorem d_Mod_packets_15 : decode prog_13_method_14_code 15 = .ok (.if_icmp .ge (131), 3) := by decide +kernel
theorem d_Mod_packets_18 : decode prog_13_method_14_code 18 = .ok (.aload_n 0, 1) := by decide +kernel
theorem d_Mod_packets_19 : decode prog_13_method_14_code 19 = .ok (.getfield 120, 3) := by decide +kernel
theorem d_Mod_packets_22 : decode prog_13_method_14_code 22 = .ok (.istore_n 1, 1) := by decide +kernel
theorem d_Mod_packets_23 : decode prog_13_method_14_code 23 = .ok (.aload_n 0, 1) := by decide +kernel
theorem d_Mod_packets_24 : decode prog_13_method_14_code 24 = .ok (.bipush (8), 2) := by decide +kernel
theorem d_Mod_packets_26 : decode prog_13_method_14_code 26 = .ok (.invokevirtual 123, 3) := by decide +kernel
theorem d_Mod_packets_29 : decode prog_13_method_14_code 29 = .ok (.invokestatic 127, 3) := by decide +kernel
theorem d_Mod_packets_32 : decode prog_13_method_14_code 32 = .ok (.istore_n 2, 1) := by decide +kernel
theorem d_Mod_packets_33 : decode prog_13_method_14_code 33 = .ok (.aload_n 0, 1) := by decide +kernel
theorem d_Mod_packets_34 : decode prog_13_method_14_code 34 = .ok (.iload_n 2, 1) := by decide +kernel
theorem d_Mod_packets_35 : decode prog_13_method_14_code 35 = .ok (.ifCond .lt (7), 3) := by decide +kernel
theorem d_Mod_packets_38 : decode prog_13_method_14_code 38 = .ok (.iconst 1, 1) := by decide +kernel
theorem d_Mod_packets_39 : decode prog_13_method_14_code 39 = .ok (.goto (4), 3) := by decide +kernel
theorem d_Mod_packets_42 : decode prog_13_method_14_code 42 = .ok (.iconst 0, 1) := by decide +kernel
theorem d_Mod_packets_43 : decode prog_13_method_14_code 43 = .ok (.iconst 4, 1) := by decide +kernel
theorem d_Mod_packets_44 : decode prog_13_method_14_code 44 = .ok (.invokevirtual 130, 3) := by decide +kernel
theorem d_Mod_packets_47 : decode prog_13_method_14_code 47 = .ok (.aload_n 0, 1) := by decide +kernel
theorem d_Mod_packets_48 : decode prog_13_method_14_code 48 = .ok (.iload_n 2, 1) := by decide +kernel
theorem d_Mod_packets_49 : decode prog_13_method_14_code 49 = .ok (.ifCond .lt (12), 3) := by decide +kernel
theorem d_Mod_packets_52 : decode prog_13_method_14_code 52 = .ok (.aload_n 0, 1) := by decide +kernel
theorem d_Mod_packets_53 : decode prog_13_method_14_code 53 = .ok (.getfield 54, 3) := by decide +kernel
theorem d_Mod_packets_56 : decode prog_13_method_14_code 56 = .ok (.iload_n 2, 1) := by decide +kernel
theorem d_Mod_packets_57 : decode prog_13_method_14_code 57 = .ok (.baload, 1) := by decide +kernel
theorem d_Mod_packets_58 : decode prog_13_method_14_code 58 = .ok (.ifCond .ne (7), 3) := by decide +kernel
theorem d_Mod_packets_61 : decode prog_13_method_14_code 61 = .ok (.iconst 1, 1) := by decide +kernel
theorem d_Mod_packets_62 : decode prog_13_method_14_code 62 = .ok (.goto (4), 3) := by decide +kernel
theorem d_Mod_packets_65 : decode prog_13_method_14_code 65 = .ok (.iconst 0, 1) := by decide +kernel
theorem d_Mod_packets_66 : decode prog_13_method_14_code 66 = .ok (.bipush (7), 2) := by decide +kernel
theorem d_Mod_packets_68 : decode prog_13_method_14_code 68 = .ok (.invokevirtual 130, 3) := by decide +kernel
theorem d_Mod_packets_71 : decode prog_13_method_14_code 71 = .ok (.aload_n 0, 1) := by decide +kernel
theorem d_Mod_packets_72 : decode prog_13_method_14_code 72 = .ok (.bipush (13), 2) := by decide +kernel
theorem d_Mod_packets_74 : decode prog_13_method_14_code 74 = .ok (.invokevirtual 123, 3) := by decide +kernel
theorem d_Mod_packets_77 : decode prog_13_method_14_code 77 = .ok (.istore_n 3, 1) := by decide +kernel
theorem d_Mod_packets_78 : decode prog_13_method_14_code 78 = .ok (.aload_n 0, 1) := by decide +kernel
theorem d_Mod_packets_79 : decode prog_13_method_14_code 79 = .ok (.iload_n 3, 1) := by decide +kernel
theorem d_Mod_packets_80 : decode prog_13_method_14_code 80 = .ok (.bipush (21), 2) := by decide +kernel
theorem d_Mod_packets_82 : decode prog_13_method_14_code 82 = .ok (.if_icmp .lt (17), 3) := by decide +kernel
theorem d_Mod_packets_85 : decode prog_13_method_14_code 85 = .ok (.iload_n 1, 1) := by decide +kernel
theorem d_Mod_packets_86 : decode prog_13_method_14_code 86 = .ok (.iload_n 3, 1) := by decide +kernel
theorem d_Mod_packets_87 : decode prog_13_method_14_code 87 = .ok (.iadd, 1) := by decide +kernel
theorem d_Mod_packets_88 : decode prog_13_method_14_code 88 = .ok (.aload_n 0, 1) := by decide +kernel
theorem d_Mod_packets_89 : decode prog_13_method_14_code 89 = .ok (.getfield 114, 3) := by decide +kernel
theorem d_Mod_packets_92 : decode prog_13_method_14_code 92 = .ok (.if_icmp .gt (7), 3) := by decide +kernel
theorem d_Mod_packets_95 : decode prog_13_method_14_code 95 = .ok (.iconst 1, 1) := by decide +kernel
theorem d_Mod_packets_96 : decode prog_13_method_14_code 96 = .ok (.goto (4), 3) := by decide +kernel
theorem d_Mod_packets_99 : decode prog_13_method_14_code 99 = .ok (.iconst 0, 1) := by decide +kernel
theorem d_Mod_packets_100 : decode prog_13_method_14_code 100 = .ok (.iconst 2, 1) := by decide +kernel
theorem d_Mod_packets_101 : decode prog_13_method_14_code 101 = .ok (.invokevirtual 130, 3) := by decide +kernel
theorem d_Mod_packets_104 : decode prog_13_method_14_code 104 = .ok (.aload_n 0, 1) := by decide +kernel
theorem d_Mod_packets_105 : decode prog_13_method_14_code 105 = .ok (.getfield 117, 3) := by decide +kernel
theorem d_Mod_packets_108 : decode prog_13_method_14_code 108 = .ok (.ifCond .ne (15), 3) := by decide +kernel
theorem d_Mod_packets_111 : decode prog_13_method_14_code 111 = .ok (.aload_n 0, 1) := by decide +kernel
theorem d_Mod_packets_112 : decode prog_13_method_14_code 112 = .ok (.getfield 54, 3) := by decide +kernel
theorem d_Mod_packets_115 : decode prog_13_method_14_code 115 = .ok (.iload_n 2, 1) := by decide +kernel
theorem d_Mod_packets_116 : decode prog_13_method_14_code 116 = .ok (.iconst 1, 1) := by decide +kernel
theorem d_Mod_packets_117 : decode prog_13_method_14_code 117 = .ok (.bastore, 1) := by decide +kernel
theorem d_Mod_packets_118 : decode prog_13_method_14_code 118 = .ok (.aload_n 0, 1) := by decide +kernel
theorem d_Mod_packets_119 : decode prog_13_method_14_code 119 = .ok (.iload_n 2, 1) := by decide +kernel
theorem d_Mod_packets_120 : decode prog_13_method_14_code 120 = .ok (.invokevirtual 134, 3) := by decide +kernel
theorem d_Mod_packets_123 : decode prog_13_method_14_code 123 = .ok (.aload_n 0, 1) := by decide +kernel
theorem d_Mod_packets_124 : decode prog_13_method_14_code 124 = .ok (.aload_n 0, 1) := by decide +kernel
theorem d_Mod_packets_125 : decode prog_13_method_14_code 125 = .ok (.getfield 120, 3) := by decide +kernel
theorem d_Mod_packets_128 : decode prog_13_method_14_code 128 = .ok (.iload_n 1, 1) := by decide +kernel
theorem d_Mod_packets_129 : decode prog_13_method_14_code 129 = .ok (.iload_n 3, 1) := by decide +kernel
theorem d_Mod_packets_130 : decode prog_13_method_14_code 130 = .ok (.iadd, 1) := by decide +kernel
theorem d_Mod_packets_131 : decode prog_13_method_14_code 131 = .ok (.if_icmp .ne (7), 3) := by decide +kernel
theorem d_Mod_packets_134 : decode prog_13_method_14_code 134 = .ok (.iconst 1, 1) := by decide +kernel
theorem d_Mod_packets_135 : decode prog_13_method_14_code 135 = .ok (.goto (4), 3) := by decide +kernel
theorem d_Mod_packets_138 : decode prog_13_method_14_code 138 = .ok (.iconst 0, 1) := by decide +kernel
theorem d_Mod_packets_139 : decode prog_13_method_14_code 139 = .ok (.iconst 5, 1) := by decide +kernel
theorem d_Mod_packets_140 : decode prog_13_method_14_code 140 = .ok (.invokevirtual 130, 3) := by decide +kernel
theorem d_Mod_packets_143 : decode prog_13_method_14_code 143 = .ok (.goto (-143), 3) := by decide +kernel
theorem d_Mod_packets_146 : decode prog_13_method_14_code 146 = .ok (.return_, 1) := by decide +kernel
theorem d_Mod_numbers_0 : decode prog_13_method_15_code 0 = .ok (.aload_n 0, 1) := by decide +kernel
theorem d_Mod_numbers_1 : decode prog_13_method_15_code 1 = .ok (.getfield 57, 3) := by decide +kernel
theorem d_Mod_numbers_4 : decode prog_13_method_15_code 4 = .ok (.iload_n 1, 1) := by decide +kernel
theorem d_Mod_numbers_5 : decode prog_13_method_15_code 5 = .ok (.iconst 1, 1) := by decide +kernel
theorem d_Mod_numbers_6 : decode prog_13_method_15_code 6 = .ok (.iastore, 1) := by decide +kernel
theorem d_Mod_numbers_7 : decode prog_13_method_15_code 7 = .ok (.iload_n 1, 1) := by decide +kernel
theorem d_Mod_numbers_8 : decode prog_13_method_15_code 8 = .ok (.ifCond .eq (13), 3) := by decide +kernel
theorem d_Mod_numbers_11 : decode prog_13_method_15_code 11 = .ok (.iload_n 1, 1) := by decide +kernel
theorem d_Mod_numbers_12 : decode prog_13_method_15_code 12 = .ok (.iconst 2, 1) := by decide +kernel
theorem d_Mod_numbers_13 : decode prog_13_method_15_code 13 = .ok (.if_icmp .eq (8), 3) := by decide +kernel
theorem d_Mod_numbers_16 : decode prog_13_method_15_code 16 = .ok (.iload_n 1, 1) := by decide +kernel
theorem d_Mod_numbers_17 : decode prog_13_method_15_code 17 = .ok (.iconst 3, 1) := by decide +kernel
theorem d_Mod_numbers_18 : decode prog_13_method_15_code 18 = .ok (.if_icmp .ne (184), 3) := by decide +kernel
theorem d_Mod_numbers_21 : decode prog_13_method_15_code 21 = .ok (.aload_n 0, 1) := by decide +kernel
theorem d_Mod_numbers_22 : decode prog_13_method_15_code 22 = .ok (.getfield 57, 3) := by decide +kernel
theorem d_Mod_numbers_25 : decode prog_13_method_15_code 25 = .ok (.iload_n 1, 1) := by decide +kernel
theorem d_Mod_numbers_26 : decode prog_13_method_15_code 26 = .ok (.aload_n 0, 1) := by decide +kernel
theorem d_Mod_numbers_27 : decode prog_13_method_15_code 27 = .ok (.iconst 3, 1) := by decide +kernel
theorem d_Mod_numbers_28 : decode prog_13_method_15_code 28 = .ok (.invokevirtual 123, 3) := by decide +kernel
theorem d_Mod_numbers_31 : decode prog_13_method_15_code 31 = .ok (.iastore, 1) := by decide +kernel
theorem d_Mod_numbers_32 : decode prog_13_method_15_code 32 = .ok (.aload_n 0, 1) := by decide +kernel
theorem d_Mod_numbers_33 : decode prog_13_method_15_code 33 = .ok (.iload_n 1, 1) := by decide +kernel
theorem d_Mod_numbers_34 : decode prog_13_method_15_code 34 = .ok (.iconst 3, 1) := by decide +kernel
theorem d_Mod_numbers_35 : decode prog_13_method_15_code 35 = .ok (.if_icmp .ne (12), 3) := by decide +kernel
theorem d_Mod_numbers_38 : decode prog_13_method_15_code 38 = .ok (.aload_n 0, 1) := by decide +kernel
theorem d_Mod_numbers_39 : decode prog_13_method_15_code 39 = .ok (.getfield 57, 3) := by decide +kernel
theorem d_Mod_numbers_42 : decode prog_13_method_15_code 42 = .ok (.iload_n 1, 1) := by decide +kernel
theorem d_Mod_numbers_43 : decode prog_13_method_15_code 43 = .ok (.iaload, 1) := by decide +kernel
theorem d_Mod_numbers_44 : decode prog_13_method_15_code 44 = .ok (.ifCond .le (7), 3) := by decide +kernel
theorem d_Mod_numbers_47 : decode prog_13_method_15_code 47 = .ok (.iconst 1, 1) := by decide +kernel
theorem d_Mod_numbers_48 : decode prog_13_method_15_code 48 = .ok (.goto (4), 3) := by decide +kernel
theorem d_Mod_numbers_51 : decode prog_13_method_15_code 51 = .ok (.iconst 0, 1) := by decide +kernel
theorem d_Mod_numbers_52 : decode prog_13_method_15_code 52 = .ok (.bipush (6), 2) := by decide +kernel
theorem d_Mod_numbers_54 : decode prog_13_method_15_code 54 = .ok (.invokevirtual 130, 3) := by decide +kernel
theorem d_Mod_numbers_57 : decode prog_13_method_15_code 57 = .ok (.iconst 0, 1) := by decide +kernel
theorem d_Mod_numbers_58 : decode prog_13_method_15_code 58 = .ok (.istore_n 2, 1) := by decide +kernel
theorem d_Mod_numbers_59 : decode prog_13_method_15_code 59 = .ok (.iload_n 2, 1) := by decide +kernel
theorem d_Mod_numbers_60 : decode prog_13_method_15_code 60 = .ok (.aload_n 0, 1) := by decide +kernel
theorem d_Mod_numbers_61 : decode prog_13_method_15_code 61 = .ok (.getfield 57, 3) := by decide +kernel
theorem d_Mod_numbers_64 : decode prog_13_method_15_code 64 = .ok (.iload_n 1, 1) := by decide +kernel
theorem d_Mod_numbers_65 : decode prog_13_method_15_code 65 = .ok (.iaload, 1) := by decide +kernel
theorem d_Mod_numbers_66 : decode prog_13_method_15_code 66 = .ok (.if_icmp .ge (133), 3) := by decide +kernel
theorem d_Mod_numbers_69 : decode prog_13_method_15_code 69 = .ok (.aload_n 0, 1) := by decide +kernel
theorem d_Mod_numbers_70 : decode prog_13_method_15_code 70 = .ok (.getfield 117, 3) := by decide +kernel
theorem d_Mod_numbers_73 : decode prog_13_method_15_code 73 = .ok (.ifCond .ne (126), 3) := by decide +kernel
theorem d_Mod_numbers_76 : decode prog_13_method_15_code 76 = .ok (.aload_n 0, 1) := by decide +kernel
theorem d_Mod_numbers_77 : decode prog_13_method_15_code 77 = .ok (.iload_n 1, 1) := by decide +kernel
theorem d_Mod_numbers_78 : decode prog_13_method_15_code 78 = .ok (.iload_n 2, 1) := by decide +kernel
theorem d_Mod_numbers_79 : decode prog_13_method_15_code 79 = .ok (.iconst 0, 1) := by decide +kernel
theorem d_Mod_numbers_80 : decode prog_13_method_15_code 80 = .ok (.bipush (10), 2) := by decide +kernel
theorem d_Mod_numbers_82 : decode prog_13_method_15_code 82 = .ok (.aload_n 0, 1) := by decide +kernel
theorem d_Mod_numbers_83 : decode prog_13_method_15_code 83 = .ok (.bipush (15), 2) := by decide +kernel
theorem d_Mod_numbers_85 : decode prog_13_method_15_code 85 = .ok (.invokevirtual 123, 3) := by decide +kernel
theorem d_Mod_numbers_88 : decode prog_13_method_15_code 88 = .ok (.imul, 1) := by decide +kernel
theorem d_Mod_numbers_89 : decode prog_13_method_15_code 89 = .ok (.invokevirtual 137, 3) := by decide +kernel
theorem d_Mod_numbers_92 : decode prog_13_method_15_code 92 = .ok (.aload_n 0, 1) := by decide +kernel
theorem d_Mod_numbers_93 : decode prog_13_method_15_code 93 = .ok (.iload_n 2, 1) := by decide +kernel
theorem d_Mod_numbers_94 : decode prog_13_method_15_code 94 = .ok (.ifCond .eq (22), 3) := by decide +kernel
theorem d_Mod_numbers_97 : decode prog_13_method_15_code 97 = .ok (.aload_n 0, 1) := by decide +kernel
theorem d_Mod_numbers_98 : decode prog_13_method_15_code 98 = .ok (.iload_n 1, 1) := by decide +kernel
theorem d_Mod_numbers_99 : decode prog_13_method_15_code 99 = .ok (.iload_n 2, 1) := by decide +kernel
theorem d_Mod_numbers_100 : decode prog_13_method_15_code 100 = .ok (.iconst 0, 1) := by decide +kernel
theorem d_Mod_numbers_101 : decode prog_13_method_15_code 101 = .ok (.invokevirtual 141, 3) := by decide +kernel
theorem d_Mod_numbers_104 : decode prog_13_method_15_code 104 = .ok (.aload_n 0, 1) := by decide +kernel
theorem d_Mod_numbers_105 : decode prog_13_method_15_code 105 = .ok (.iload_n 1, 1) := by decide +kernel
theorem d_Mod_numbers_106 : decode prog_13_method_15_code 106 = .ok (.iload_n 2, 1) := by decide +kernel
theorem d_Mod_numbers_107 : decode prog_13_method_15_code 107 = .ok (.iconst 1, 1) := by decide +kernel
theorem d_Mod_numbers_108 : decode prog_13_method_15_code 108 = .ok (.isub, 1) := by decide +kernel
theorem d_Mod_numbers_109 : decode prog_13_method_15_code 109 = .ok (.iconst 0, 1) := by decide +kernel
theorem d_Mod_numbers_110 : decode prog_13_method_15_code 110 = .ok (.invokevirtual 141, 3) := by decide +kernel
theorem d_Mod_numbers_113 : decode prog_13_method_15_code 113 = .ok (.if_icmp .le (7), 3) := by decide +kernel
theorem d_Mod_numbers_116 : decode prog_13_method_15_code 116 = .ok (.iconst 1, 1) := by decide +kernel
theorem d_Mod_numbers_117 : decode prog_13_method_15_code 117 = .ok (.goto (4), 3) := by decide +kernel
theorem d_Mod_numbers_120 : decode prog_13_method_15_code 120 = .ok (.iconst 0, 1) := by decide +kernel
theorem d_Mod_numbers_121 : decode prog_13_method_15_code 121 = .ok (.bipush (6), 2) := by decide +kernel
theorem d_Mod_numbers_123 : decode prog_13_method_15_code 123 = .ok (.invokevirtual 130, 3) := by decide +kernel
theorem d_Mod_numbers_126 : decode prog_13_method_15_code 126 = .ok (.aload_n 0, 1) := by decide +kernel
theorem d_Mod_numbers_127 : decode prog_13_method_15_code 127 = .ok (.iload_n 1, 1) := by decide +kernel
theorem d_Mod_numbers_128 : decode prog_13_method_15_code 128 = .ok (.ifCond .ne (8), 3) := by decide +kernel
theorem d_Mod_numbers_131 : decode prog_13_method_15_code 131 = .ok (.bipush (8), 2) := by decide +kernel
theorem d_Mod_numbers_133 : decode prog_13_method_15_code 133 = .ok (.goto (15), 3) := by decide +kernel
theorem d_Mod_numbers_136 : decode prog_13_method_15_code 136 = .ok (.iload_n 1, 1) := by decide +kernel
theorem d_Mod_numbers_137 : decode prog_13_method_15_code 137 = .ok (.iconst 2, 1) := by decide +kernel
theorem d_Mod_numbers_138 : decode prog_13_method_15_code 138 = .ok (.if_icmp .ne (8), 3) := by decide +kernel
theorem d_Mod_numbers_141 : decode prog_13_method_15_code 141 = .ok (.bipush (6), 2) := by decide +kernel
theorem d_Mod_numbers_143 : decode prog_13_method_15_code 143 = .ok (.goto (5), 3) := by decide +kernel
theorem d_Mod_numbers_146 : decode prog_13_method_15_code 146 = .ok (.bipush (7), 2) := by decide +kernel
theorem d_Mod_numbers_148 : decode prog_13_method_15_code 148 = .ok (.invokevirtual 123, 3) := by decide +kernel
theorem d_Mod_numbers_151 : decode prog_13_method_15_code 151 = .ok (.istore_n 3, 1) := by decide +kernel
theorem d_Mod_numbers_152 : decode prog_13_method_15_code 152 = .ok (.aload_n 0, 1) := by decide +kernel
theorem d_Mod_numbers_153 : decode prog_13_method_15_code 153 = .ok (.iload_n 1, 1) := by decide +kernel
theorem d_Mod_numbers_154 : decode prog_13_method_15_code 154 = .ok (.iload_n 2, 1) := by decide +kernel
theorem d_Mod_numbers_155 : decode prog_13_method_15_code 155 = .ok (.iconst 1, 1) := by decide +kernel
theorem d_Mod_numbers_156 : decode prog_13_method_15_code 156 = .ok (.iload_n 1, 1) := by decide +kernel
theorem d_Mod_numbers_157 : decode prog_13_method_15_code 157 = .ok (.iconst 3, 1) := by decide +kernel
theorem d_Mod_numbers_158 : decode prog_13_method_15_code 158 = .ok (.if_icmp .ne (10), 3) := by decide +kernel
theorem d_Mod_numbers_161 : decode prog_13_method_15_code 161 = .ok (.iload_n 3, 1) := by decide +kernel
theorem d_Mod_numbers_162 : decode prog_13_method_15_code 162 = .ok (.invokestatic 145, 3) := by decide +kernel
theorem d_Mod_numbers_165 : decode prog_13_method_15_code 165 = .ok (.goto (4), 3) := by decide +kernel
theorem d_Mod_numbers_168 : decode prog_13_method_15_code 168 = .ok (.iload_n 3, 1) := by decide +kernel
theorem d_Mod_numbers_169 : decode prog_13_method_15_code 169 = .ok (.invokevirtual 137, 3) := by decide +kernel
theorem d_Mod_numbers_172 : decode prog_13_method_15_code 172 = .ok (.aload_n 0, 1) := by decide +kernel
theorem d_Mod_numbers_173 : decode prog_13_method_15_code 173 = .ok (.iload_n 1, 1) := by decide +kernel
theorem d_Mod_numbers_174 : decode prog_13_method_15_code 174 = .ok (.iload_n 2, 1) := by decide +kernel
theorem d_Mod_numbers_175 : decode prog_13_method_15_code 175 = .ok (.iconst 2, 1) := by decide +kernel
theorem d_Mod_numbers_176 : decode prog_13_method_15_code 176 = .ok (.iload_n 1, 1) := by decide +kernel
theorem d_Mod_numbers_177 : decode prog_13_method_15_code 177 = .ok (.ifCond .ne (12), 3) := by decide +kernel
theorem d_Mod_numbers_180 : decode prog_13_method_15_code 180 = .ok (.aload_n 0, 1) := by decide +kernel
theorem d_Mod_numbers_181 : decode prog_13_method_15_code 181 = .ok (.bipush (6), 2) := by decide +kernel
theorem d_Mod_numbers_183 : decode prog_13_method_15_code 183 = .ok (.invokevirtual 123, 3) := by decide +kernel
theorem d_Mod_numbers_186 : decode prog_13_method_15_code 186 = .ok (.goto (4), 3) := by decide +kernel
theorem d_Mod_numbers_189 : decode prog_13_method_15_code 189 = .ok (.iconst 0, 1) := by decide +kernel
theorem d_Mod_numbers_190 : decode prog_13_method_15_code 190 = .ok (.invokevirtual 137, 3) := by decide +kernel
theorem d_Mod_numbers_193 : decode prog_13_method_15_code 193 = .ok (.iinc 2 (1), 3) := by decide +kernel
theorem d_Mod_numbers_196 : decode prog_13_method_15_code 196 = .ok (.goto (-137), 3) := by decide +kernel
theorem d_Mod_numbers_199 : decode prog_13_method_15_code 199 = .ok (.goto (165), 3) := by decide +kernel
theorem d_Mod_numbers_202 : decode prog_13_method_15_code 202 = .ok (.iload_n 1, 1) := by decide +kernel
theorem d_Mod_numbers_203 : decode prog_13_method_15_code 203 = .ok (.iconst 1, 1) := by decide +kernel
theorem d_Mod_numbers_204 : decode prog_13_method_15_code 204 = .ok (.if_icmp .ne (73), 3) := by decide +kernel
theorem d_Mod_numbers_207 : decode prog_13_method_15_code 207 = .ok (.aload_n 0, 1) := by decide +kernel
theorem d_Mod_numbers_208 : decode prog_13_method_15_code 208 = .ok (.iload_n 1, 1) := by decide +kernel
theorem d_Mod_numbers_209 : decode prog_13_method_15_code 209 = .ok (.iconst 0, 1) := by decide +kernel
theorem d_Mod_numbers_210 : decode prog_13_method_15_code 210 = .ok (.iconst 0, 1) := by decide +kernel
theorem d_Mod_numbers_211 : decode prog_13_method_15_code 211 = .ok (.bipush (10), 2) := by decide +kernel
theorem d_Mod_numbers_213 : decode prog_13_method_15_code 213 = .ok (.aload_n 0, 1) := by decide +kernel
theorem d_Mod_numbers_214 : decode prog_13_method_15_code 214 = .ok (.bipush (15), 2) := by decide +kernel
theorem d_Mod_numbers_216 : decode prog_13_method_15_code 216 = .ok (.invokevirtual 123, 3) := by decide +kernel
theorem d_Mod_numbers_219 : decode prog_13_method_15_code 219 = .ok (.imul, 1) := by decide +kernel
theorem d_Mod_numbers_220 : decode prog_13_method_15_code 220 = .ok (.invokevirtual 137, 3) := by decide +kernel
theorem d_Mod_numbers_223 : decode prog_13_method_15_code 223 = .ok (.aload_n 0, 1) := by decide +kernel
theorem d_Mod_numbers_224 : decode prog_13_method_15_code 224 = .ok (.iload_n 1, 1) := by decide +kernel
theorem d_Mod_numbers_225 : decode prog_13_method_15_code 225 = .ok (.iconst 0, 1) := by decide +kernel
theorem d_Mod_numbers_226 : decode prog_13_method_15_code 226 = .ok (.iconst 1, 1) := by decide +kernel
theorem d_Mod_numbers_227 : decode prog_13_method_15_code 227 = .ok (.aload_n 0, 1) := by decide +kernel
theorem d_Mod_numbers_228 : decode prog_13_method_15_code 228 = .ok (.bipush (10), 2) := by decide +kernel
theorem d_Mod_numbers_230 : decode prog_13_method_15_code 230 = .ok (.invokevirtual 123, 3) := by decide +kernel
theorem d_Mod_numbers_233 : decode prog_13_method_15_code 233 = .ok (.invokevirtual 137, 3) := by decide +kernel
theorem d_Mod_numbers_236 : decode prog_13_method_15_code 236 = .ok (.aload_n 0, 1) := by decide +kernel
theorem d_Mod_numbers_237 : decode prog_13_method_15_code 237 = .ok (.iconst 2, 1) := by decide +kernel
theorem d_Mod_numbers_238 : decode prog_13_method_15_code 238 = .ok (.invokevirtual 123, 3) := by decide +kernel
theorem d_Mod_numbers_241 : decode prog_13_method_15_code 241 = .ok (.istore_n 2, 1) := by decide +kernel
theorem d_Mod_numbers_242 : decode prog_13_method_15_code 242 = .ok (.aload_n 0, 1) := by decide +kernel
theorem d_Mod_numbers_243 : decode prog_13_method_15_code 243 = .ok (.iload_n 2, 1) := by decide +kernel
theorem d_Mod_numbers_244 : decode prog_13_method_15_code 244 = .ok (.iconst 1, 1) := by decide +kernel
theorem d_Mod_numbers_245 : decode prog_13_method_15_code 245 = .ok (.if_icmp .gt (7), 3) := by decide +kernel
theorem d_Mod_numbers_248 : decode prog_13_method_15_code 248 = .ok (.iconst 1, 1) := by decide +kernel
theorem d_Mod_numbers_249 : decode prog_13_method_15_code 249 = .ok (.goto (4), 3) := by decide +kernel
theorem d_Mod_numbers_252 : decode prog_13_method_15_code 252 = .ok (.iconst 0, 1) := by decide +kernel
theorem d_Mod_numbers_253 : decode prog_13_method_15_code 253 = .ok (.bipush (6), 2) := by decide +kernel
theorem d_Mod_numbers_255 : decode prog_13_method_15_code 255 = .ok (.invokevirtual 130, 3) := by decide +kernel
theorem d_Mod_numbers_258 : decode prog_13_method_15_code 258 = .ok (.aload_n 0, 1) := by decide +kernel
theorem d_Mod_numbers_259 : decode prog_13_method_15_code 259 = .ok (.iload_n 1, 1) := by decide +kernel
theorem d_Mod_numbers_260 : decode prog_13_method_15_code 260 = .ok (.iconst 0, 1) := by decide +kernel
theorem d_Mod_numbers_261 : decode prog_13_method_15_code 261 = .ok (.iconst 2, 1) := by decide +kernel
theorem d_Mod_numbers_262 : decode prog_13_method_15_code 262 = .ok (.iload_n 2, 1) := by decide +kernel
theorem d_Mod_numbers_263 : decode prog_13_method_15_code 263 = .ok (.ifCond .ne (7), 3) := by decide +kernel
theorem d_Mod_numbers_266 : decode prog_13_method_15_code 266 = .ok (.iconst 2, 1) := by decide +kernel
theorem d_Mod_numbers_267 : decode prog_13_method_15_code 267 = .ok (.goto (4), 3) := by decide +kernel
theorem d_Mod_numbers_270 : decode prog_13_method_15_code 270 = .ok (.iconst 3, 1) := by decide +kernel
theorem d_Mod_numbers_271 : decode prog_13_method_15_code 271 = .ok (.invokevirtual 137, 3) := by decide +kernel
theorem d_Mod_numbers_274 : decode prog_13_method_15_code 274 = .ok (.goto (90), 3) := by decide +kernel
theorem d_Mod_numbers_277 : decode prog_13_method_15_code 277 = .ok (.aload_n 0, 1) := by decide +kernel
theorem d_Mod_numbers_278 : decode prog_13_method_15_code 278 = .ok (.iload_n 1, 1) := by decide +kernel
theorem d_Mod_numbers_279 : decode prog_13_method_15_code 279 = .ok (.iconst 0, 1) := by decide +kernel
theorem d_Mod_numbers_280 : decode prog_13_method_15_code 280 = .ok (.iconst 0, 1) := by decide +kernel
theorem d_Mod_numbers_281 : decode prog_13_method_15_code 281 = .ok (.aload_n 0, 1) := by decide +kernel
theorem d_Mod_numbers_282 : decode prog_13_method_15_code 282 = .ok (.bipush (8), 2) := by decide +kernel
theorem d_Mod_numbers_284 : decode prog_13_method_15_code 284 = .ok (.invokevirtual 123, 3) := by decide +kernel
theorem d_Mod_numbers_287 : decode prog_13_method_15_code 287 = .ok (.invokevirtual 137, 3) := by decide +kernel
theorem d_Mod_numbers_290 : decode prog_13_method_15_code 290 = .ok (.iload_n 1, 1) := by decide +kernel
theorem d_Mod_numbers_291 : decode prog_13_method_15_code 291 = .ok (.iconst 4, 1) := by decide +kernel
theorem d_Mod_numbers_292 : decode prog_13_method_15_code 292 = .ok (.if_icmp .ne (72), 3) := by decide +kernel
theorem d_Mod_numbers_295 : decode prog_13_method_15_code 295 = .ok (.aload_n 0, 1) := by decide +kernel
theorem d_Mod_numbers_296 : decode prog_13_method_15_code 296 = .ok (.iload_n 1, 1) := by decide +kernel
theorem d_Mod_numbers_297 : decode prog_13_method_15_code 297 = .ok (.iconst 0, 1) := by decide +kernel
theorem d_Mod_numbers_298 : decode prog_13_method_15_code 298 = .ok (.iconst 1, 1) := by decide +kernel
theorem d_Mod_numbers_299 : decode prog_13_method_15_code 299 = .ok (.bipush (10), 2) := by decide +kernel
theorem d_Mod_numbers_301 : decode prog_13_method_15_code 301 = .ok (.aload_n 0, 1) := by decide +kernel
theorem d_Mod_numbers_302 : decode prog_13_method_15_code 302 = .ok (.bipush (15), 2) := by decide +kernel
theorem d_Mod_numbers_304 : decode prog_13_method_15_code 304 = .ok (.invokevirtual 123, 3) := by decide +kernel
theorem d_Mod_numbers_307 : decode prog_13_method_15_code 307 = .ok (.imul, 1) := by decide +kernel
theorem d_Mod_numbers_308 : decode prog_13_method_15_code 308 = .ok (.invokevirtual 137, 3) := by decide +kernel
theorem d_Mod_numbers_311 : decode prog_13_method_15_code 311 = .ok (.aload_n 0, 1) := by decide +kernel
theorem d_Mod_numbers_312 : decode prog_13_method_15_code 312 = .ok (.iload_n 1, 1) := by decide +kernel
theorem d_Mod_numbers_313 : decode prog_13_method_15_code 313 = .ok (.iconst 0, 1) := by decide +kernel
theorem d_Mod_numbers_314 : decode prog_13_method_15_code 314 = .ok (.iconst 2, 1) := by decide +kernel
theorem d_Mod_numbers_315 : decode prog_13_method_15_code 315 = .ok (.bipush (10), 2) := by decide +kernel
theorem d_Mod_numbers_317 : decode prog_13_method_15_code 317 = .ok (.aload_n 0, 1) := by decide +kernel
theorem d_Mod_numbers_318 : decode prog_13_method_15_code 318 = .ok (.bipush (15), 2) := by decide +kernel
theorem d_Mod_numbers_320 : decode prog_13_method_15_code 320 = .ok (.invokevirtual 123, 3) := by decide +kernel
theorem d_Mod_numbers_323 : decode prog_13_method_15_code 323 = .ok (.imul, 1) := by decide +kernel
theorem d_Mod_numbers_324 : decode prog_13_method_15_code 324 = .ok (.invokevirtual 137, 3) := by decide +kernel
theorem d_Mod_numbers_327 : decode prog_13_method_15_code 327 = .ok (.aload_n 0, 1) := by decide +kernel
theorem d_Mod_numbers_328 : decode prog_13_method_15_code 328 = .ok (.aload_n 0, 1) := by decide +kernel
theorem d_Mod_numbers_329 : decode prog_13_method_15_code 329 = .ok (.iload_n 1, 1) := by decide +kernel
theorem d_Mod_numbers_330 : decode prog_13_method_15_code 330 = .ok (.iconst 0, 1) := by decide +kernel
theorem d_Mod_numbers_331 : decode prog_13_method_15_code 331 = .ok (.iconst 2, 1) := by decide +kernel
theorem d_Mod_numbers_332 : decode prog_13_method_15_code 332 = .ok (.invokevirtual 141, 3) := by decide +kernel
theorem d_Mod_numbers_335 : decode prog_13_method_15_code 335 = .ok (.ifCond .le (7), 3) := by decide +kernel
theorem d_Mod_numbers_338 : decode prog_13_method_15_code 338 = .ok (.iconst 1, 1) := by decide +kernel
theorem d_Mod_numbers_339 : decode prog_13_method_15_code 339 = .ok (.goto (4), 3) := by decide +kernel
theorem d_Mod_numbers_342 : decode prog_13_method_15_code 342 = .ok (.iconst 0, 1) := by decide +kernel
theorem d_Mod_numbers_343 : decode prog_13_method_15_code 343 = .ok (.bipush (6), 2) := by decide +kernel
theorem d_Mod_numbers_345 : decode prog_13_method_15_code 345 = .ok (.invokevirtual 130, 3) := by decide +kernel
theorem d_Mod_numbers_348 : decode prog_13_method_15_code 348 = .ok (.aload_n 0, 1) := by decide +kernel
theorem d_Mod_numbers_349 : decode prog_13_method_15_code 349 = .ok (.iload_n 1, 1) := by decide +kernel
theorem d_Mod_numbers_350 : decode prog_13_method_15_code 350 = .ok (.iconst 1, 1) := by decide +kernel
theorem d_Mod_numbers_351 : decode prog_13_method_15_code 351 = .ok (.iconst 0, 1) := by decide +kernel
theorem d_Mod_numbers_352 : decode prog_13_method_15_code 352 = .ok (.aload_n 0, 1) := by decide +kernel
theorem d_Mod_numbers_353 : decode prog_13_method_15_code 353 = .ok (.bipush (7), 2) := by decide +kernel
theorem d_Mod_numbers_355 : decode prog_13_method_15_code 355 = .ok (.invokevirtual 123, 3) := by decide +kernel
theorem d_Mod_numbers_358 : decode prog_13_method_15_code 358 = .ok (.invokestatic 145, 3) := by decide +kernel
theorem d_Mod_numbers_361 : decode prog_13_method_15_code 361 = .ok (.invokevirtual 137, 3) := by decide +kernel
theorem d_Mod_numbers_364 : decode prog_13_method_15_code 364 = .ok (.return_, 1) := by decide +kernel
end
section
theorem d_Mod_message_0 : decode prog_13_method_16_code 0 = .ok (.aload_n 0, 1) := by decide +kernel
theorem d_Mod_message_1 : decode prog_13_method_16_code 1 = .ok (.iconst 0, 1) := by decide +kernel
theorem d_Mod_message_2 : decode prog_13_method_16_code 2 = .ok (.putfield 117, 3) := by decide +kernel
theorem d_Mod_message_5 : decode prog_13_method_16_code 5 = .ok (.aload_n 0, 1) := by decide +kernel
theorem d_Mod_message_6 : decode prog_13_method_16_code 6 = .ok (.iconst 0, 1) := by decide +kernel
theorem d_Mod_message_7 : decode prog_13_method_16_code 7 = .ok (.putfield 120, 3) := by decide +kernel
theorem d_Mod_message_10 : decode prog_13_method_16_code 10 = .ok (.iconst 0, 1) := by decide +kernel
theorem d_Mod_message_11 : decode prog_13_method_16_code 11 = .ok (.istore_n 1, 1) := by decide +kernel
theorem d_Mod_message_12 : decode prog_13_method_16_code 12 = .ok (.iload_n 1, 1) := by decide +kernel
theorem d_Mod_message_13 : decode prog_13_method_16_code 13 = .ok (.bipush (6), 2) := by decide +kernel
theorem d_Mod_message_15 : decode prog_13_method_16_code 15 = .ok (.if_icmp .ge (23), 3) := by decide +kernel
theorem d_Mod_message_18 : decode prog_13_method_16_code 18 = .ok (.aload_n 0, 1) := by decide +kernel
theorem d_Mod_message_19 : decode prog_13_method_16_code 19 = .ok (.getfield 54, 3) := by decide +kernel
theorem d_Mod_message_22 : decode prog_13_method_16_code 22 = .ok (.iload_n 1, 1) := by decide +kernel
theorem d_Mod_message_23 : decode prog_13_method_16_code 23 = .ok (.iconst 0, 1) := by decide +kernel
theorem d_Mod_message_24 : decode prog_13_method_16_code 24 = .ok (.bastore, 1) := by decide +kernel
theorem d_Mod_message_25 : decode prog_13_method_16_code 25 = .ok (.aload_n 0, 1) := by decide +kernel
theorem d_Mod_message_26 : decode prog_13_method_16_code 26 = .ok (.getfield 57, 3) := by decide +kernel
theorem d_Mod_message_29 : decode prog_13_method_16_code 29 = .ok (.iload_n 1, 1) := by decide +kernel
theorem d_Mod_message_30 : decode prog_13_method_16_code 30 = .ok (.iconst 0, 1) := by decide +kernel
theorem d_Mod_message_31 : decode prog_13_method_16_code 31 = .ok (.iastore, 1) := by decide +kernel
theorem d_Mod_message_32 : decode prog_13_method_16_code 32 = .ok (.iinc 1 (1), 3) := by decide +kernel
theorem d_Mod_message_35 : decode prog_13_method_16_code 35 = .ok (.goto (-23), 3) := by decide +kernel
theorem d_Mod_message_38 : decode prog_13_method_16_code 38 = .ok (.aload_n 0, 1) := by decide +kernel
theorem d_Mod_message_39 : decode prog_13_method_16_code 39 = .ok (.bipush (8), 2) := by decide +kernel
theorem d_Mod_message_41 : decode prog_13_method_16_code 41 = .ok (.invokevirtual 123, 3) := by decide +kernel
theorem d_Mod_message_44 : decode prog_13_method_16_code 44 = .ok (.istore_n 1, 1) := by decide +kernel
theorem d_Mod_message_45 : decode prog_13_method_16_code 45 = .ok (.aload_n 0, 1) := by decide +kernel
theorem d_Mod_message_46 : decode prog_13_method_16_code 46 = .ok (.iload_n 1, 1) := by decide +kernel
theorem d_Mod_message_47 : decode prog_13_method_16_code 47 = .ok (.iconst 3, 1) := by decide +kernel
theorem d_Mod_message_48 : decode prog_13_method_16_code 48 = .ok (.if_icmp .eq (21), 3) := by decide +kernel
theorem d_Mod_message_51 : decode prog_13_method_16_code 51 = .ok (.iload_n 1, 1) := by decide +kernel
theorem d_Mod_message_52 : decode prog_13_method_16_code 52 = .ok (.bipush (9), 2) := by decide +kernel
theorem d_Mod_message_54 : decode prog_13_method_16_code 54 = .ok (.if_icmp .eq (15), 3) := by decide +kernel
theorem d_Mod_message_57 : decode prog_13_method_16_code 57 = .ok (.iload_n 1, 1) := by decide +kernel
theorem d_Mod_message_58 : decode prog_13_method_16_code 58 = .ok (.bipush (16), 2) := by decide +kernel
theorem d_Mod_message_60 : decode prog_13_method_16_code 60 = .ok (.if_icmp .eq (9), 3) := by decide +kernel
theorem d_Mod_message_63 : decode prog_13_method_16_code 63 = .ok (.iload_n 1, 1) := by decide +kernel
theorem d_Mod_message_64 : decode prog_13_method_16_code 64 = .ok (.bipush (24), 2) := by decide +kernel
theorem d_Mod_message_66 : decode prog_13_method_16_code 66 = .ok (.if_icmp .ne (7), 3) := by decide +kernel
theorem d_Mod_message_69 : decode prog_13_method_16_code 69 = .ok (.iconst 1, 1) := by decide +kernel
theorem d_Mod_message_70 : decode prog_13_method_16_code 70 = .ok (.goto (4), 3) := by decide +kernel
theorem d_Mod_message_73 : decode prog_13_method_16_code 73 = .ok (.iconst 0, 1) := by decide +kernel
theorem d_Mod_message_74 : decode prog_13_method_16_code 74 = .ok (.iconst 1, 1) := by decide +kernel
theorem d_Mod_message_75 : decode prog_13_method_16_code 75 = .ok (.invokevirtual 130, 3) := by decide +kernel
theorem d_Mod_message_78 : decode prog_13_method_16_code 78 = .ok (.aload_n 0, 1) := by decide +kernel
theorem d_Mod_message_79 : decode prog_13_method_16_code 79 = .ok (.bipush (10), 2) := by decide +kernel
theorem d_Mod_message_81 : decode prog_13_method_16_code 81 = .ok (.invokevirtual 123, 3) := by decide +kernel
theorem d_Mod_message_84 : decode prog_13_method_16_code 84 = .ok (.istore_n 2, 1) := by decide +kernel
theorem d_Mod_message_85 : decode prog_13_method_16_code 85 = .ok (.aload_n 0, 1) := by decide +kernel
theorem d_Mod_message_86 : decode prog_13_method_16_code 86 = .ok (.iload_n 2, 1) := by decide +kernel
theorem d_Mod_message_87 : decode prog_13_method_16_code 87 = .ok (.aload_n 0, 1) := by decide +kernel
theorem d_Mod_message_88 : decode prog_13_method_16_code 88 = .ok (.getfield 114, 3) := by decide +kernel
theorem d_Mod_message_91 : decode prog_13_method_16_code 91 = .ok (.if_icmp .ne (7), 3) := by decide +kernel
theorem d_Mod_message_94 : decode prog_13_method_16_code 94 = .ok (.iconst 1, 1) := by decide +kernel
theorem d_Mod_message_95 : decode prog_13_method_16_code 95 = .ok (.goto (4), 3) := by decide +kernel
theorem d_Mod_message_98 : decode prog_13_method_16_code 98 = .ok (.iconst 0, 1) := by decide +kernel
theorem d_Mod_message_99 : decode prog_13_method_16_code 99 = .ok (.iconst 2, 1) := by decide +kernel
theorem d_Mod_message_100 : decode prog_13_method_16_code 100 = .ok (.invokevirtual 130, 3) := by decide +kernel
theorem d_Mod_message_103 : decode prog_13_method_16_code 103 = .ok (.aload_n 0, 1) := by decide +kernel
theorem d_Mod_message_104 : decode prog_13_method_16_code 104 = .ok (.bipush (16), 2) := by decide +kernel
theorem d_Mod_message_106 : decode prog_13_method_16_code 106 = .ok (.invokevirtual 123, 3) := by decide +kernel
theorem d_Mod_message_109 : decode prog_13_method_16_code 109 = .ok (.istore_n 3, 1) := by decide +kernel
theorem d_Mod_message_110 : decode prog_13_method_16_code 110 = .ok (.aload_n 0, 1) := by decide +kernel
theorem d_Mod_message_111 : decode prog_13_method_16_code 111 = .ok (.iload_n 3, 1) := by decide +kernel
theorem d_Mod_message_112 : decode prog_13_method_16_code 112 = .ok (.aload_n 0, 1) := by decide +kernel
theorem d_Mod_message_113 : decode prog_13_method_16_code 113 = .ok (.getfield 47, 3) := by decide +kernel
theorem d_Mod_message_116 : decode prog_13_method_16_code 116 = .ok (.if_icmp .le (7), 3) := by decide +kernel
theorem d_Mod_message_119 : decode prog_13_method_16_code 119 = .ok (.iconst 1, 1) := by decide +kernel
theorem d_Mod_message_120 : decode prog_13_method_16_code 120 = .ok (.goto (4), 3) := by decide +kernel
theorem d_Mod_message_123 : decode prog_13_method_16_code 123 = .ok (.iconst 0, 1) := by decide +kernel
theorem d_Mod_message_124 : decode prog_13_method_16_code 124 = .ok (.iconst 3, 1) := by decide +kernel
theorem d_Mod_message_125 : decode prog_13_method_16_code 125 = .ok (.invokevirtual 130, 3) := by decide +kernel
theorem d_Mod_message_128 : decode prog_13_method_16_code 128 = .ok (.iconst 0, 1) := by decide +kernel
theorem d_Mod_message_129 : decode prog_13_method_16_code 129 = .ok (.istore 4, 2) := by decide +kernel
theorem d_Mod_message_131 : decode prog_13_method_16_code 131 = .ok (.iload_n 1, 1) := by decide +kernel
theorem d_Mod_message_132 : decode prog_13_method_16_code 132 = .ok (.bipush (9), 2) := by decide +kernel
theorem d_Mod_message_134 : decode prog_13_method_16_code 134 = .ok (.if_icmp .ne (14), 3) := by decide +kernel
theorem d_Mod_message_137 : decode prog_13_method_16_code 137 = .ok (.bipush (10), 2) := by decide +kernel
theorem d_Mod_message_139 : decode prog_13_method_16_code 139 = .ok (.aload_n 0, 1) := by decide +kernel
theorem d_Mod_message_140 : decode prog_13_method_16_code 140 = .ok (.bipush (15), 2) := by decide +kernel
theorem d_Mod_message_142 : decode prog_13_method_16_code 142 = .ok (.invokevirtual 123, 3) := by decide +kernel
theorem d_Mod_message_145 : decode prog_13_method_16_code 145 = .ok (.imul, 1) := by decide +kernel
theorem d_Mod_message_146 : decode prog_13_method_16_code 146 = .ok (.istore 4, 2) := by decide +kernel
theorem d_Mod_message_148 : decode prog_13_method_16_code 148 = .ok (.iload_n 1, 1) := by decide +kernel
theorem d_Mod_message_149 : decode prog_13_method_16_code 149 = .ok (.iconst 3, 1) := by decide +kernel
theorem d_Mod_message_150 : decode prog_13_method_16_code 150 = .ok (.if_icmp .eq (9), 3) := by decide +kernel
theorem d_Mod_message_153 : decode prog_13_method_16_code 153 = .ok (.iload_n 1, 1) := by decide +kernel
theorem d_Mod_message_154 : decode prog_13_method_16_code 154 = .ok (.bipush (24), 2) := by decide +kernel
theorem d_Mod_message_156 : decode prog_13_method_16_code 156 = .ok (.if_icmp .ne (10), 3) := by decide +kernel
theorem d_Mod_message_159 : decode prog_13_method_16_code 159 = .ok (.aload_n 0, 1) := by decide +kernel
theorem d_Mod_message_160 : decode prog_13_method_16_code 160 = .ok (.invokevirtual 148, 3) := by decide +kernel
theorem d_Mod_message_163 : decode prog_13_method_16_code 163 = .ok (.goto (24), 3) := by decide +kernel
theorem d_Mod_message_166 : decode prog_13_method_16_code 166 = .ok (.aload_n 0, 1) := by decide +kernel
theorem d_Mod_message_167 : decode prog_13_method_16_code 167 = .ok (.aload_n 0, 1) := by decide +kernel
theorem d_Mod_message_168 : decode prog_13_method_16_code 168 = .ok (.getfield 120, 3) := by decide +kernel
theorem d_Mod_message_171 : decode prog_13_method_16_code 171 = .ok (.aload_n 0, 1) := by decide +kernel
theorem d_Mod_message_172 : decode prog_13_method_16_code 172 = .ok (.getfield 114, 3) := by decide +kernel
theorem d_Mod_message_175 : decode prog_13_method_16_code 175 = .ok (.if_icmp .ne (7), 3) := by decide +kernel
theorem d_Mod_message_178 : decode prog_13_method_16_code 178 = .ok (.iconst 1, 1) := by decide +kernel
theorem d_Mod_message_179 : decode prog_13_method_16_code 179 = .ok (.goto (4), 3) := by decide +kernel
theorem d_Mod_message_182 : decode prog_13_method_16_code 182 = .ok (.iconst 0, 1) := by decide +kernel
theorem d_Mod_message_183 : decode prog_13_method_16_code 183 = .ok (.iconst 2, 1) := by decide +kernel
theorem d_Mod_message_184 : decode prog_13_method_16_code 184 = .ok (.invokevirtual 130, 3) := by decide +kernel
theorem d_Mod_message_187 : decode prog_13_method_16_code 187 = .ok (.aload_n 0, 1) := by decide +kernel
theorem d_Mod_message_188 : decode prog_13_method_16_code 188 = .ok (.iload_n 1, 1) := by decide +kernel
theorem d_Mod_message_189 : decode prog_13_method_16_code 189 = .ok (.iconst 3, 1) := by decide +kernel
theorem d_Mod_message_190 : decode prog_13_method_16_code 190 = .ok (.if_icmp .ne (12), 3) := by decide +kernel
theorem d_Mod_message_193 : decode prog_13_method_16_code 193 = .ok (.aload_n 0, 1) := by decide +kernel
theorem d_Mod_message_194 : decode prog_13_method_16_code 194 = .ok (.getfield 54, 3) := by decide +kernel
theorem d_Mod_message_197 : decode prog_13_method_16_code 197 = .ok (.iconst 1, 1) := by decide +kernel
theorem d_Mod_message_198 : decode prog_13_method_16_code 198 = .ok (.baload, 1) := by decide +kernel
theorem d_Mod_message_199 : decode prog_13_method_16_code 199 = .ok (.ifCond .eq (7), 3) := by decide +kernel
theorem d_Mod_message_202 : decode prog_13_method_16_code 202 = .ok (.iconst 1, 1) := by decide +kernel
theorem d_Mod_message_203 : decode prog_13_method_16_code 203 = .ok (.goto (4), 3) := by decide +kernel
theorem d_Mod_message_206 : decode prog_13_method_16_code 206 = .ok (.iconst 0, 1) := by decide +kernel
theorem d_Mod_message_207 : decode prog_13_method_16_code 207 = .ok (.bipush (8), 2) := by decide +kernel
theorem d_Mod_message_209 : decode prog_13_method_16_code 209 = .ok (.invokevirtual 130, 3) := by decide +kernel
theorem d_Mod_message_212 : decode prog_13_method_16_code 212 = .ok (.aload_n 0, 1) := by decide +kernel
theorem d_Mod_message_213 : decode prog_13_method_16_code 213 = .ok (.iload_n 1, 1) := by decide +kernel
theorem d_Mod_message_214 : decode prog_13_method_16_code 214 = .ok (.bipush (24), 2) := by decide +kernel
theorem d_Mod_message_216 : decode prog_13_method_16_code 216 = .ok (.if_icmp .ne (12), 3) := by decide +kernel
theorem d_Mod_message_219 : decode prog_13_method_16_code 219 = .ok (.aload_n 0, 1) := by decide +kernel
theorem d_Mod_message_220 : decode prog_13_method_16_code 220 = .ok (.getfield 54, 3) := by decide +kernel
theorem d_Mod_message_223 : decode prog_13_method_16_code 223 = .ok (.iconst 1, 1) := by decide +kernel
theorem d_Mod_message_224 : decode prog_13_method_16_code 224 = .ok (.baload, 1) := by decide +kernel
theorem d_Mod_message_225 : decode prog_13_method_16_code 225 = .ok (.ifCond .ne (7), 3) := by decide +kernel
theorem d_Mod_message_228 : decode prog_13_method_16_code 228 = .ok (.iconst 1, 1) := by decide +kernel
theorem d_Mod_message_229 : decode prog_13_method_16_code 229 = .ok (.goto (4), 3) := by decide +kernel
theorem d_Mod_message_232 : decode prog_13_method_16_code 232 = .ok (.iconst 0, 1) := by decide +kernel
theorem d_Mod_message_233 : decode prog_13_method_16_code 233 = .ok (.bipush (8), 2) := by decide +kernel
theorem d_Mod_message_235 : decode prog_13_method_16_code 235 = .ok (.invokevirtual 130, 3) := by decide +kernel
theorem d_Mod_message_238 : decode prog_13_method_16_code 238 = .ok (.aload_n 0, 1) := by decide +kernel
theorem d_Mod_message_239 : decode prog_13_method_16_code 239 = .ok (.aload_n 0, 1) := by decide +kernel
theorem d_Mod_message_240 : decode prog_13_method_16_code 240 = .ok (.getfield 81, 3) := by decide +kernel
theorem d_Mod_message_243 : decode prog_13_method_16_code 243 = .ok (.bipush (6), 2) := by decide +kernel
theorem d_Mod_message_245 : decode prog_13_method_16_code 245 = .ok (.if_icmp .eq (21), 3) := by decide +kernel
theorem d_Mod_message_248 : decode prog_13_method_16_code 248 = .ok (.aload_n 0, 1) := by decide +kernel
theorem d_Mod_message_249 : decode prog_13_method_16_code 249 = .ok (.getfield 81, 3) := by decide +kernel
theorem d_Mod_message_252 : decode prog_13_method_16_code 252 = .ok (.iconst 4, 1) := by decide +kernel
theorem d_Mod_message_253 : decode prog_13_method_16_code 253 = .ok (.if_icmp .ne (9), 3) := by decide +kernel
theorem d_Mod_message_256 : decode prog_13_method_16_code 256 = .ok (.iload_n 1, 1) := by decide +kernel
theorem d_Mod_message_257 : decode prog_13_method_16_code 257 = .ok (.bipush (16), 2) := by decide +kernel
theorem d_Mod_message_259 : decode prog_13_method_16_code 259 = .ok (.if_icmp .ne (7), 3) := by decide +kernel
theorem d_Mod_message_262 : decode prog_13_method_16_code 262 = .ok (.iconst 1, 1) := by decide +kernel
theorem d_Mod_message_263 : decode prog_13_method_16_code 263 = .ok (.goto (4), 3) := by decide +kernel
theorem d_Mod_message_266 : decode prog_13_method_16_code 266 = .ok (.iconst 0, 1) := by decide +kernel
theorem d_Mod_message_267 : decode prog_13_method_16_code 267 = .ok (.bipush (9), 2) := by decide +kernel
theorem d_Mod_message_269 : decode prog_13_method_16_code 269 = .ok (.invokevirtual 130, 3) := by decide +kernel
theorem d_Mod_message_272 : decode prog_13_method_16_code 272 = .ok (.aload_n 0, 1) := by decide +kernel
theorem d_Mod_message_273 : decode prog_13_method_16_code 273 = .ok (.iload_n 1, 1) := by decide +kernel
theorem d_Mod_message_274 : decode prog_13_method_16_code 274 = .ok (.bipush (9), 2) := by decide +kernel
theorem d_Mod_message_276 : decode prog_13_method_16_code 276 = .ok (.if_icmp .ne (10), 3) := by decide +kernel
theorem d_Mod_message_279 : decode prog_13_method_16_code 279 = .ok (.aload_n 0, 1) := by decide +kernel
theorem d_Mod_message_280 : decode prog_13_method_16_code 280 = .ok (.getfield 88, 3) := by decide +kernel
theorem d_Mod_message_283 : decode prog_13_method_16_code 283 = .ok (.ifCond .eq (7), 3) := by decide +kernel
theorem d_Mod_message_286 : decode prog_13_method_16_code 286 = .ok (.iconst 1, 1) := by decide +kernel
theorem d_Mod_message_287 : decode prog_13_method_16_code 287 = .ok (.goto (4), 3) := by decide +kernel
theorem d_Mod_message_290 : decode prog_13_method_16_code 290 = .ok (.iconst 0, 1) := by decide +kernel
theorem d_Mod_message_291 : decode prog_13_method_16_code 291 = .ok (.bipush (10), 2) := by decide +kernel
theorem d_Mod_message_293 : decode prog_13_method_16_code 293 = .ok (.invokevirtual 130, 3) := by decide +kernel
theorem d_Mod_message_296 : decode prog_13_method_16_code 296 = .ok (.aload_n 0, 1) := by decide +kernel
theorem d_Mod_message_297 : decode prog_13_method_16_code 297 = .ok (.getfield 117, 3) := by decide +kernel
theorem d_Mod_message_300 : decode prog_13_method_16_code 300 = .ok (.ifCond .ne (61), 3) := by decide +kernel
theorem d_Mod_message_303 : decode prog_13_method_16_code 303 = .ok (.iload_n 1, 1) := by decide +kernel
theorem d_Mod_message_304 : decode prog_13_method_16_code 304 = .ok (.bipush (9), 2) := by decide +kernel
theorem d_Mod_message_306 : decode prog_13_method_16_code 306 = .ok (.if_icmp .ne (55), 3) := by decide +kernel
theorem d_Mod_message_309 : decode prog_13_method_16_code 309 = .ok (.aload_n 0, 1) := by decide +kernel
theorem d_Mod_message_310 : decode prog_13_method_16_code 310 = .ok (.iload 4, 2) := by decide +kernel
theorem d_Mod_message_312 : decode prog_13_method_16_code 312 = .ok (.aload_n 0, 1) := by decide +kernel
theorem d_Mod_message_313 : decode prog_13_method_16_code 313 = .ok (.getfield 151, 3) := by decide +kernel
theorem d_Mod_message_316 : decode prog_13_method_16_code 316 = .ok (.if_icmp .gt (7), 3) := by decide +kernel
theorem d_Mod_message_319 : decode prog_13_method_16_code 319 = .ok (.iconst 1, 1) := by decide +kernel
theorem d_Mod_message_320 : decode prog_13_method_16_code 320 = .ok (.goto (4), 3) := by decide +kernel
theorem d_Mod_message_323 : decode prog_13_method_16_code 323 = .ok (.iconst 0, 1) := by decide +kernel
theorem d_Mod_message_324 : decode prog_13_method_16_code 324 = .ok (.bipush (11), 2) := by decide +kernel
theorem d_Mod_message_326 : decode prog_13_method_16_code 326 = .ok (.invokevirtual 130, 3) := by decide +kernel
theorem d_Mod_message_329 : decode prog_13_method_16_code 329 = .ok (.aload_n 0, 1) := by decide +kernel
theorem d_Mod_message_330 : decode prog_13_method_16_code 330 = .ok (.aload_n 0, 1) := by decide +kernel
theorem d_Mod_message_331 : decode prog_13_method_16_code 331 = .ok (.invokevirtual 154, 3) := by decide +kernel
theorem d_Mod_message_334 : decode prog_13_method_16_code 334 = .ok (.ifCond .eq (17), 3) := by decide +kernel
theorem d_Mod_message_337 : decode prog_13_method_16_code 337 = .ok (.aload_n 0, 1) := by decide +kernel
theorem d_Mod_message_338 : decode prog_13_method_16_code 338 = .ok (.aload_n 0, 1) := by decide +kernel
theorem d_Mod_message_339 : decode prog_13_method_16_code 339 = .ok (.getfield 158, 3) := by decide +kernel
theorem d_Mod_message_342 : decode prog_13_method_16_code 342 = .ok (.iload 4, 2) := by decide +kernel
theorem d_Mod_message_344 : decode prog_13_method_16_code 344 = .ok (.invokevirtual 161, 3) := by decide +kernel
theorem d_Mod_message_347 : decode prog_13_method_16_code 347 = .ok (.iconst 3, 1) := by decide +kernel
theorem d_Mod_message_348 : decode prog_13_method_16_code 348 = .ok (.if_icmp .ge (7), 3) := by decide +kernel
theorem d_Mod_message_351 : decode prog_13_method_16_code 351 = .ok (.iconst 1, 1) := by decide +kernel
theorem d_Mod_message_352 : decode prog_13_method_16_code 352 = .ok (.goto (4), 3) := by decide +kernel
theorem d_Mod_message_355 : decode prog_13_method_16_code 355 = .ok (.iconst 0, 1) := by decide +kernel
theorem d_Mod_message_356 : decode prog_13_method_16_code 356 = .ok (.bipush (11), 2) := by decide +kernel
theorem d_Mod_message_358 : decode prog_13_method_16_code 358 = .ok (.invokevirtual 130, 3) := by decide +kernel
theorem d_Mod_message_361 : decode prog_13_method_16_code 361 = .ok (.aload_n 0, 1) := by decide +kernel
theorem d_Mod_message_362 : decode prog_13_method_16_code 362 = .ok (.getfield 117, 3) := by decide +kernel
theorem d_Mod_message_365 : decode prog_13_method_16_code 365 = .ok (.ifCond .ne (22), 3) := by decide +kernel
theorem d_Mod_message_368 : decode prog_13_method_16_code 368 = .ok (.aload_n 0, 1) := by decide +kernel
theorem d_Mod_message_369 : decode prog_13_method_16_code 369 = .ok (.getfield 54, 3) := by decide +kernel
theorem d_Mod_message_372 : decode prog_13_method_16_code 372 = .ok (.iconst 4, 1) := by decide +kernel
theorem d_Mod_message_373 : decode prog_13_method_16_code 373 = .ok (.baload, 1) := by decide +kernel
theorem d_Mod_message_374 : decode prog_13_method_16_code 374 = .ok (.ifCond .eq (13), 3) := by decide +kernel
theorem d_Mod_message_377 : decode prog_13_method_16_code 377 = .ok (.aload_n 0, 1) := by decide +kernel
theorem d_Mod_message_378 : decode prog_13_method_16_code 378 = .ok (.aload_n 0, 1) := by decide +kernel
theorem d_Mod_message_379 : decode prog_13_method_16_code 379 = .ok (.invokevirtual 165, 3) := by decide +kernel
theorem d_Mod_message_382 : decode prog_13_method_16_code 382 = .ok (.bipush (12), 2) := by decide +kernel
theorem d_Mod_message_384 : decode prog_13_method_16_code 384 = .ok (.invokevirtual 130, 3) := by decide +kernel
theorem d_Mod_message_387 : decode prog_13_method_16_code 387 = .ok (.aload_n 0, 1) := by decide +kernel
theorem d_Mod_message_388 : decode prog_13_method_16_code 388 = .ok (.iconst 0, 1) := by decide +kernel
theorem d_Mod_message_389 : decode prog_13_method_16_code 389 = .ok (.putfield 114, 3) := by decide +kernel
theorem d_Mod_message_392 : decode prog_13_method_16_code 392 = .ok (.aload_n 0, 1) := by decide +kernel
theorem d_Mod_message_393 : decode prog_13_method_16_code 393 = .ok (.getfield 117, 3) := by decide +kernel
theorem d_Mod_message_396 : decode prog_13_method_16_code 396 = .ok (.ifCond .eq (15), 3) := by decide +kernel
theorem d_Mod_message_399 : decode prog_13_method_16_code 399 = .ok (.aload_n 0, 1) := by decide +kernel
theorem d_Mod_message_400 : decode prog_13_method_16_code 400 = .ok (.iconst 4, 1) := by decide +kernel
theorem d_Mod_message_401 : decode prog_13_method_16_code 401 = .ok (.aload_n 0, 1) := by decide +kernel
theorem d_Mod_message_402 : decode prog_13_method_16_code 402 = .ok (.getfield 117, 3) := by decide +kernel
theorem d_Mod_message_405 : decode prog_13_method_16_code 405 = .ok (.invokevirtual 84, 3) := by decide +kernel
theorem d_Mod_message_408 : decode prog_13_method_16_code 408 = .ok (.goto (21), 3) := by decide +kernel
theorem d_Mod_message_411 : decode prog_13_method_16_code 411 = .ok (.aload_n 0, 1) := by decide +kernel
theorem d_Mod_message_412 : decode prog_13_method_16_code 412 = .ok (.iconst 3, 1) := by decide +kernel
theorem d_Mod_message_413 : decode prog_13_method_16_code 413 = .ok (.iload_n 1, 1) := by decide +kernel
theorem d_Mod_message_414 : decode prog_13_method_16_code 414 = .ok (.invokevirtual 84, 3) := by decide +kernel
theorem d_Mod_message_417 : decode prog_13_method_16_code 417 = .ok (.aload_n 0, 1) := by decide +kernel
theorem d_Mod_message_418 : decode prog_13_method_16_code 418 = .ok (.iload_n 3, 1) := by decide +kernel
theorem d_Mod_message_419 : decode prog_13_method_16_code 419 = .ok (.putfield 47, 3) := by decide +kernel
theorem d_Mod_message_422 : decode prog_13_method_16_code 422 = .ok (.aload_n 0, 1) := by decide +kernel
theorem d_Mod_message_423 : decode prog_13_method_16_code 423 = .ok (.iload_n 1, 1) := by decide +kernel
theorem d_Mod_message_424 : decode prog_13_method_16_code 424 = .ok (.iload 4, 2) := by decide +kernel
theorem d_Mod_message_426 : decode prog_13_method_16_code 426 = .ok (.invokevirtual 168, 3) := by decide +kernel
theorem d_Mod_message_429 : decode prog_13_method_16_code 429 = .ok (.aload_n 0, 1) := by decide +kernel
theorem d_Mod_message_430 : decode prog_13_method_16_code 430 = .ok (.getfield 117, 3) := by decide +kernel
theorem d_Mod_message_433 : decode prog_13_method_16_code 433 = .ok (.ireturn, 1) := by decide +kernel
theorem d_Mod_fits_0 : decode prog_13_method_17_code 0 = .ok (.iconst 0, 1) := by decide +kernel
theorem d_Mod_fits_1 : decode prog_13_method_17_code 1 = .ok (.istore_n 1, 1) := by decide +kernel
theorem d_Mod_fits_2 : decode prog_13_method_17_code 2 = .ok (.iconst 0, 1) := by decide +kernel
theorem d_Mod_fits_3 : decode prog_13_method_17_code 3 = .ok (.istore_n 2, 1) := by decide +kernel
theorem d_Mod_fits_4 : decode prog_13_method_17_code 4 = .ok (.iconst 0, 1) := by decide +kernel
theorem d_Mod_fits_5 : decode prog_13_method_17_code 5 = .ok (.istore_n 3, 1) := by decide +kernel
theorem d_Mod_fits_6 : decode prog_13_method_17_code 6 = .ok (.iload_n 3, 1) := by decide +kernel
theorem d_Mod_fits_7 : decode prog_13_method_17_code 7 = .ok (.aload_n 0, 1) := by decide +kernel
theorem d_Mod_fits_8 : decode prog_13_method_17_code 8 = .ok (.getfield 171, 3) := by decide +kernel
theorem d_Mod_fits_11 : decode prog_13_method_17_code 11 = .ok (.if_icmp .ge (85), 3) := by decide +kernel
theorem d_Mod_fits_14 : decode prog_13_method_17_code 14 = .ok (.aload_n 0, 1) := by decide +kernel
theorem d_Mod_fits_15 : decode prog_13_method_17_code 15 = .ok (.getfield 54, 3) := by decide +kernel
theorem d_Mod_fits_18 : decode prog_13_method_17_code 18 = .ok (.iconst 5, 1) := by decide +kernel
theorem d_Mod_fits_19 : decode prog_13_method_17_code 19 = .ok (.baload, 1) := by decide +kernel
theorem d_Mod_fits_20 : decode prog_13_method_17_code 20 = .ok (.ifCond .eq (19), 3) := by decide +kernel
theorem d_Mod_fits_23 : decode prog_13_method_17_code 23 = .ok (.aload_n 0, 1) := by decide +kernel
theorem d_Mod_fits_24 : decode prog_13_method_17_code 24 = .ok (.getfield 35, 3) := by decide +kernel
theorem d_Mod_fits_27 : decode prog_13_method_17_code 27 = .ok (.iload_n 3, 1) := by decide +kernel
theorem d_Mod_fits_28 : decode prog_13_method_17_code 28 = .ok (.iaload, 1) := by decide +kernel
theorem d_Mod_fits_29 : decode prog_13_method_17_code 29 = .ok (.aload_n 0, 1) := by decide +kernel
theorem d_Mod_fits_30 : decode prog_13_method_17_code 30 = .ok (.iconst 5, 1) := by decide +kernel
theorem d_Mod_fits_31 : decode prog_13_method_17_code 31 = .ok (.iconst 0, 1) := by decide +kernel
theorem d_Mod_fits_32 : decode prog_13_method_17_code 32 = .ok (.iconst 0, 1) := by decide +kernel
theorem d_Mod_fits_33 : decode prog_13_method_17_code 33 = .ok (.invokevirtual 141, 3) := by decide +kernel
theorem d_Mod_fits_36 : decode prog_13_method_17_code 36 = .ok (.if_icmp .eq (7), 3) := by decide +kernel
theorem d_Mod_fits_39 : decode prog_13_method_17_code 39 = .ok (.iconst 1, 1) := by decide +kernel
theorem d_Mod_fits_40 : decode prog_13_method_17_code 40 = .ok (.goto (4), 3) := by decide +kernel
theorem d_Mod_fits_43 : decode prog_13_method_17_code 43 = .ok (.iconst 0, 1) := by decide +kernel
theorem d_Mod_fits_44 : decode prog_13_method_17_code 44 = .ok (.istore 4, 2) := by decide +kernel
theorem d_Mod_fits_46 : decode prog_13_method_17_code 46 = .ok (.iload_n 1, 1) := by decide +kernel
theorem d_Mod_fits_47 : decode prog_13_method_17_code 47 = .ok (.iload 4, 2) := by decide +kernel
theorem d_Mod_fits_49 : decode prog_13_method_17_code 49 = .ok (.ifCond .eq (7), 3) := by decide +kernel
theorem d_Mod_fits_52 : decode prog_13_method_17_code 52 = .ok (.iconst 1, 1) := by decide +kernel
theorem d_Mod_fits_53 : decode prog_13_method_17_code 53 = .ok (.goto (4), 3) := by decide +kernel
theorem d_Mod_fits_56 : decode prog_13_method_17_code 56 = .ok (.iconst 0, 1) := by decide +kernel
theorem d_Mod_fits_57 : decode prog_13_method_17_code 57 = .ok (.iadd, 1) := by decide +kernel
theorem d_Mod_fits_58 : decode prog_13_method_17_code 58 = .ok (.istore_n 1, 1) := by decide +kernel
theorem d_Mod_fits_59 : decode prog_13_method_17_code 59 = .ok (.iload_n 2, 1) := by decide +kernel
theorem d_Mod_fits_60 : decode prog_13_method_17_code 60 = .ok (.ifCond .ne (24), 3) := by decide +kernel
theorem d_Mod_fits_63 : decode prog_13_method_17_code 63 = .ok (.iload 4, 2) := by decide +kernel
theorem d_Mod_fits_65 : decode prog_13_method_17_code 65 = .ok (.ifCond .eq (23), 3) := by decide +kernel
theorem d_Mod_fits_68 : decode prog_13_method_17_code 68 = .ok (.aload_n 0, 1) := by decide +kernel
theorem d_Mod_fits_69 : decode prog_13_method_17_code 69 = .ok (.getfield 35, 3) := by decide +kernel
theorem d_Mod_fits_72 : decode prog_13_method_17_code 72 = .ok (.iload_n 3, 1) := by decide +kernel
theorem d_Mod_fits_73 : decode prog_13_method_17_code 73 = .ok (.iaload, 1) := by decide +kernel
theorem d_Mod_fits_74 : decode prog_13_method_17_code 74 = .ok (.aload_n 0, 1) := by decide +kernel
theorem d_Mod_fits_75 : decode prog_13_method_17_code 75 = .ok (.iconst 4, 1) := by decide +kernel
theorem d_Mod_fits_76 : decode prog_13_method_17_code 76 = .ok (.iconst 0, 1) := by decide +kernel
theorem d_Mod_fits_77 : decode prog_13_method_17_code 77 = .ok (.iconst 0, 1) := by decide +kernel
theorem d_Mod_fits_78 : decode prog_13_method_17_code 78 = .ok (.invokevirtual 141, 3) := by decide +kernel
theorem d_Mod_fits_81 : decode prog_13_method_17_code 81 = .ok (.if_icmp .ne (7), 3) := by decide +kernel
theorem d_Mod_fits_84 : decode prog_13_method_17_code 84 = .ok (.iconst 1, 1) := by decide +kernel
theorem d_Mod_fits_85 : decode prog_13_method_17_code 85 = .ok (.goto (4), 3) := by decide +kernel
theorem d_Mod_fits_88 : decode prog_13_method_17_code 88 = .ok (.iconst 0, 1) := by decide +kernel
theorem d_Mod_fits_89 : decode prog_13_method_17_code 89 = .ok (.istore_n 2, 1) := by decide +kernel
theorem d_Mod_fits_90 : decode prog_13_method_17_code 90 = .ok (.iinc 3 (1), 3) := by decide +kernel
theorem d_Mod_fits_93 : decode prog_13_method_17_code 93 = .ok (.goto (-87), 3) := by decide +kernel
theorem d_Mod_fits_96 : decode prog_13_method_17_code 96 = .ok (.iload_n 2, 1) := by decide +kernel
theorem d_Mod_fits_97 : decode prog_13_method_17_code 97 = .ok (.ifCond .ne (9), 3) := by decide +kernel
theorem d_Mod_fits_100 : decode prog_13_method_17_code 100 = .ok (.iload_n 1, 1) := by decide +kernel
theorem d_Mod_fits_101 : decode prog_13_method_17_code 101 = .ok (.bipush (6), 2) := by decide +kernel
theorem d_Mod_fits_103 : decode prog_13_method_17_code 103 = .ok (.if_icmp .ge (7), 3) := by decide +kernel
theorem d_Mod_fits_106 : decode prog_13_method_17_code 106 = .ok (.iconst 1, 1) := by decide +kernel
theorem d_Mod_fits_107 : decode prog_13_method_17_code 107 = .ok (.goto (4), 3) := by decide +kernel
theorem d_Mod_fits_110 : decode prog_13_method_17_code 110 = .ok (.iconst 0, 1) := by decide +kernel
theorem d_Mod_fits_111 : decode prog_13_method_17_code 111 = .ok (.ireturn, 1) := by decide +kernel
theorem d_Mod_drop_0 : decode prog_13_method_18_code 0 = .ok (.iconst 0, 1) := by decide +kernel
theorem d_Mod_drop_1 : decode prog_13_method_18_code 1 = .ok (.istore_n 2, 1) := by decide +kernel
theorem d_Mod_drop_2 : decode prog_13_method_18_code 2 = .ok (.iconst 0, 1) := by decide +kernel
theorem d_Mod_drop_3 : decode prog_13_method_18_code 3 = .ok (.istore_n 3, 1) := by decide +kernel
theorem d_Mod_drop_4 : decode prog_13_method_18_code 4 = .ok (.iload_n 3, 1) := by decide +kernel
theorem d_Mod_drop_5 : decode prog_13_method_18_code 5 = .ok (.aload_n 0, 1) := by decide +kernel
theorem d_Mod_drop_6 : decode prog_13_method_18_code 6 = .ok (.getfield 171, 3) := by decide +kernel
theorem d_Mod_drop_9 : decode prog_13_method_18_code 9 = .ok (.if_icmp .ge (75), 3) := by decide +kernel
theorem d_Mod_drop_12 : decode prog_13_method_18_code 12 = .ok (.aload_n 0, 1) := by decide +kernel
theorem d_Mod_drop_13 : decode prog_13_method_18_code 13 = .ok (.getfield 35, 3) := by decide +kernel
theorem d_Mod_drop_16 : decode prog_13_method_18_code 16 = .ok (.iload_n 2, 1) := by decide +kernel
theorem d_Mod_drop_17 : decode prog_13_method_18_code 17 = .ok (.aload_n 0, 1) := by decide +kernel
theorem d_Mod_drop_18 : decode prog_13_method_18_code 18 = .ok (.getfield 35, 3) := by decide +kernel
theorem d_Mod_drop_21 : decode prog_13_method_18_code 21 = .ok (.iload_n 3, 1) := by decide +kernel
theorem d_Mod_drop_22 : decode prog_13_method_18_code 22 = .ok (.iaload, 1) := by decide +kernel
theorem d_Mod_drop_23 : decode prog_13_method_18_code 23 = .ok (.iastore, 1) := by decide +kernel
theorem d_Mod_drop_24 : decode prog_13_method_18_code 24 = .ok (.aload_n 0, 1) := by decide +kernel
theorem d_Mod_drop_25 : decode prog_13_method_18_code 25 = .ok (.getfield 38, 3) := by decide +kernel
theorem d_Mod_drop_28 : decode prog_13_method_18_code 28 = .ok (.iload_n 2, 1) := by decide +kernel
theorem d_Mod_drop_29 : decode prog_13_method_18_code 29 = .ok (.aload_n 0, 1) := by decide +kernel
theorem d_Mod_drop_30 : decode prog_13_method_18_code 30 = .ok (.getfield 38, 3) := by decide +kernel
theorem d_Mod_drop_33 : decode prog_13_method_18_code 33 = .ok (.iload_n 3, 1) := by decide +kernel
theorem d_Mod_drop_34 : decode prog_13_method_18_code 34 = .ok (.iaload, 1) := by decide +kernel
theorem d_Mod_drop_35 : decode prog_13_method_18_code 35 = .ok (.iastore, 1) := by decide +kernel
theorem d_Mod_drop_36 : decode prog_13_method_18_code 36 = .ok (.aload_n 0, 1) := by decide +kernel
theorem d_Mod_drop_37 : decode prog_13_method_18_code 37 = .ok (.getfield 41, 3) := by decide +kernel
theorem d_Mod_drop_40 : decode prog_13_method_18_code 40 = .ok (.iload_n 2, 1) := by decide +kernel
theorem d_Mod_drop_41 : decode prog_13_method_18_code 41 = .ok (.aload_n 0, 1) := by decide +kernel
theorem d_Mod_drop_42 : decode prog_13_method_18_code 42 = .ok (.getfield 41, 3) := by decide +kernel
theorem d_Mod_drop_45 : decode prog_13_method_18_code 45 = .ok (.iload_n 3, 1) := by decide +kernel
theorem d_Mod_drop_46 : decode prog_13_method_18_code 46 = .ok (.iaload, 1) := by decide +kernel
theorem d_Mod_drop_47 : decode prog_13_method_18_code 47 = .ok (.iastore, 1) := by decide +kernel
theorem d_Mod_drop_48 : decode prog_13_method_18_code 48 = .ok (.aload_n 0, 1) := by decide +kernel
theorem d_Mod_drop_49 : decode prog_13_method_18_code 49 = .ok (.getfield 44, 3) := by decide +kernel
theorem d_Mod_drop_52 : decode prog_13_method_18_code 52 = .ok (.iload_n 2, 1) := by decide +kernel
theorem d_Mod_drop_53 : decode prog_13_method_18_code 53 = .ok (.aload_n 0, 1) := by decide +kernel
theorem d_Mod_drop_54 : decode prog_13_method_18_code 54 = .ok (.getfield 44, 3) := by decide +kernel
theorem d_Mod_drop_57 : decode prog_13_method_18_code 57 = .ok (.iload_n 3, 1) := by decide +kernel
theorem d_Mod_drop_58 : decode prog_13_method_18_code 58 = .ok (.iaload, 1) := by decide +kernel
theorem d_Mod_drop_59 : decode prog_13_method_18_code 59 = .ok (.iastore, 1) := by decide +kernel
theorem d_Mod_drop_60 : decode prog_13_method_18_code 60 = .ok (.iload_n 2, 1) := by decide +kernel
theorem d_Mod_drop_61 : decode prog_13_method_18_code 61 = .ok (.aload_n 0, 1) := by decide +kernel
theorem d_Mod_drop_62 : decode prog_13_method_18_code 62 = .ok (.getfield 35, 3) := by decide +kernel
theorem d_Mod_drop_65 : decode prog_13_method_18_code 65 = .ok (.iload_n 3, 1) := by decide +kernel
theorem d_Mod_drop_66 : decode prog_13_method_18_code 66 = .ok (.iaload, 1) := by decide +kernel
theorem d_Mod_drop_67 : decode prog_13_method_18_code 67 = .ok (.iload_n 1, 1) := by decide +kernel
theorem d_Mod_drop_68 : decode prog_13_method_18_code 68 = .ok (.if_icmp .ne (7), 3) := by decide +kernel
theorem d_Mod_drop_71 : decode prog_13_method_18_code 71 = .ok (.iconst 0, 1) := by decide +kernel
theorem d_Mod_drop_72 : decode prog_13_method_18_code 72 = .ok (.goto (4), 3) := by decide +kernel
theorem d_Mod_drop_75 : decode prog_13_method_18_code 75 = .ok (.iconst 1, 1) := by decide +kernel
theorem d_Mod_drop_76 : decode prog_13_method_18_code 76 = .ok (.iadd, 1) := by decide +kernel
theorem d_Mod_drop_77 : decode prog_13_method_18_code 77 = .ok (.istore_n 2, 1) := by decide +kernel
theorem d_Mod_drop_78 : decode prog_13_method_18_code 78 = .ok (.iinc 3 (1), 3) := by decide +kernel
theorem d_Mod_drop_81 : decode prog_13_method_18_code 81 = .ok (.goto (-77), 3) := by decide +kernel
theorem d_Mod_drop_84 : decode prog_13_method_18_code 84 = .ok (.aload_n 0, 1) := by decide +kernel
theorem d_Mod_drop_85 : decode prog_13_method_18_code 85 = .ok (.iload_n 2, 1) := by decide +kernel
theorem d_Mod_drop_86 : decode prog_13_method_18_code 86 = .ok (.putfield 171, 3) := by decide +kernel
theorem d_Mod_drop_89 : decode prog_13_method_18_code 89 = .ok (.return_, 1) := by decide +kernel
theorem d_Mod_take_0 : decode prog_13_method_19_code 0 = .ok (.iload_n 1, 1) := by decide +kernel
theorem d_Mod_take_1 : decode prog_13_method_19_code 1 = .ok (.bipush (16), 2) := by decide +kernel
theorem d_Mod_take_3 : decode prog_13_method_19_code 3 = .ok (.if_icmp .ne (8), 3) := by decide +kernel
theorem d_Mod_take_6 : decode prog_13_method_19_code 6 = .ok (.aload_n 0, 1) := by decide +kernel
theorem d_Mod_take_7 : decode prog_13_method_19_code 7 = .ok (.invokevirtual 174, 3) := by decide +kernel
theorem d_Mod_take_10 : decode prog_13_method_19_code 10 = .ok (.return_, 1) := by decide +kernel
theorem d_Mod_take_11 : decode prog_13_method_19_code 11 = .ok (.iload_n 1, 1) := by decide +kernel
theorem d_Mod_take_12 : decode prog_13_method_19_code 12 = .ok (.bipush (9), 2) := by decide +kernel
theorem d_Mod_take_14 : decode prog_13_method_19_code 14 = .ok (.if_icmp .ne (9), 3) := by decide +kernel
theorem d_Mod_take_17 : decode prog_13_method_19_code 17 = .ok (.aload_n 0, 1) := by decide +kernel
theorem d_Mod_take_18 : decode prog_13_method_19_code 18 = .ok (.iload_n 2, 1) := by decide +kernel
theorem d_Mod_take_19 : decode prog_13_method_19_code 19 = .ok (.putfield 151, 3) := by decide +kernel
theorem d_Mod_take_22 : decode prog_13_method_19_code 22 = .ok (.return_, 1) := by decide +kernel
theorem d_Mod_take_23 : decode prog_13_method_19_code 23 = .ok (.aload_n 0, 1) := by decide +kernel
theorem d_Mod_take_24 : decode prog_13_method_19_code 24 = .ok (.getfield 54, 3) := by decide +kernel
theorem d_Mod_take_27 : decode prog_13_method_19_code 27 = .ok (.iconst 5, 1) := by decide +kernel
theorem d_Mod_take_28 : decode prog_13_method_19_code 28 = .ok (.baload, 1) := by decide +kernel
theorem d_Mod_take_29 : decode prog_13_method_19_code 29 = .ok (.ifCond .eq (14), 3) := by decide +kernel
theorem d_Mod_take_32 : decode prog_13_method_19_code 32 = .ok (.aload_n 0, 1) := by decide +kernel
theorem d_Mod_take_33 : decode prog_13_method_19_code 33 = .ok (.aload_n 0, 1) := by decide +kernel
theorem d_Mod_take_34 : decode prog_13_method_19_code 34 = .ok (.iconst 5, 1) := by decide +kernel
theorem d_Mod_take_35 : decode prog_13_method_19_code 35 = .ok (.iconst 0, 1) := by decide +kernel
theorem d_Mod_take_36 : decode prog_13_method_19_code 36 = .ok (.iconst 0, 1) := by decide +kernel
theorem d_Mod_take_37 : decode prog_13_method_19_code 37 = .ok (.invokevirtual 141, 3) := by decide +kernel
theorem d_Mod_take_40 : decode prog_13_method_19_code 40 = .ok (.invokevirtual 177, 3) := by decide +kernel
theorem d_Mod_take_43 : decode prog_13_method_19_code 43 = .ok (.aload_n 0, 1) := by decide +kernel
theorem d_Mod_take_44 : decode prog_13_method_19_code 44 = .ok (.getfield 54, 3) := by decide +kernel
theorem d_Mod_take_47 : decode prog_13_method_19_code 47 = .ok (.iconst 4, 1) := by decide +kernel
theorem d_Mod_take_48 : decode prog_13_method_19_code 48 = .ok (.baload, 1) := by decide +kernel
theorem d_Mod_take_49 : decode prog_13_method_19_code 49 = .ok (.ifCond .eq (88), 3) := by decide +kernel
theorem d_Mod_take_52 : decode prog_13_method_19_code 52 = .ok (.aload_n 0, 1) := by decide +kernel
theorem d_Mod_take_53 : decode prog_13_method_19_code 53 = .ok (.aload_n 0, 1) := by decide +kernel
theorem d_Mod_take_54 : decode prog_13_method_19_code 54 = .ok (.iconst 4, 1) := by decide +kernel
theorem d_Mod_take_55 : decode prog_13_method_19_code 55 = .ok (.iconst 0, 1) := by decide +kernel
theorem d_Mod_take_56 : decode prog_13_method_19_code 56 = .ok (.iconst 0, 1) := by decide +kernel
theorem d_Mod_take_57 : decode prog_13_method_19_code 57 = .ok (.invokevirtual 141, 3) := by decide +kernel
theorem d_Mod_take_60 : decode prog_13_method_19_code 60 = .ok (.invokevirtual 177, 3) := by decide +kernel
theorem d_Mod_take_63 : decode prog_13_method_19_code 63 = .ok (.aload_n 0, 1) := by decide +kernel
theorem d_Mod_take_64 : decode prog_13_method_19_code 64 = .ok (.getfield 35, 3) := by decide +kernel
theorem d_Mod_take_67 : decode prog_13_method_19_code 67 = .ok (.aload_n 0, 1) := by decide +kernel
theorem d_Mod_take_68 : decode prog_13_method_19_code 68 = .ok (.getfield 171, 3) := by decide +kernel
theorem d_Mod_take_71 : decode prog_13_method_19_code 71 = .ok (.aload_n 0, 1) := by decide +kernel
theorem d_Mod_take_72 : decode prog_13_method_19_code 72 = .ok (.iconst 4, 1) := by decide +kernel
theorem d_Mod_take_73 : decode prog_13_method_19_code 73 = .ok (.iconst 0, 1) := by decide +kernel
theorem d_Mod_take_74 : decode prog_13_method_19_code 74 = .ok (.iconst 0, 1) := by decide +kernel
theorem d_Mod_take_75 : decode prog_13_method_19_code 75 = .ok (.invokevirtual 141, 3) := by decide +kernel
theorem d_Mod_take_78 : decode prog_13_method_19_code 78 = .ok (.iastore, 1) := by decide +kernel
theorem d_Mod_take_79 : decode prog_13_method_19_code 79 = .ok (.aload_n 0, 1) := by decide +kernel
theorem d_Mod_take_80 : decode prog_13_method_19_code 80 = .ok (.getfield 38, 3) := by decide +kernel
theorem d_Mod_take_83 : decode prog_13_method_19_code 83 = .ok (.aload_n 0, 1) := by decide +kernel
theorem d_Mod_take_84 : decode prog_13_method_19_code 84 = .ok (.getfield 171, 3) := by decide +kernel
theorem d_Mod_take_87 : decode prog_13_method_19_code 87 = .ok (.aload_n 0, 1) := by decide +kernel
theorem d_Mod_take_88 : decode prog_13_method_19_code 88 = .ok (.iconst 4, 1) := by decide +kernel
theorem d_Mod_take_89 : decode prog_13_method_19_code 89 = .ok (.iconst 0, 1) := by decide +kernel
theorem d_Mod_take_90 : decode prog_13_method_19_code 90 = .ok (.iconst 1, 1) := by decide +kernel
theorem d_Mod_take_91 : decode prog_13_method_19_code 91 = .ok (.invokevirtual 141, 3) := by decide +kernel
theorem d_Mod_take_94 : decode prog_13_method_19_code 94 = .ok (.iastore, 1) := by decide +kernel
theorem d_Mod_take_95 : decode prog_13_method_19_code 95 = .ok (.aload_n 0, 1) := by decide +kernel
theorem d_Mod_take_96 : decode prog_13_method_19_code 96 = .ok (.getfield 41, 3) := by decide +kernel
theorem d_Mod_take_99 : decode prog_13_method_19_code 99 = .ok (.aload_n 0, 1) := by decide +kernel
theorem d_Mod_take_100 : decode prog_13_method_19_code 100 = .ok (.getfield 171, 3) := by decide +kernel
theorem d_Mod_take_103 : decode prog_13_method_19_code 103 = .ok (.aload_n 0, 1) := by decide +kernel
theorem d_Mod_take_104 : decode prog_13_method_19_code 104 = .ok (.iconst 4, 1) := by decide +kernel
theorem d_Mod_take_105 : decode prog_13_method_19_code 105 = .ok (.iconst 0, 1) := by decide +kernel
theorem d_Mod_take_106 : decode prog_13_method_19_code 106 = .ok (.iconst 2, 1) := by decide +kernel
theorem d_Mod_take_107 : decode prog_13_method_19_code 107 = .ok (.invokevirtual 141, 3) := by decide +kernel
theorem d_Mod_take_110 : decode prog_13_method_19_code 110 = .ok (.iastore, 1) := by decide +kernel
theorem d_Mod_take_111 : decode prog_13_method_19_code 111 = .ok (.aload_n 0, 1) := by decide +kernel
theorem d_Mod_take_112 : decode prog_13_method_19_code 112 = .ok (.getfield 44, 3) := by decide +kernel
theorem d_Mod_take_115 : decode prog_13_method_19_code 115 = .ok (.aload_n 0, 1) := by decide +kernel
theorem d_Mod_take_116 : decode prog_13_method_19_code 116 = .ok (.getfield 171, 3) := by decide +kernel
theorem d_Mod_take_119 : decode prog_13_method_19_code 119 = .ok (.aload_n 0, 1) := by decide +kernel
theorem d_Mod_take_120 : decode prog_13_method_19_code 120 = .ok (.iconst 4, 1) := by decide +kernel
theorem d_Mod_take_121 : decode prog_13_method_19_code 121 = .ok (.iconst 1, 1) := by decide +kernel
theorem d_Mod_take_122 : decode prog_13_method_19_code 122 = .ok (.iconst 0, 1) := by decide +kernel
theorem d_Mod_take_123 : decode prog_13_method_19_code 123 = .ok (.invokevirtual 141, 3) := by decide +kernel
theorem d_Mod_take_126 : decode prog_13_method_19_code 126 = .ok (.iastore, 1) := by decide +kernel
theorem d_Mod_take_127 : decode prog_13_method_19_code 127 = .ok (.aload_n 0, 1) := by decide +kernel
theorem d_Mod_take_128 : decode prog_13_method_19_code 128 = .ok (.dup, 1) := by decide +kernel
theorem d_Mod_take_129 : decode prog_13_method_19_code 129 = .ok (.getfield 171, 3) := by decide +kernel
theorem d_Mod_take_132 : decode prog_13_method_19_code 132 = .ok (.iconst 1, 1) := by decide +kernel
theorem d_Mod_take_133 : decode prog_13_method_19_code 133 = .ok (.iadd, 1) := by decide +kernel
theorem d_Mod_take_134 : decode prog_13_method_19_code 134 = .ok (.putfield 171, 3) := by decide +kernel
theorem d_Mod_take_137 : decode prog_13_method_19_code 137 = .ok (.aload_n 0, 1) := by decide +kernel
theorem d_Mod_take_138 : decode prog_13_method_19_code 138 = .ok (.invokevirtual 180, 3) := by decide +kernel
theorem d_Mod_take_141 : decode prog_13_method_19_code 141 = .ok (.aload_n 0, 1) := by decide +kernel
theorem d_Mod_take_142 : decode prog_13_method_19_code 142 = .ok (.getfield 54, 3) := by decide +kernel
theorem d_Mod_take_145 : decode prog_13_method_19_code 145 = .ok (.iconst 1, 1) := by decide +kernel
theorem d_Mod_take_146 : decode prog_13_method_19_code 146 = .ok (.baload, 1) := by decide +kernel
theorem d_Mod_take_147 : decode prog_13_method_19_code 147 = .ok (.ifCond .eq (41), 3) := by decide +kernel
theorem d_Mod_take_150 : decode prog_13_method_19_code 150 = .ok (.aload_n 0, 1) := by decide +kernel
theorem d_Mod_take_151 : decode prog_13_method_19_code 151 = .ok (.iconst 1, 1) := by decide +kernel
theorem d_Mod_take_152 : decode prog_13_method_19_code 152 = .ok (.putfield 88, 3) := by decide +kernel
theorem d_Mod_take_155 : decode prog_13_method_19_code 155 = .ok (.aload_n 0, 1) := by decide +kernel
theorem d_Mod_take_156 : decode prog_13_method_19_code 156 = .ok (.aload_n 0, 1) := by decide +kernel
theorem d_Mod_take_157 : decode prog_13_method_19_code 157 = .ok (.iconst 1, 1) := by decide +kernel
theorem d_Mod_take_158 : decode prog_13_method_19_code 158 = .ok (.iconst 0, 1) := by decide +kernel
theorem d_Mod_take_159 : decode prog_13_method_19_code 159 = .ok (.iconst 0, 1) := by decide +kernel
theorem d_Mod_take_160 : decode prog_13_method_19_code 160 = .ok (.invokevirtual 141, 3) := by decide +kernel
theorem d_Mod_take_163 : decode prog_13_method_19_code 163 = .ok (.putfield 151, 3) := by decide +kernel
theorem d_Mod_take_166 : decode prog_13_method_19_code 166 = .ok (.aload_n 0, 1) := by decide +kernel
theorem d_Mod_take_167 : decode prog_13_method_19_code 167 = .ok (.aload_n 0, 1) := by decide +kernel
theorem d_Mod_take_168 : decode prog_13_method_19_code 168 = .ok (.iconst 1, 1) := by decide +kernel
theorem d_Mod_take_169 : decode prog_13_method_19_code 169 = .ok (.iconst 0, 1) := by decide +kernel
theorem d_Mod_take_170 : decode prog_13_method_19_code 170 = .ok (.iconst 1, 1) := by decide +kernel
theorem d_Mod_take_171 : decode prog_13_method_19_code 171 = .ok (.invokevirtual 141, 3) := by decide +kernel
theorem d_Mod_take_174 : decode prog_13_method_19_code 174 = .ok (.putfield 183, 3) := by decide +kernel
theorem d_Mod_take_177 : decode prog_13_method_19_code 177 = .ok (.aload_n 0, 1) := by decide +kernel
theorem d_Mod_take_178 : decode prog_13_method_19_code 178 = .ok (.aload_n 0, 1) := by decide +kernel
theorem d_Mod_take_179 : decode prog_13_method_19_code 179 = .ok (.iconst 1, 1) := by decide +kernel
theorem d_Mod_take_180 : decode prog_13_method_19_code 180 = .ok (.iconst 0, 1) := by decide +kernel
theorem d_Mod_take_181 : decode prog_13_method_19_code 181 = .ok (.iconst 2, 1) := by decide +kernel
theorem d_Mod_take_182 : decode prog_13_method_19_code 182 = .ok (.invokevirtual 141, 3) := by decide +kernel
theorem d_Mod_take_185 : decode prog_13_method_19_code 185 = .ok (.putfield 108, 3) := by decide +kernel
theorem d_Mod_take_188 : decode prog_13_method_19_code 188 = .ok (.iload_n 1, 1) := by decide +kernel
theorem d_Mod_take_189 : decode prog_13_method_19_code 189 = .ok (.iconst 3, 1) := by decide +kernel
theorem d_Mod_take_190 : decode prog_13_method_19_code 190 = .ok (.if_icmp .ne (29), 3) := by decide +kernel
theorem d_Mod_take_193 : decode prog_13_method_19_code 193 = .ok (.aload_n 0, 1) := by decide +kernel
theorem d_Mod_take_194 : decode prog_13_method_19_code 194 = .ok (.getfield 92, 3) := by decide +kernel
theorem d_Mod_take_197 : decode prog_13_method_19_code 197 = .ok (.ifCond .le (22), 3) := by decide +kernel
theorem d_Mod_take_200 : decode prog_13_method_19_code 200 = .ok (.aload_n 0, 1) := by decide +kernel
theorem d_Mod_take_201 : decode prog_13_method_19_code 201 = .ok (.getfield 81, 3) := by decide +kernel
theorem d_Mod_take_204 : decode prog_13_method_19_code 204 = .ok (.iconst 1, 1) := by decide +kernel
theorem d_Mod_take_205 : decode prog_13_method_19_code 205 = .ok (.if_icmp .eq (10), 3) := by decide +kernel
theorem d_Mod_take_208 : decode prog_13_method_19_code 208 = .ok (.aload_n 0, 1) := by decide +kernel
theorem d_Mod_take_209 : decode prog_13_method_19_code 209 = .ok (.invokevirtual 154, 3) := by decide +kernel
theorem d_Mod_take_212 : decode prog_13_method_19_code 212 = .ok (.ifCond .eq (7), 3) := by decide +kernel
theorem d_Mod_take_215 : decode prog_13_method_19_code 215 = .ok (.aload_n 0, 1) := by decide +kernel
theorem d_Mod_take_216 : decode prog_13_method_19_code 216 = .ok (.invokevirtual 186, 3) := by decide +kernel
theorem d_Mod_take_219 : decode prog_13_method_19_code 219 = .ok (.return_, 1) := by decide +kernel
theorem d_Mod_lists_0 : decode prog_13_method_20_code 0 = .ok (.aload_n 0, 1) := by decide +kernel
theorem d_Mod_lists_1 : decode prog_13_method_20_code 1 = .ok (.aload_n 0, 1) := by decide +kernel
theorem d_Mod_lists_2 : decode prog_13_method_20_code 2 = .ok (.getfield 54, 3) := by decide +kernel
theorem d_Mod_lists_5 : decode prog_13_method_20_code 5 = .ok (.iconst 0, 1) := by decide +kernel
theorem d_Mod_lists_6 : decode prog_13_method_20_code 6 = .ok (.baload, 1) := by decide +kernel
theorem d_Mod_lists_7 : decode prog_13_method_20_code 7 = .ok (.ifCond .eq (12), 3) := by decide +kernel
theorem d_Mod_lists_10 : decode prog_13_method_20_code 10 = .ok (.aload_n 0, 1) := by decide +kernel
theorem d_Mod_lists_11 : decode prog_13_method_20_code 11 = .ok (.getfield 57, 3) := by decide +kernel
theorem d_Mod_lists_14 : decode prog_13_method_20_code 14 = .ok (.iconst 0, 1) := by decide +kernel
theorem d_Mod_lists_15 : decode prog_13_method_20_code 15 = .ok (.iaload, 1) := by decide +kernel
theorem d_Mod_lists_16 : decode prog_13_method_20_code 16 = .ok (.goto (7), 3) := by decide +kernel
theorem d_Mod_lists_19 : decode prog_13_method_20_code 19 = .ok (.aload_n 0, 1) := by decide +kernel
theorem d_Mod_lists_20 : decode prog_13_method_20_code 20 = .ok (.getfield 98, 3) := by decide +kernel
theorem d_Mod_lists_23 : decode prog_13_method_20_code 23 = .ok (.putfield 98, 3) := by decide +kernel
theorem d_Mod_lists_26 : decode prog_13_method_20_code 26 = .ok (.aload_n 0, 1) := by decide +kernel
theorem d_Mod_lists_27 : decode prog_13_method_20_code 27 = .ok (.aload_n 0, 1) := by decide +kernel
theorem d_Mod_lists_28 : decode prog_13_method_20_code 28 = .ok (.getfield 54, 3) := by decide +kernel
theorem d_Mod_lists_31 : decode prog_13_method_20_code 31 = .ok (.iconst 2, 1) := by decide +kernel
theorem d_Mod_lists_32 : decode prog_13_method_20_code 32 = .ok (.baload, 1) := by decide +kernel
theorem d_Mod_lists_33 : decode prog_13_method_20_code 33 = .ok (.ifCond .eq (12), 3) := by decide +kernel
theorem d_Mod_lists_36 : decode prog_13_method_20_code 36 = .ok (.aload_n 0, 1) := by decide +kernel
theorem d_Mod_lists_37 : decode prog_13_method_20_code 37 = .ok (.getfield 57, 3) := by decide +kernel
theorem d_Mod_lists_40 : decode prog_13_method_20_code 40 = .ok (.iconst 2, 1) := by decide +kernel
theorem d_Mod_lists_41 : decode prog_13_method_20_code 41 = .ok (.iaload, 1) := by decide +kernel
theorem d_Mod_lists_42 : decode prog_13_method_20_code 42 = .ok (.goto (7), 3) := by decide +kernel
theorem d_Mod_lists_45 : decode prog_13_method_20_code 45 = .ok (.aload_n 0, 1) := by decide +kernel
theorem d_Mod_lists_46 : decode prog_13_method_20_code 46 = .ok (.getfield 95, 3) := by decide +kernel
theorem d_Mod_lists_49 : decode prog_13_method_20_code 49 = .ok (.putfield 95, 3) := by decide +kernel
theorem d_Mod_lists_52 : decode prog_13_method_20_code 52 = .ok (.aload_n 0, 1) := by decide +kernel
theorem d_Mod_lists_53 : decode prog_13_method_20_code 53 = .ok (.aload_n 0, 1) := by decide +kernel
theorem d_Mod_lists_54 : decode prog_13_method_20_code 54 = .ok (.getfield 54, 3) := by decide +kernel
theorem d_Mod_lists_57 : decode prog_13_method_20_code 57 = .ok (.iconst 3, 1) := by decide +kernel
theorem d_Mod_lists_58 : decode prog_13_method_20_code 58 = .ok (.baload, 1) := by decide +kernel
theorem d_Mod_lists_59 : decode prog_13_method_20_code 59 = .ok (.ifCond .eq (12), 3) := by decide +kernel
theorem d_Mod_lists_62 : decode prog_13_method_20_code 62 = .ok (.aload_n 0, 1) := by decide +kernel
theorem d_Mod_lists_63 : decode prog_13_method_20_code 63 = .ok (.getfield 57, 3) := by decide +kernel
theorem d_Mod_lists_66 : decode prog_13_method_20_code 66 = .ok (.iconst 3, 1) := by decide +kernel
theorem d_Mod_lists_67 : decode prog_13_method_20_code 67 = .ok (.iaload, 1) := by decide +kernel
theorem d_Mod_lists_68 : decode prog_13_method_20_code 68 = .ok (.goto (7), 3) := by decide +kernel
theorem d_Mod_lists_71 : decode prog_13_method_20_code 71 = .ok (.aload_n 0, 1) := by decide +kernel
theorem d_Mod_lists_72 : decode prog_13_method_20_code 72 = .ok (.getfield 92, 3) := by decide +kernel
theorem d_Mod_lists_75 : decode prog_13_method_20_code 75 = .ok (.putfield 92, 3) := by decide +kernel
theorem d_Mod_lists_78 : decode prog_13_method_20_code 78 = .ok (.iconst 0, 1) := by decide +kernel
theorem d_Mod_lists_79 : decode prog_13_method_20_code 79 = .ok (.istore_n 1, 1) := by decide +kernel
theorem d_Mod_lists_80 : decode prog_13_method_20_code 80 = .ok (.iload_n 1, 1) := by decide +kernel
theorem d_Mod_lists_81 : decode prog_13_method_20_code 81 = .ok (.bipush (7), 2) := by decide +kernel
theorem d_Mod_lists_83 : decode prog_13_method_20_code 83 = .ok (.if_icmp .ge (182), 3) := by decide +kernel
theorem d_Mod_lists_86 : decode prog_13_method_20_code 86 = .ok (.aload_n 0, 1) := by decide +kernel
theorem d_Mod_lists_87 : decode prog_13_method_20_code 87 = .ok (.getfield 54, 3) := by decide +kernel
theorem d_Mod_lists_90 : decode prog_13_method_20_code 90 = .ok (.iconst 0, 1) := by decide +kernel
theorem d_Mod_lists_91 : decode prog_13_method_20_code 91 = .ok (.baload, 1) := by decide +kernel
theorem d_Mod_lists_92 : decode prog_13_method_20_code 92 = .ok (.ifCond .eq (81), 3) := by decide +kernel
theorem d_Mod_lists_95 : decode prog_13_method_20_code 95 = .ok (.iload_n 1, 1) := by decide +kernel
theorem d_Mod_lists_96 : decode prog_13_method_20_code 96 = .ok (.aload_n 0, 1) := by decide +kernel
theorem d_Mod_lists_97 : decode prog_13_method_20_code 97 = .ok (.getfield 98, 3) := by decide +kernel
theorem d_Mod_lists_100 : decode prog_13_method_20_code 100 = .ok (.if_icmp .ge (73), 3) := by decide +kernel
theorem d_Mod_lists_103 : decode prog_13_method_20_code 103 = .ok (.aload_n 0, 1) := by decide +kernel
theorem d_Mod_lists_104 : decode prog_13_method_20_code 104 = .ok (.getfield 22, 3) := by decide +kernel
theorem d_Mod_lists_107 : decode prog_13_method_20_code 107 = .ok (.iload_n 1, 1) := by decide +kernel
theorem d_Mod_lists_108 : decode prog_13_method_20_code 108 = .ok (.aload_n 0, 1) := by decide +kernel
theorem d_Mod_lists_109 : decode prog_13_method_20_code 109 = .ok (.iconst 0, 1) := by decide +kernel
theorem d_Mod_lists_110 : decode prog_13_method_20_code 110 = .ok (.iload_n 1, 1) := by decide +kernel
theorem d_Mod_lists_111 : decode prog_13_method_20_code 111 = .ok (.iconst 0, 1) := by decide +kernel
theorem d_Mod_lists_112 : decode prog_13_method_20_code 112 = .ok (.invokevirtual 141, 3) := by decide +kernel
theorem d_Mod_lists_115 : decode prog_13_method_20_code 115 = .ok (.iastore, 1) := by decide +kernel
theorem d_Mod_lists_116 : decode prog_13_method_20_code 116 = .ok (.aload_n 0, 1) := by decide +kernel
theorem d_Mod_lists_117 : decode prog_13_method_20_code 117 = .ok (.getfield 25, 3) := by decide +kernel
theorem d_Mod_lists_120 : decode prog_13_method_20_code 120 = .ok (.iload_n 1, 1) := by decide +kernel
theorem d_Mod_lists_121 : decode prog_13_method_20_code 121 = .ok (.aload_n 0, 1) := by decide +kernel
theorem d_Mod_lists_122 : decode prog_13_method_20_code 122 = .ok (.iconst 0, 1) := by decide +kernel
theorem d_Mod_lists_123 : decode prog_13_method_20_code 123 = .ok (.iload_n 1, 1) := by decide +kernel
theorem d_Mod_lists_124 : decode prog_13_method_20_code 124 = .ok (.iconst 1, 1) := by decide +kernel
theorem d_Mod_lists_125 : decode prog_13_method_20_code 125 = .ok (.invokevirtual 141, 3) := by decide +kernel
theorem d_Mod_lists_128 : decode prog_13_method_20_code 128 = .ok (.iastore, 1) := by decide +kernel
theorem d_Mod_lists_129 : decode prog_13_method_20_code 129 = .ok (.aload_n 0, 1) := by decide +kernel
theorem d_Mod_lists_130 : decode prog_13_method_20_code 130 = .ok (.getfield 28, 3) := by decide +kernel
theorem d_Mod_lists_133 : decode prog_13_method_20_code 133 = .ok (.iload_n 1, 1) := by decide +kernel
theorem d_Mod_lists_134 : decode prog_13_method_20_code 134 = .ok (.aload_n 0, 1) := by decide +kernel
theorem d_Mod_lists_135 : decode prog_13_method_20_code 135 = .ok (.iconst 0, 1) := by decide +kernel
theorem d_Mod_lists_136 : decode prog_13_method_20_code 136 = .ok (.iload_n 1, 1) := by decide +kernel
theorem d_Mod_lists_137 : decode prog_13_method_20_code 137 = .ok (.iconst 2, 1) := by decide +kernel
theorem d_Mod_lists_138 : decode prog_13_method_20_code 138 = .ok (.invokevirtual 141, 3) := by decide +kernel
theorem d_Mod_lists_141 : decode prog_13_method_20_code 141 = .ok (.iastore, 1) := by decide +kernel
theorem d_Mod_lists_142 : decode prog_13_method_20_code 142 = .ok (.aload_n 0, 1) := by decide +kernel
theorem d_Mod_lists_143 : decode prog_13_method_20_code 143 = .ok (.getfield 31, 3) := by decide +kernel
theorem d_Mod_lists_146 : decode prog_13_method_20_code 146 = .ok (.iload_n 1, 1) := by decide +kernel
theorem d_Mod_lists_147 : decode prog_13_method_20_code 147 = .ok (.aload_n 0, 1) := by decide +kernel
theorem d_Mod_lists_148 : decode prog_13_method_20_code 148 = .ok (.getfield 22, 3) := by decide +kernel
theorem d_Mod_lists_151 : decode prog_13_method_20_code 151 = .ok (.iload_n 1, 1) := by decide +kernel
theorem d_Mod_lists_152 : decode prog_13_method_20_code 152 = .ok (.iaload, 1) := by decide +kernel
theorem d_Mod_lists_153 : decode prog_13_method_20_code 153 = .ok (.aload_n 0, 1) := by decide +kernel
theorem d_Mod_lists_154 : decode prog_13_method_20_code 154 = .ok (.getfield 28, 3) := by decide +kernel
theorem d_Mod_lists_157 : decode prog_13_method_20_code 157 = .ok (.iload_n 1, 1) := by decide +kernel
theorem d_Mod_lists_158 : decode prog_13_method_20_code 158 = .ok (.iaload, 1) := by decide +kernel
theorem d_Mod_lists_159 : decode prog_13_method_20_code 159 = .ok (.iadd, 1) := by decide +kernel
theorem d_Mod_lists_160 : decode prog_13_method_20_code 160 = .ok (.aload_n 0, 1) := by decide +kernel
theorem d_Mod_lists_161 : decode prog_13_method_20_code 161 = .ok (.getfield 189, 3) := by decide +kernel
theorem d_Mod_lists_164 : decode prog_13_method_20_code 164 = .ok (.if_icmp .ge (7), 3) := by decide +kernel
theorem d_Mod_lists_167 : decode prog_13_method_20_code 167 = .ok (.iconst 1, 1) := by decide +kernel
theorem d_Mod_lists_168 : decode prog_13_method_20_code 168 = .ok (.goto (4), 3) := by decide +kernel
theorem d_Mod_lists_171 : decode prog_13_method_20_code 171 = .ok (.iconst 0, 1) := by decide +kernel
theorem d_Mod_lists_172 : decode prog_13_method_20_code 172 = .ok (.bastore, 1) := by decide +kernel
theorem d_Mod_lists_173 : decode prog_13_method_20_code 173 = .ok (.aload_n 0, 1) := by decide +kernel
theorem d_Mod_lists_174 : decode prog_13_method_20_code 174 = .ok (.getfield 54, 3) := by decide +kernel
theorem d_Mod_lists_177 : decode prog_13_method_20_code 177 = .ok (.iconst 2, 1) := by decide +kernel
theorem d_Mod_lists_178 : decode prog_13_method_20_code 178 = .ok (.baload, 1) := by decide +kernel
theorem d_Mod_lists_179 : decode prog_13_method_20_code 179 = .ok (.ifCond .eq (37), 3) := by decide +kernel
theorem d_Mod_lists_182 : decode prog_13_method_20_code 182 = .ok (.iload_n 1, 1) := by decide +kernel
theorem d_Mod_lists_183 : decode prog_13_method_20_code 183 = .ok (.aload_n 0, 1) := by decide +kernel
theorem d_Mod_lists_184 : decode prog_13_method_20_code 184 = .ok (.getfield 95, 3) := by decide +kernel
theorem d_Mod_lists_187 : decode prog_13_method_20_code 187 = .ok (.if_icmp .ge (29), 3) := by decide +kernel
theorem d_Mod_lists_190 : decode prog_13_method_20_code 190 = .ok (.aload_n 0, 1) := by decide +kernel
theorem d_Mod_lists_191 : decode prog_13_method_20_code 191 = .ok (.getfield 16, 3) := by decide +kernel
theorem d_Mod_lists_194 : decode prog_13_method_20_code 194 = .ok (.iload_n 1, 1) := by decide +kernel
theorem d_Mod_lists_195 : decode prog_13_method_20_code 195 = .ok (.aload_n 0, 1) := by decide +kernel
theorem d_Mod_lists_196 : decode prog_13_method_20_code 196 = .ok (.iconst 2, 1) := by decide +kernel
theorem d_Mod_lists_197 : decode prog_13_method_20_code 197 = .ok (.iload_n 1, 1) := by decide +kernel
theorem d_Mod_lists_198 : decode prog_13_method_20_code 198 = .ok (.iconst 0, 1) := by decide +kernel
theorem d_Mod_lists_199 : decode prog_13_method_20_code 199 = .ok (.invokevirtual 141, 3) := by decide +kernel
theorem d_Mod_lists_202 : decode prog_13_method_20_code 202 = .ok (.iastore, 1) := by decide +kernel
theorem d_Mod_lists_203 : decode prog_13_method_20_code 203 = .ok (.aload_n 0, 1) := by decide +kernel
theorem d_Mod_lists_204 : decode prog_13_method_20_code 204 = .ok (.getfield 19, 3) := by decide +kernel
theorem d_Mod_lists_207 : decode prog_13_method_20_code 207 = .ok (.iload_n 1, 1) := by decide +kernel
theorem d_Mod_lists_208 : decode prog_13_method_20_code 208 = .ok (.aload_n 0, 1) := by decide +kernel
theorem d_Mod_lists_209 : decode prog_13_method_20_code 209 = .ok (.iconst 2, 1) := by decide +kernel
theorem d_Mod_lists_210 : decode prog_13_method_20_code 210 = .ok (.iload_n 1, 1) := by decide +kernel
theorem d_Mod_lists_211 : decode prog_13_method_20_code 211 = .ok (.iconst 1, 1) := by decide +kernel
theorem d_Mod_lists_212 : decode prog_13_method_20_code 212 = .ok (.invokevirtual 141, 3) := by decide +kernel
theorem d_Mod_lists_215 : decode prog_13_method_20_code 215 = .ok (.iastore, 1) := by decide +kernel
theorem d_Mod_lists_216 : decode prog_13_method_20_code 216 = .ok (.aload_n 0, 1) := by decide +kernel
theorem d_Mod_lists_217 : decode prog_13_method_20_code 217 = .ok (.getfield 54, 3) := by decide +kernel
theorem d_Mod_lists_220 : decode prog_13_method_20_code 220 = .ok (.iconst 3, 1) := by decide +kernel
theorem d_Mod_lists_221 : decode prog_13_method_20_code 221 = .ok (.baload, 1) := by decide +kernel
theorem d_Mod_lists_222 : decode prog_13_method_20_code 222 = .ok (.ifCond .eq (37), 3) := by decide +kernel
theorem d_Mod_lists_225 : decode prog_13_method_20_code 225 = .ok (.iload_n 1, 1) := by decide +kernel
theorem d_Mod_lists_226 : decode prog_13_method_20_code 226 = .ok (.aload_n 0, 1) := by decide +kernel
theorem d_Mod_lists_227 : decode prog_13_method_20_code 227 = .ok (.getfield 92, 3) := by decide +kernel
theorem d_Mod_lists_230 : decode prog_13_method_20_code 230 = .ok (.if_icmp .ge (29), 3) := by decide +kernel
theorem d_Mod_lists_233 : decode prog_13_method_20_code 233 = .ok (.aload_n 0, 1) := by decide +kernel
theorem d_Mod_lists_234 : decode prog_13_method_20_code 234 = .ok (.getfield 7, 3) := by decide +kernel
theorem d_Mod_lists_237 : decode prog_13_method_20_code 237 = .ok (.iload_n 1, 1) := by decide +kernel
theorem d_Mod_lists_238 : decode prog_13_method_20_code 238 = .ok (.aload_n 0, 1) := by decide +kernel
theorem d_Mod_lists_239 : decode prog_13_method_20_code 239 = .ok (.iconst 3, 1) := by decide +kernel
theorem d_Mod_lists_240 : decode prog_13_method_20_code 240 = .ok (.iload_n 1, 1) := by decide +kernel
theorem d_Mod_lists_241 : decode prog_13_method_20_code 241 = .ok (.iconst 0, 1) := by decide +kernel
theorem d_Mod_lists_242 : decode prog_13_method_20_code 242 = .ok (.invokevirtual 141, 3) := by decide +kernel
theorem d_Mod_lists_245 : decode prog_13_method_20_code 245 = .ok (.iastore, 1) := by decide +kernel
theorem d_Mod_lists_246 : decode prog_13_method_20_code 246 = .ok (.aload_n 0, 1) := by decide +kernel
theorem d_Mod_lists_247 : decode prog_13_method_20_code 247 = .ok (.getfield 13, 3) := by decide +kernel
theorem d_Mod_lists_250 : decode prog_13_method_20_code 250 = .ok (.iload_n 1, 1) := by decide +kernel
theorem d_Mod_lists_251 : decode prog_13_method_20_code 251 = .ok (.aload_n 0, 1) := by decide +kernel
theorem d_Mod_lists_252 : decode prog_13_method_20_code 252 = .ok (.iconst 3, 1) := by decide +kernel
theorem d_Mod_lists_253 : decode prog_13_method_20_code 253 = .ok (.iload_n 1, 1) := by decide +kernel
theorem d_Mod_lists_254 : decode prog_13_method_20_code 254 = .ok (.iconst 1, 1) := by decide +kernel
theorem d_Mod_lists_255 : decode prog_13_method_20_code 255 = .ok (.invokevirtual 141, 3) := by decide +kernel
theorem d_Mod_lists_258 : decode prog_13_method_20_code 258 = .ok (.iastore, 1) := by decide +kernel
theorem d_Mod_lists_259 : decode prog_13_method_20_code 259 = .ok (.iinc 1 (1), 3) := by decide +kernel
theorem d_Mod_lists_262 : decode prog_13_method_20_code 262 = .ok (.goto (-182), 3) := by decide +kernel
theorem d_Mod_lists_265 : decode prog_13_method_20_code 265 = .ok (.return_, 1) := by decide +kernel
theorem d_Mod_least_0 : decode prog_13_method_21_code 0 = .ok (.sipush (600), 3) := by decide +kernel
theorem d_Mod_least_3 : decode prog_13_method_21_code 3 = .ok (.istore_n 3, 1) := by decide +kernel
theorem d_Mod_least_4 : decode prog_13_method_21_code 4 = .ok (.iconst 0, 1) := by decide +kernel
theorem d_Mod_least_5 : decode prog_13_method_21_code 5 = .ok (.istore 4, 2) := by decide +kernel
theorem d_Mod_least_7 : decode prog_13_method_21_code 7 = .ok (.iload 4, 2) := by decide +kernel
theorem d_Mod_least_9 : decode prog_13_method_21_code 9 = .ok (.aload_n 0, 1) := by decide +kernel
theorem d_Mod_least_10 : decode prog_13_method_21_code 10 = .ok (.getfield 92, 3) := by decide +kernel
theorem d_Mod_least_13 : decode prog_13_method_21_code 13 = .ok (.if_icmp .ge (79), 3) := by decide +kernel
theorem d_Mod_least_16 : decode prog_13_method_21_code 16 = .ok (.aload_n 0, 1) := by decide +kernel
theorem d_Mod_least_17 : decode prog_13_method_21_code 17 = .ok (.getfield 7, 3) := by decide +kernel
theorem d_Mod_least_20 : decode prog_13_method_21_code 20 = .ok (.iload 4, 2) := by decide +kernel
theorem d_Mod_least_22 : decode prog_13_method_21_code 22 = .ok (.iaload, 1) := by decide +kernel
theorem d_Mod_least_23 : decode prog_13_method_21_code 23 = .ok (.iload_n 2, 1) := by decide +kernel
theorem d_Mod_least_24 : decode prog_13_method_21_code 24 = .ok (.if_icmp .gt (31), 3) := by decide +kernel
theorem d_Mod_least_27 : decode prog_13_method_21_code 27 = .ok (.iload 4, 2) := by decide +kernel
theorem d_Mod_least_29 : decode prog_13_method_21_code 29 = .ok (.iconst 1, 1) := by decide +kernel
theorem d_Mod_least_30 : decode prog_13_method_21_code 30 = .ok (.iadd, 1) := by decide +kernel
theorem d_Mod_least_31 : decode prog_13_method_21_code 31 = .ok (.aload_n 0, 1) := by decide +kernel
theorem d_Mod_least_32 : decode prog_13_method_21_code 32 = .ok (.getfield 92, 3) := by decide +kernel
theorem d_Mod_least_35 : decode prog_13_method_21_code 35 = .ok (.if_icmp .eq (16), 3) := by decide +kernel
theorem d_Mod_least_38 : decode prog_13_method_21_code 38 = .ok (.aload_n 0, 1) := by decide +kernel
theorem d_Mod_least_39 : decode prog_13_method_21_code 39 = .ok (.getfield 7, 3) := by decide +kernel
theorem d_Mod_least_42 : decode prog_13_method_21_code 42 = .ok (.iload 4, 2) := by decide +kernel
theorem d_Mod_least_44 : decode prog_13_method_21_code 44 = .ok (.iconst 1, 1) := by decide +kernel
theorem d_Mod_least_45 : decode prog_13_method_21_code 45 = .ok (.iadd, 1) := by decide +kernel
theorem d_Mod_least_46 : decode prog_13_method_21_code 46 = .ok (.iaload, 1) := by decide +kernel
theorem d_Mod_least_47 : decode prog_13_method_21_code 47 = .ok (.iload_n 1, 1) := by decide +kernel
theorem d_Mod_least_48 : decode prog_13_method_21_code 48 = .ok (.if_icmp .le (7), 3) := by decide +kernel
theorem d_Mod_least_51 : decode prog_13_method_21_code 51 = .ok (.iconst 1, 1) := by decide +kernel
theorem d_Mod_least_52 : decode prog_13_method_21_code 52 = .ok (.goto (4), 3) := by decide +kernel
theorem d_Mod_least_55 : decode prog_13_method_21_code 55 = .ok (.iconst 0, 1) := by decide +kernel
theorem d_Mod_least_56 : decode prog_13_method_21_code 56 = .ok (.istore 5, 2) := by decide +kernel
theorem d_Mod_least_58 : decode prog_13_method_21_code 58 = .ok (.iload 5, 2) := by decide +kernel
theorem d_Mod_least_60 : decode prog_13_method_21_code 60 = .ok (.ifCond .eq (24), 3) := by decide +kernel
theorem d_Mod_least_63 : decode prog_13_method_21_code 63 = .ok (.aload_n 0, 1) := by decide +kernel
theorem d_Mod_least_64 : decode prog_13_method_21_code 64 = .ok (.getfield 13, 3) := by decide +kernel
theorem d_Mod_least_67 : decode prog_13_method_21_code 67 = .ok (.iload 4, 2) := by decide +kernel
theorem d_Mod_least_69 : decode prog_13_method_21_code 69 = .ok (.iaload, 1) := by decide +kernel
theorem d_Mod_least_70 : decode prog_13_method_21_code 70 = .ok (.iload_n 3, 1) := by decide +kernel
theorem d_Mod_least_71 : decode prog_13_method_21_code 71 = .ok (.if_icmp .ge (13), 3) := by decide +kernel
theorem d_Mod_least_74 : decode prog_13_method_21_code 74 = .ok (.aload_n 0, 1) := by decide +kernel
theorem d_Mod_least_75 : decode prog_13_method_21_code 75 = .ok (.getfield 13, 3) := by decide +kernel
theorem d_Mod_least_78 : decode prog_13_method_21_code 78 = .ok (.iload 4, 2) := by decide +kernel
theorem d_Mod_least_80 : decode prog_13_method_21_code 80 = .ok (.iaload, 1) := by decide +kernel
theorem d_Mod_least_81 : decode prog_13_method_21_code 81 = .ok (.goto (4), 3) := by decide +kernel
theorem d_Mod_least_84 : decode prog_13_method_21_code 84 = .ok (.iload_n 3, 1) := by decide +kernel
theorem d_Mod_least_85 : decode prog_13_method_21_code 85 = .ok (.istore_n 3, 1) := by decide +kernel
theorem d_Mod_least_86 : decode prog_13_method_21_code 86 = .ok (.iinc 4 (1), 3) := by decide +kernel
theorem d_Mod_least_89 : decode prog_13_method_21_code 89 = .ok (.goto (-82), 3) := by decide +kernel
theorem d_Mod_least_92 : decode prog_13_method_21_code 92 = .ok (.iconst 0, 1) := by decide +kernel
theorem d_Mod_least_93 : decode prog_13_method_21_code 93 = .ok (.istore 4, 2) := by decide +kernel
theorem d_Mod_least_95 : decode prog_13_method_21_code 95 = .ok (.iload 4, 2) := by decide +kernel
theorem d_Mod_least_97 : decode prog_13_method_21_code 97 = .ok (.aload_n 0, 1) := by decide +kernel
theorem d_Mod_least_98 : decode prog_13_method_21_code 98 = .ok (.getfield 171, 3) := by decide +kernel
theorem d_Mod_least_101 : decode prog_13_method_21_code 101 = .ok (.if_icmp .ge (74), 3) := by decide +kernel
theorem d_Mod_least_104 : decode prog_13_method_21_code 104 = .ok (.aload_n 0, 1) := by decide +kernel
theorem d_Mod_least_105 : decode prog_13_method_21_code 105 = .ok (.getfield 38, 3) := by decide +kernel
theorem d_Mod_least_108 : decode prog_13_method_21_code 108 = .ok (.iload 4, 2) := by decide +kernel
theorem d_Mod_least_110 : decode prog_13_method_21_code 110 = .ok (.iaload, 1) := by decide +kernel
theorem d_Mod_least_111 : decode prog_13_method_21_code 111 = .ok (.iload_n 2, 1) := by decide +kernel
theorem d_Mod_least_112 : decode prog_13_method_21_code 112 = .ok (.if_icmp .gt (26), 3) := by decide +kernel
theorem d_Mod_least_115 : decode prog_13_method_21_code 115 = .ok (.aload_n 0, 1) := by decide +kernel
theorem d_Mod_least_116 : decode prog_13_method_21_code 116 = .ok (.getfield 38, 3) := by decide +kernel
theorem d_Mod_least_119 : decode prog_13_method_21_code 119 = .ok (.iload 4, 2) := by decide +kernel
theorem d_Mod_least_121 : decode prog_13_method_21_code 121 = .ok (.iaload, 1) := by decide +kernel
theorem d_Mod_least_122 : decode prog_13_method_21_code 122 = .ok (.aload_n 0, 1) := by decide +kernel
theorem d_Mod_least_123 : decode prog_13_method_21_code 123 = .ok (.getfield 41, 3) := by decide +kernel
theorem d_Mod_least_126 : decode prog_13_method_21_code 126 = .ok (.iload 4, 2) := by decide +kernel
theorem d_Mod_least_128 : decode prog_13_method_21_code 128 = .ok (.iaload, 1) := by decide +kernel
theorem d_Mod_least_129 : decode prog_13_method_21_code 129 = .ok (.iadd, 1) := by decide +kernel
theorem d_Mod_least_130 : decode prog_13_method_21_code 130 = .ok (.iload_n 1, 1) := by decide +kernel
theorem d_Mod_least_131 : decode prog_13_method_21_code 131 = .ok (.if_icmp .le (7), 3) := by decide +kernel
theorem d_Mod_least_134 : decode prog_13_method_21_code 134 = .ok (.iconst 1, 1) := by decide +kernel
theorem d_Mod_least_135 : decode prog_13_method_21_code 135 = .ok (.goto (4), 3) := by decide +kernel
theorem d_Mod_least_138 : decode prog_13_method_21_code 138 = .ok (.iconst 0, 1) := by decide +kernel
theorem d_Mod_least_139 : decode prog_13_method_21_code 139 = .ok (.istore 5, 2) := by decide +kernel
theorem d_Mod_least_141 : decode prog_13_method_21_code 141 = .ok (.iload 5, 2) := by decide +kernel
theorem d_Mod_least_143 : decode prog_13_method_21_code 143 = .ok (.ifCond .eq (24), 3) := by decide +kernel
theorem d_Mod_least_146 : decode prog_13_method_21_code 146 = .ok (.aload_n 0, 1) := by decide +kernel
theorem d_Mod_least_147 : decode prog_13_method_21_code 147 = .ok (.getfield 44, 3) := by decide +kernel
theorem d_Mod_least_150 : decode prog_13_method_21_code 150 = .ok (.iload 4, 2) := by decide +kernel
theorem d_Mod_least_152 : decode prog_13_method_21_code 152 = .ok (.iaload, 1) := by decide +kernel
theorem d_Mod_least_153 : decode prog_13_method_21_code 153 = .ok (.iload_n 3, 1) := by decide +kernel
theorem d_Mod_least_154 : decode prog_13_method_21_code 154 = .ok (.if_icmp .ge (13), 3) := by decide +kernel
theorem d_Mod_least_157 : decode prog_13_method_21_code 157 = .ok (.aload_n 0, 1) := by decide +kernel
theorem d_Mod_least_158 : decode prog_13_method_21_code 158 = .ok (.getfield 44, 3) := by decide +kernel
theorem d_Mod_least_161 : decode prog_13_method_21_code 161 = .ok (.iload 4, 2) := by decide +kernel
theorem d_Mod_least_163 : decode prog_13_method_21_code 163 = .ok (.iaload, 1) := by decide +kernel
theorem d_Mod_least_164 : decode prog_13_method_21_code 164 = .ok (.goto (4), 3) := by decide +kernel
theorem d_Mod_least_167 : decode prog_13_method_21_code 167 = .ok (.iload_n 3, 1) := by decide +kernel
theorem d_Mod_least_168 : decode prog_13_method_21_code 168 = .ok (.istore_n 3, 1) := by decide +kernel
theorem d_Mod_least_169 : decode prog_13_method_21_code 169 = .ok (.iinc 4 (1), 3) := by decide +kernel
theorem d_Mod_least_172 : decode prog_13_method_21_code 172 = .ok (.goto (-77), 3) := by decide +kernel
theorem d_Mod_least_175 : decode prog_13_method_21_code 175 = .ok (.iload_n 3, 1) := by decide +kernel
theorem d_Mod_least_176 : decode prog_13_method_21_code 176 = .ok (.ireturn, 1) := by decide +kernel
theorem d_Mod_limit_0 : decode prog_13_method_22_code 0 = .ok (.iload_n 1, 1) := by decide +kernel
theorem d_Mod_limit_1 : decode prog_13_method_22_code 1 = .ok (.ifCond .ge (9), 3) := by decide +kernel
theorem d_Mod_limit_4 : decode prog_13_method_22_code 4 = .ok (.sipush (600), 3) := by decide +kernel
theorem d_Mod_limit_7 : decode prog_13_method_22_code 7 = .ok (.goto (9), 3) := by decide +kernel
theorem d_Mod_limit_10 : decode prog_13_method_22_code 10 = .ok (.aload_n 0, 1) := by decide +kernel
theorem d_Mod_limit_11 : decode prog_13_method_22_code 11 = .ok (.iload_n 1, 1) := by decide +kernel
theorem d_Mod_limit_12 : decode prog_13_method_22_code 12 = .ok (.iload_n 1, 1) := by decide +kernel
theorem d_Mod_limit_13 : decode prog_13_method_22_code 13 = .ok (.invokevirtual 192, 3) := by decide +kernel
theorem d_Mod_limit_16 : decode prog_13_method_22_code 16 = .ok (.ireturn, 1) := by decide +kernel
theorem d_Mod_ceiling_0 : decode prog_13_method_23_code 0 = .ok (.aload_n 0, 1) := by decide +kernel
theorem d_Mod_ceiling_1 : decode prog_13_method_23_code 1 = .ok (.invokevirtual 154, 3) := by decide +kernel
theorem d_Mod_ceiling_4 : decode prog_13_method_23_code 4 = .ok (.ifCond .ne (18), 3) := by decide +kernel
theorem d_Mod_ceiling_7 : decode prog_13_method_23_code 7 = .ok (.aload_n 0, 1) := by decide +kernel
theorem d_Mod_ceiling_8 : decode prog_13_method_23_code 8 = .ok (.getfield 81, 3) := by decide +kernel
theorem d_Mod_ceiling_11 : decode prog_13_method_23_code 11 = .ok (.iconst 1, 1) := by decide +kernel
theorem d_Mod_ceiling_12 : decode prog_13_method_23_code 12 = .ok (.if_icmp .ne (8), 3) := by decide +kernel
theorem d_Mod_ceiling_15 : decode prog_13_method_23_code 15 = .ok (.bipush (80), 2) := by decide +kernel
theorem d_Mod_ceiling_17 : decode prog_13_method_23_code 17 = .ok (.goto (4), 3) := by decide +kernel
theorem d_Mod_ceiling_20 : decode prog_13_method_23_code 20 = .ok (.iconst 0, 1) := by decide +kernel
theorem d_Mod_ceiling_21 : decode prog_13_method_23_code 21 = .ok (.ireturn, 1) := by decide +kernel
theorem d_Mod_ceiling_22 : decode prog_13_method_23_code 22 = .ok (.aload_n 0, 1) := by decide +kernel
theorem d_Mod_ceiling_23 : decode prog_13_method_23_code 23 = .ok (.aload_n 0, 1) := by decide +kernel
theorem d_Mod_ceiling_24 : decode prog_13_method_23_code 24 = .ok (.getfield 189, 3) := by decide +kernel
theorem d_Mod_ceiling_27 : decode prog_13_method_23_code 27 = .ok (.aload_n 0, 1) := by decide +kernel
theorem d_Mod_ceiling_28 : decode prog_13_method_23_code 28 = .ok (.getfield 72, 3) := by decide +kernel
theorem d_Mod_ceiling_31 : decode prog_13_method_23_code 31 = .ok (.isub, 1) := by decide +kernel
theorem d_Mod_ceiling_32 : decode prog_13_method_23_code 32 = .ok (.aload_n 0, 1) := by decide +kernel
theorem d_Mod_ceiling_33 : decode prog_13_method_23_code 33 = .ok (.getfield 195, 3) := by decide +kernel
theorem d_Mod_ceiling_36 : decode prog_13_method_23_code 36 = .ok (.invokevirtual 192, 3) := by decide +kernel
theorem d_Mod_ceiling_39 : decode prog_13_method_23_code 39 = .ok (.istore_n 1, 1) := by decide +kernel
theorem d_Mod_ceiling_40 : decode prog_13_method_23_code 40 = .ok (.aload_n 0, 1) := by decide +kernel
theorem d_Mod_ceiling_41 : decode prog_13_method_23_code 41 = .ok (.getfield 81, 3) := by decide +kernel
theorem d_Mod_ceiling_44 : decode prog_13_method_23_code 44 = .ok (.iconst 3, 1) := by decide +kernel
theorem d_Mod_ceiling_45 : decode prog_13_method_23_code 45 = .ok (.if_icmp .ne (14), 3) := by decide +kernel
theorem d_Mod_ceiling_48 : decode prog_13_method_23_code 48 = .ok (.iload_n 1, 1) := by decide +kernel
theorem d_Mod_ceiling_49 : decode prog_13_method_23_code 49 = .ok (.bipush (60), 2) := by decide +kernel
theorem d_Mod_ceiling_51 : decode prog_13_method_23_code 51 = .ok (.if_icmp .le (8), 3) := by decide +kernel
theorem d_Mod_ceiling_54 : decode prog_13_method_23_code 54 = .ok (.bipush (60), 2) := by decide +kernel
theorem d_Mod_ceiling_56 : decode prog_13_method_23_code 56 = .ok (.goto (4), 3) := by decide +kernel
theorem d_Mod_ceiling_59 : decode prog_13_method_23_code 59 = .ok (.iload_n 1, 1) := by decide +kernel
theorem d_Mod_ceiling_60 : decode prog_13_method_23_code 60 = .ok (.ireturn, 1) := by decide +kernel
theorem d_Mod_fall_0 : decode prog_13_method_24_code 0 = .ok (.iconst 0, 1) := by decide +kernel
theorem d_Mod_fall_1 : decode prog_13_method_24_code 1 = .ok (.istore_n 2, 1) := by decide +kernel
theorem d_Mod_fall_2 : decode prog_13_method_24_code 2 = .ok (.iconst 0, 1) := by decide +kernel
theorem d_Mod_fall_3 : decode prog_13_method_24_code 3 = .ok (.istore_n 3, 1) := by decide +kernel
theorem d_Mod_fall_4 : decode prog_13_method_24_code 4 = .ok (.iload_n 3, 1) := by decide +kernel
theorem d_Mod_fall_5 : decode prog_13_method_24_code 5 = .ok (.aload_n 0, 1) := by decide +kernel
theorem d_Mod_fall_6 : decode prog_13_method_24_code 6 = .ok (.getfield 95, 3) := by decide +kernel
theorem d_Mod_fall_9 : decode prog_13_method_24_code 9 = .ok (.if_icmp .ge (82), 3) := by decide +kernel
theorem d_Mod_fall_12 : decode prog_13_method_24_code 12 = .ok (.aload_n 0, 1) := by decide +kernel
theorem d_Mod_fall_13 : decode prog_13_method_24_code 13 = .ok (.getfield 16, 3) := by decide +kernel
theorem d_Mod_fall_16 : decode prog_13_method_24_code 16 = .ok (.iload_n 3, 1) := by decide +kernel
theorem d_Mod_fall_17 : decode prog_13_method_24_code 17 = .ok (.iaload, 1) := by decide +kernel
theorem d_Mod_fall_18 : decode prog_13_method_24_code 18 = .ok (.iload_n 1, 1) := by decide +kernel
theorem d_Mod_fall_19 : decode prog_13_method_24_code 19 = .ok (.if_icmp .gt (37), 3) := by decide +kernel
theorem d_Mod_fall_22 : decode prog_13_method_24_code 22 = .ok (.iload_n 3, 1) := by decide +kernel
theorem d_Mod_fall_23 : decode prog_13_method_24_code 23 = .ok (.iconst 1, 1) := by decide +kernel
theorem d_Mod_fall_24 : decode prog_13_method_24_code 24 = .ok (.iadd, 1) := by decide +kernel
theorem d_Mod_fall_25 : decode prog_13_method_24_code 25 = .ok (.aload_n 0, 1) := by decide +kernel
theorem d_Mod_fall_26 : decode prog_13_method_24_code 26 = .ok (.getfield 95, 3) := by decide +kernel
theorem d_Mod_fall_29 : decode prog_13_method_24_code 29 = .ok (.if_icmp .eq (23), 3) := by decide +kernel
theorem d_Mod_fall_32 : decode prog_13_method_24_code 32 = .ok (.aload_n 0, 1) := by decide +kernel
theorem d_Mod_fall_33 : decode prog_13_method_24_code 33 = .ok (.getfield 16, 3) := by decide +kernel
theorem d_Mod_fall_36 : decode prog_13_method_24_code 36 = .ok (.iload_n 3, 1) := by decide +kernel
theorem d_Mod_fall_37 : decode prog_13_method_24_code 37 = .ok (.iconst 1, 1) := by decide +kernel
theorem d_Mod_fall_38 : decode prog_13_method_24_code 38 = .ok (.iadd, 1) := by decide +kernel
theorem d_Mod_fall_39 : decode prog_13_method_24_code 39 = .ok (.iaload, 1) := by decide +kernel
theorem d_Mod_fall_40 : decode prog_13_method_24_code 40 = .ok (.aload_n 0, 1) := by decide +kernel
theorem d_Mod_fall_41 : decode prog_13_method_24_code 41 = .ok (.getfield 189, 3) := by decide +kernel
theorem d_Mod_fall_44 : decode prog_13_method_24_code 44 = .ok (.aload_n 0, 1) := by decide +kernel
theorem d_Mod_fall_45 : decode prog_13_method_24_code 45 = .ok (.getfield 72, 3) := by decide +kernel
theorem d_Mod_fall_48 : decode prog_13_method_24_code 48 = .ok (.isub, 1) := by decide +kernel
theorem d_Mod_fall_49 : decode prog_13_method_24_code 49 = .ok (.if_icmp .le (7), 3) := by decide +kernel
theorem d_Mod_fall_52 : decode prog_13_method_24_code 52 = .ok (.iconst 1, 1) := by decide +kernel
theorem d_Mod_fall_53 : decode prog_13_method_24_code 53 = .ok (.goto (4), 3) := by decide +kernel
theorem d_Mod_fall_56 : decode prog_13_method_24_code 56 = .ok (.iconst 0, 1) := by decide +kernel
theorem d_Mod_fall_57 : decode prog_13_method_24_code 57 = .ok (.istore 4, 2) := by decide +kernel
theorem d_Mod_fall_59 : decode prog_13_method_24_code 59 = .ok (.iload 4, 2) := by decide +kernel
theorem d_Mod_fall_61 : decode prog_13_method_24_code 61 = .ok (.ifCond .eq (22), 3) := by decide +kernel
theorem d_Mod_fall_64 : decode prog_13_method_24_code 64 = .ok (.aload_n 0, 1) := by decide +kernel
theorem d_Mod_fall_65 : decode prog_13_method_24_code 65 = .ok (.getfield 19, 3) := by decide +kernel
theorem d_Mod_fall_68 : decode prog_13_method_24_code 68 = .ok (.iload_n 3, 1) := by decide +kernel
theorem d_Mod_fall_69 : decode prog_13_method_24_code 69 = .ok (.iaload, 1) := by decide +kernel
theorem d_Mod_fall_70 : decode prog_13_method_24_code 70 = .ok (.iload_n 2, 1) := by decide +kernel
theorem d_Mod_fall_71 : decode prog_13_method_24_code 71 = .ok (.if_icmp .le (12), 3) := by decide +kernel
theorem d_Mod_fall_74 : decode prog_13_method_24_code 74 = .ok (.aload_n 0, 1) := by decide +kernel
theorem d_Mod_fall_75 : decode prog_13_method_24_code 75 = .ok (.getfield 19, 3) := by decide +kernel
theorem d_Mod_fall_78 : decode prog_13_method_24_code 78 = .ok (.iload_n 3, 1) := by decide +kernel
theorem d_Mod_fall_79 : decode prog_13_method_24_code 79 = .ok (.iaload, 1) := by decide +kernel
theorem d_Mod_fall_80 : decode prog_13_method_24_code 80 = .ok (.goto (4), 3) := by decide +kernel
theorem d_Mod_fall_83 : decode prog_13_method_24_code 83 = .ok (.iload_n 2, 1) := by decide +kernel
theorem d_Mod_fall_84 : decode prog_13_method_24_code 84 = .ok (.istore_n 2, 1) := by decide +kernel
theorem d_Mod_fall_85 : decode prog_13_method_24_code 85 = .ok (.iinc 3 (1), 3) := by decide +kernel
theorem d_Mod_fall_88 : decode prog_13_method_24_code 88 = .ok (.goto (-84), 3) := by decide +kernel
theorem d_Mod_fall_91 : decode prog_13_method_24_code 91 = .ok (.iload_n 1, 1) := by decide +kernel
theorem d_Mod_fall_92 : decode prog_13_method_24_code 92 = .ok (.aload_n 0, 1) := by decide +kernel
theorem d_Mod_fall_93 : decode prog_13_method_24_code 93 = .ok (.getfield 189, 3) := by decide +kernel
theorem d_Mod_fall_96 : decode prog_13_method_24_code 96 = .ok (.aload_n 0, 1) := by decide +kernel
theorem d_Mod_fall_97 : decode prog_13_method_24_code 97 = .ok (.getfield 72, 3) := by decide +kernel
theorem d_Mod_fall_100 : decode prog_13_method_24_code 100 = .ok (.isub, 1) := by decide +kernel
theorem d_Mod_fall_101 : decode prog_13_method_24_code 101 = .ok (.if_icmp .ge (7), 3) := by decide +kernel
theorem d_Mod_fall_104 : decode prog_13_method_24_code 104 = .ok (.iconst 0, 1) := by decide +kernel
theorem d_Mod_fall_105 : decode prog_13_method_24_code 105 = .ok (.goto (4), 3) := by decide +kernel
theorem d_Mod_fall_108 : decode prog_13_method_24_code 108 = .ok (.iload_n 2, 1) := by decide +kernel
theorem d_Mod_fall_109 : decode prog_13_method_24_code 109 = .ok (.ireturn, 1) := by decide +kernel
theorem d_Mod_braking_0 : decode prog_13_method_25_code 0 = .ok (.iload_n 0, 1) := by decide +kernel
theorem d_Mod_braking_1 : decode prog_13_method_25_code 1 = .ok (.istore_n 3, 1) := by decide +kernel
theorem d_Mod_braking_2 : decode prog_13_method_25_code 2 = .ok (.iconst 0, 1) := by decide +kernel
theorem d_Mod_braking_3 : decode prog_13_method_25_code 3 = .ok (.istore 4, 2) := by decide +kernel
theorem d_Mod_braking_5 : decode prog_13_method_25_code 5 = .ok (.iconst 0, 1) := by decide +kernel
theorem d_Mod_braking_6 : decode prog_13_method_25_code 6 = .ok (.istore 5, 2) := by decide +kernel
theorem d_Mod_braking_8 : decode prog_13_method_25_code 8 = .ok (.iload 5, 2) := by decide +kernel
theorem d_Mod_braking_10 : decode prog_13_method_25_code 10 = .ok (.sipush (1000), 3) := by decide +kernel
theorem d_Mod_braking_13 : decode prog_13_method_25_code 13 = .ok (.if_icmp .ge (33), 3) := by decide +kernel
theorem d_Mod_braking_16 : decode prog_13_method_25_code 16 = .ok (.iload_n 3, 1) := by decide +kernel
theorem d_Mod_braking_17 : decode prog_13_method_25_code 17 = .ok (.iload_n 1, 1) := by decide +kernel
theorem d_Mod_braking_18 : decode prog_13_method_25_code 18 = .ok (.if_icmp .le (28), 3) := by decide +kernel
theorem d_Mod_braking_21 : decode prog_13_method_25_code 21 = .ok (.iload_n 3, 1) := by decide +kernel
theorem d_Mod_braking_22 : decode prog_13_method_25_code 22 = .ok (.iload_n 2, 1) := by decide +kernel
theorem d_Mod_braking_23 : decode prog_13_method_25_code 23 = .ok (.if_icmp .ge (7), 3) := by decide +kernel
theorem d_Mod_braking_26 : decode prog_13_method_25_code 26 = .ok (.iconst 0, 1) := by decide +kernel
theorem d_Mod_braking_27 : decode prog_13_method_25_code 27 = .ok (.goto (6), 3) := by decide +kernel
theorem d_Mod_braking_30 : decode prog_13_method_25_code 30 = .ok (.iload_n 3, 1) := by decide +kernel
theorem d_Mod_braking_31 : decode prog_13_method_25_code 31 = .ok (.iload_n 2, 1) := by decide +kernel
theorem d_Mod_braking_32 : decode prog_13_method_25_code 32 = .ok (.isub, 1) := by decide +kernel
theorem d_Mod_braking_33 : decode prog_13_method_25_code 33 = .ok (.istore_n 3, 1) := by decide +kernel
theorem d_Mod_braking_34 : decode prog_13_method_25_code 34 = .ok (.iload 4, 2) := by decide +kernel
theorem d_Mod_braking_36 : decode prog_13_method_25_code 36 = .ok (.iload_n 3, 1) := by decide +kernel
theorem d_Mod_braking_37 : decode prog_13_method_25_code 37 = .ok (.iadd, 1) := by decide +kernel
theorem d_Mod_braking_38 : decode prog_13_method_25_code 38 = .ok (.istore 4, 2) := by decide +kernel
theorem d_Mod_braking_40 : decode prog_13_method_25_code 40 = .ok (.iinc 5 (1), 3) := by decide +kernel
theorem d_Mod_braking_43 : decode prog_13_method_25_code 43 = .ok (.goto (-35), 3) := by decide +kernel
theorem d_Mod_braking_46 : decode prog_13_method_25_code 46 = .ok (.iload 4, 2) := by decide +kernel
theorem d_Mod_braking_48 : decode prog_13_method_25_code 48 = .ok (.ireturn, 1) := by decide +kernel
theorem d_Mod_way_0 : decode prog_13_method_26_code 0 = .ok (.iload_n 1, 1) := by decide +kernel
theorem d_Mod_way_1 : decode prog_13_method_26_code 1 = .ok (.ifCond .lt (32), 3) := by decide +kernel
theorem d_Mod_way_4 : decode prog_13_method_26_code 4 = .ok (.iload_n 1, 1) := by decide +kernel
theorem d_Mod_way_5 : decode prog_13_method_26_code 5 = .ok (.sipush (600), 3) := by decide +kernel
theorem d_Mod_way_8 : decode prog_13_method_26_code 8 = .ok (.if_icmp .gt (25), 3) := by decide +kernel
theorem d_Mod_way_11 : decode prog_13_method_26_code 11 = .ok (.iload_n 2, 1) := by decide +kernel
theorem d_Mod_way_12 : decode prog_13_method_26_code 12 = .ok (.ifCond .lt (21), 3) := by decide +kernel
theorem d_Mod_way_15 : decode prog_13_method_26_code 15 = .ok (.iload_n 2, 1) := by decide +kernel
theorem d_Mod_way_16 : decode prog_13_method_26_code 16 = .ok (.sipush (600), 3) := by decide +kernel
theorem d_Mod_way_19 : decode prog_13_method_26_code 19 = .ok (.if_icmp .gt (14), 3) := by decide +kernel
theorem d_Mod_way_22 : decode prog_13_method_26_code 22 = .ok (.iload_n 3, 1) := by decide +kernel
theorem d_Mod_way_23 : decode prog_13_method_26_code 23 = .ok (.iconst 1, 1) := by decide +kernel
theorem d_Mod_way_24 : decode prog_13_method_26_code 24 = .ok (.if_icmp .lt (9), 3) := by decide +kernel
theorem d_Mod_way_27 : decode prog_13_method_26_code 27 = .ok (.iload_n 3, 1) := by decide +kernel
theorem d_Mod_way_28 : decode prog_13_method_26_code 28 = .ok (.bipush (40), 2) := by decide +kernel
theorem d_Mod_way_30 : decode prog_13_method_26_code 30 = .ok (.if_icmp .le (7), 3) := by decide +kernel
theorem d_Mod_way_33 : decode prog_13_method_26_code 33 = .ok (.iconst (-1), 1) := by decide +kernel
theorem d_Mod_way_34 : decode prog_13_method_26_code 34 = .ok (.goto (9), 3) := by decide +kernel
theorem d_Mod_way_37 : decode prog_13_method_26_code 37 = .ok (.iload_n 1, 1) := by decide +kernel
theorem d_Mod_way_38 : decode prog_13_method_26_code 38 = .ok (.iload_n 2, 1) := by decide +kernel
theorem d_Mod_way_39 : decode prog_13_method_26_code 39 = .ok (.iload_n 3, 1) := by decide +kernel
theorem d_Mod_way_40 : decode prog_13_method_26_code 40 = .ok (.invokestatic 198, 3) := by decide +kernel
theorem d_Mod_way_43 : decode prog_13_method_26_code 43 = .ok (.ireturn, 1) := by decide +kernel
end
section
theorem d_Mod_past_0 : decode prog_13_method_27_code 0 = .ok (.iload_n 1, 1) := by decide +kernel
theorem d_Mod_past_1 : decode prog_13_method_27_code 1 = .ok (.iconst 2, 1) := by decide +kernel
theorem d_Mod_past_2 : decode prog_13_method_27_code 2 = .ok (.iload_n 3, 1) := by decide +kernel
theorem d_Mod_past_3 : decode prog_13_method_27_code 3 = .ok (.imul, 1) := by decide +kernel
theorem d_Mod_past_4 : decode prog_13_method_27_code 4 = .ok (.iadd, 1) := by decide +kernel
theorem d_Mod_past_5 : decode prog_13_method_27_code 5 = .ok (.istore 7, 2) := by decide +kernel
theorem d_Mod_past_7 : decode prog_13_method_27_code 7 = .ok (.iload 7, 2) := by decide +kernel
theorem d_Mod_past_9 : decode prog_13_method_27_code 9 = .ok (.iload 6, 2) := by decide +kernel
theorem d_Mod_past_11 : decode prog_13_method_27_code 11 = .ok (.if_icmp .gt (5), 3) := by decide +kernel
theorem d_Mod_past_14 : decode prog_13_method_27_code 14 = .ok (.iconst 0, 1) := by decide +kernel
theorem d_Mod_past_15 : decode prog_13_method_27_code 15 = .ok (.ireturn, 1) := by decide +kernel
theorem d_Mod_past_16 : decode prog_13_method_27_code 16 = .ok (.iload_n 2, 1) := by decide +kernel
theorem d_Mod_past_17 : decode prog_13_method_27_code 17 = .ok (.aload_n 0, 1) := by decide +kernel
theorem d_Mod_past_18 : decode prog_13_method_27_code 18 = .ok (.iload 5, 2) := by decide +kernel
theorem d_Mod_past_20 : decode prog_13_method_27_code 20 = .ok (.invokevirtual 201, 3) := by decide +kernel
theorem d_Mod_past_23 : decode prog_13_method_27_code 23 = .ok (.isub, 1) := by decide +kernel
theorem d_Mod_past_24 : decode prog_13_method_27_code 24 = .ok (.istore 8, 2) := by decide +kernel
theorem d_Mod_past_26 : decode prog_13_method_27_code 26 = .ok (.iload 4, 2) := by decide +kernel
theorem d_Mod_past_28 : decode prog_13_method_27_code 28 = .ok (.iload_n 1, 1) := by decide +kernel
theorem d_Mod_past_29 : decode prog_13_method_27_code 29 = .ok (.imul, 1) := by decide +kernel
theorem d_Mod_past_30 : decode prog_13_method_27_code 30 = .ok (.iload 7, 2) := by decide +kernel
theorem d_Mod_past_32 : decode prog_13_method_27_code 32 = .ok (.iload 6, 2) := by decide +kernel
theorem d_Mod_past_34 : decode prog_13_method_27_code 34 = .ok (.iload 8, 2) := by decide +kernel
theorem d_Mod_past_36 : decode prog_13_method_27_code 36 = .ok (.iconst 1, 1) := by decide +kernel
theorem d_Mod_past_37 : decode prog_13_method_27_code 37 = .ok (.if_icmp .ge (7), 3) := by decide +kernel
theorem d_Mod_past_40 : decode prog_13_method_27_code 40 = .ok (.iconst 1, 1) := by decide +kernel
theorem d_Mod_past_41 : decode prog_13_method_27_code 41 = .ok (.goto (5), 3) := by decide +kernel
theorem d_Mod_past_44 : decode prog_13_method_27_code 44 = .ok (.iload 8, 2) := by decide +kernel
theorem d_Mod_past_46 : decode prog_13_method_27_code 46 = .ok (.invokestatic 198, 3) := by decide +kernel
theorem d_Mod_past_49 : decode prog_13_method_27_code 49 = .ok (.iadd, 1) := by decide +kernel
theorem d_Mod_past_50 : decode prog_13_method_27_code 50 = .ok (.istore 9, 2) := by decide +kernel
theorem d_Mod_past_52 : decode prog_13_method_27_code 52 = .ok (.iconst 1, 1) := by decide +kernel
theorem d_Mod_past_53 : decode prog_13_method_27_code 53 = .ok (.istore 10, 2) := by decide +kernel
theorem d_Mod_past_55 : decode prog_13_method_27_code 55 = .ok (.iload 10, 2) := by decide +kernel
theorem d_Mod_past_57 : decode prog_13_method_27_code 57 = .ok (.iload_n 3, 1) := by decide +kernel
theorem d_Mod_past_58 : decode prog_13_method_27_code 58 = .ok (.if_icmp .gt (20), 3) := by decide +kernel
theorem d_Mod_past_61 : decode prog_13_method_27_code 61 = .ok (.iload 9, 2) := by decide +kernel
theorem d_Mod_past_63 : decode prog_13_method_27_code 63 = .ok (.iload_n 1, 1) := by decide +kernel
theorem d_Mod_past_64 : decode prog_13_method_27_code 64 = .ok (.iconst 2, 1) := by decide +kernel
theorem d_Mod_past_65 : decode prog_13_method_27_code 65 = .ok (.iload 10, 2) := by decide +kernel
theorem d_Mod_past_67 : decode prog_13_method_27_code 67 = .ok (.imul, 1) := by decide +kernel
theorem d_Mod_past_68 : decode prog_13_method_27_code 68 = .ok (.iadd, 1) := by decide +kernel
theorem d_Mod_past_69 : decode prog_13_method_27_code 69 = .ok (.iadd, 1) := by decide +kernel
theorem d_Mod_past_70 : decode prog_13_method_27_code 70 = .ok (.istore 9, 2) := by decide +kernel
theorem d_Mod_past_72 : decode prog_13_method_27_code 72 = .ok (.iinc 10 (1), 3) := by decide +kernel
theorem d_Mod_past_75 : decode prog_13_method_27_code 75 = .ok (.goto (-20), 3) := by decide +kernel
theorem d_Mod_past_78 : decode prog_13_method_27_code 78 = .ok (.aload_n 0, 1) := by decide +kernel
theorem d_Mod_past_79 : decode prog_13_method_27_code 79 = .ok (.getfield 195, 3) := by decide +kernel
theorem d_Mod_past_82 : decode prog_13_method_27_code 82 = .ok (.iload 9, 2) := by decide +kernel
theorem d_Mod_past_84 : decode prog_13_method_27_code 84 = .ok (.iadd, 1) := by decide +kernel
theorem d_Mod_past_85 : decode prog_13_method_27_code 85 = .ok (.iload 5, 2) := by decide +kernel
theorem d_Mod_past_87 : decode prog_13_method_27_code 87 = .ok (.if_icmp .le (7), 3) := by decide +kernel
theorem d_Mod_past_90 : decode prog_13_method_27_code 90 = .ok (.iconst 1, 1) := by decide +kernel
theorem d_Mod_past_91 : decode prog_13_method_27_code 91 = .ok (.goto (4), 3) := by decide +kernel
theorem d_Mod_past_94 : decode prog_13_method_27_code 94 = .ok (.iconst 0, 1) := by decide +kernel
theorem d_Mod_past_95 : decode prog_13_method_27_code 95 = .ok (.ireturn, 1) := by decide +kernel
theorem d_Mod_over_0 : decode prog_13_method_28_code 0 = .ok (.aload_n 0, 1) := by decide +kernel
theorem d_Mod_over_1 : decode prog_13_method_28_code 1 = .ok (.invokevirtual 154, 3) := by decide +kernel
theorem d_Mod_over_4 : decode prog_13_method_28_code 4 = .ok (.ifCond .ne (5), 3) := by decide +kernel
theorem d_Mod_over_7 : decode prog_13_method_28_code 7 = .ok (.iconst 0, 1) := by decide +kernel
theorem d_Mod_over_8 : decode prog_13_method_28_code 8 = .ok (.ireturn, 1) := by decide +kernel
theorem d_Mod_over_9 : decode prog_13_method_28_code 9 = .ok (.aload_n 0, 1) := by decide +kernel
theorem d_Mod_over_10 : decode prog_13_method_28_code 10 = .ok (.iload_n 1, 1) := by decide +kernel
theorem d_Mod_over_11 : decode prog_13_method_28_code 11 = .ok (.iload_n 2, 1) := by decide +kernel
theorem d_Mod_over_12 : decode prog_13_method_28_code 12 = .ok (.iload_n 3, 1) := by decide +kernel
theorem d_Mod_over_13 : decode prog_13_method_28_code 13 = .ok (.iload 4, 2) := by decide +kernel
theorem d_Mod_over_15 : decode prog_13_method_28_code 15 = .ok (.iload 5, 2) := by decide +kernel
theorem d_Mod_over_17 : decode prog_13_method_28_code 17 = .ok (.iconst 0, 1) := by decide +kernel
theorem d_Mod_over_18 : decode prog_13_method_28_code 18 = .ok (.invokevirtual 204, 3) := by decide +kernel
theorem d_Mod_over_21 : decode prog_13_method_28_code 21 = .ok (.istore 6, 2) := by decide +kernel
theorem d_Mod_over_23 : decode prog_13_method_28_code 23 = .ok (.iconst 0, 1) := by decide +kernel
theorem d_Mod_over_24 : decode prog_13_method_28_code 24 = .ok (.istore 7, 2) := by decide +kernel
theorem d_Mod_over_26 : decode prog_13_method_28_code 26 = .ok (.iload 7, 2) := by decide +kernel
theorem d_Mod_over_28 : decode prog_13_method_28_code 28 = .ok (.aload_n 0, 1) := by decide +kernel
theorem d_Mod_over_29 : decode prog_13_method_28_code 29 = .ok (.getfield 92, 3) := by decide +kernel
theorem d_Mod_over_32 : decode prog_13_method_28_code 32 = .ok (.if_icmp .ge (61), 3) := by decide +kernel
theorem d_Mod_over_35 : decode prog_13_method_28_code 35 = .ok (.iload 6, 2) := by decide +kernel
theorem d_Mod_over_37 : decode prog_13_method_28_code 37 = .ok (.ifCond .ne (43), 3) := by decide +kernel
theorem d_Mod_over_40 : decode prog_13_method_28_code 40 = .ok (.aload_n 0, 1) := by decide +kernel
theorem d_Mod_over_41 : decode prog_13_method_28_code 41 = .ok (.getfield 7, 3) := by decide +kernel
theorem d_Mod_over_44 : decode prog_13_method_28_code 44 = .ok (.iload 7, 2) := by decide +kernel
theorem d_Mod_over_46 : decode prog_13_method_28_code 46 = .ok (.iaload, 1) := by decide +kernel
theorem d_Mod_over_47 : decode prog_13_method_28_code 47 = .ok (.aload_n 0, 1) := by decide +kernel
theorem d_Mod_over_48 : decode prog_13_method_28_code 48 = .ok (.getfield 195, 3) := by decide +kernel
theorem d_Mod_over_51 : decode prog_13_method_28_code 51 = .ok (.if_icmp .le (33), 3) := by decide +kernel
theorem d_Mod_over_54 : decode prog_13_method_28_code 54 = .ok (.aload_n 0, 1) := by decide +kernel
theorem d_Mod_over_55 : decode prog_13_method_28_code 55 = .ok (.iload_n 1, 1) := by decide +kernel
theorem d_Mod_over_56 : decode prog_13_method_28_code 56 = .ok (.iload_n 2, 1) := by decide +kernel
theorem d_Mod_over_57 : decode prog_13_method_28_code 57 = .ok (.iload_n 3, 1) := by decide +kernel
theorem d_Mod_over_58 : decode prog_13_method_28_code 58 = .ok (.iload 4, 2) := by decide +kernel
theorem d_Mod_over_60 : decode prog_13_method_28_code 60 = .ok (.aload_n 0, 1) := by decide +kernel
theorem d_Mod_over_61 : decode prog_13_method_28_code 61 = .ok (.getfield 7, 3) := by decide +kernel
theorem d_Mod_over_64 : decode prog_13_method_28_code 64 = .ok (.iload 7, 2) := by decide +kernel
theorem d_Mod_over_66 : decode prog_13_method_28_code 66 = .ok (.iaload, 1) := by decide +kernel
theorem d_Mod_over_67 : decode prog_13_method_28_code 67 = .ok (.aload_n 0, 1) := by decide +kernel
theorem d_Mod_over_68 : decode prog_13_method_28_code 68 = .ok (.getfield 13, 3) := by decide +kernel
theorem d_Mod_over_71 : decode prog_13_method_28_code 71 = .ok (.iload 7, 2) := by decide +kernel
theorem d_Mod_over_73 : decode prog_13_method_28_code 73 = .ok (.iaload, 1) := by decide +kernel
theorem d_Mod_over_74 : decode prog_13_method_28_code 74 = .ok (.invokevirtual 204, 3) := by decide +kernel
theorem d_Mod_over_77 : decode prog_13_method_28_code 77 = .ok (.ifCond .eq (7), 3) := by decide +kernel
theorem d_Mod_over_80 : decode prog_13_method_28_code 80 = .ok (.iconst 1, 1) := by decide +kernel
theorem d_Mod_over_81 : decode prog_13_method_28_code 81 = .ok (.goto (4), 3) := by decide +kernel
theorem d_Mod_over_84 : decode prog_13_method_28_code 84 = .ok (.iconst 0, 1) := by decide +kernel
theorem d_Mod_over_85 : decode prog_13_method_28_code 85 = .ok (.istore 6, 2) := by decide +kernel
theorem d_Mod_over_87 : decode prog_13_method_28_code 87 = .ok (.iinc 7 (1), 3) := by decide +kernel
theorem d_Mod_over_90 : decode prog_13_method_28_code 90 = .ok (.goto (-64), 3) := by decide +kernel
theorem d_Mod_over_93 : decode prog_13_method_28_code 93 = .ok (.iconst 0, 1) := by decide +kernel
theorem d_Mod_over_94 : decode prog_13_method_28_code 94 = .ok (.istore 7, 2) := by decide +kernel
theorem d_Mod_over_96 : decode prog_13_method_28_code 96 = .ok (.iload 7, 2) := by decide +kernel
theorem d_Mod_over_98 : decode prog_13_method_28_code 98 = .ok (.aload_n 0, 1) := by decide +kernel
theorem d_Mod_over_99 : decode prog_13_method_28_code 99 = .ok (.getfield 171, 3) := by decide +kernel
theorem d_Mod_over_102 : decode prog_13_method_28_code 102 = .ok (.if_icmp .ge (61), 3) := by decide +kernel
theorem d_Mod_over_105 : decode prog_13_method_28_code 105 = .ok (.iload 6, 2) := by decide +kernel
theorem d_Mod_over_107 : decode prog_13_method_28_code 107 = .ok (.ifCond .ne (43), 3) := by decide +kernel
theorem d_Mod_over_110 : decode prog_13_method_28_code 110 = .ok (.aload_n 0, 1) := by decide +kernel
theorem d_Mod_over_111 : decode prog_13_method_28_code 111 = .ok (.getfield 38, 3) := by decide +kernel
theorem d_Mod_over_114 : decode prog_13_method_28_code 114 = .ok (.iload 7, 2) := by decide +kernel
theorem d_Mod_over_116 : decode prog_13_method_28_code 116 = .ok (.iaload, 1) := by decide +kernel
theorem d_Mod_over_117 : decode prog_13_method_28_code 117 = .ok (.aload_n 0, 1) := by decide +kernel
theorem d_Mod_over_118 : decode prog_13_method_28_code 118 = .ok (.getfield 195, 3) := by decide +kernel
theorem d_Mod_over_121 : decode prog_13_method_28_code 121 = .ok (.if_icmp .le (33), 3) := by decide +kernel
theorem d_Mod_over_124 : decode prog_13_method_28_code 124 = .ok (.aload_n 0, 1) := by decide +kernel
theorem d_Mod_over_125 : decode prog_13_method_28_code 125 = .ok (.iload_n 1, 1) := by decide +kernel
theorem d_Mod_over_126 : decode prog_13_method_28_code 126 = .ok (.iload_n 2, 1) := by decide +kernel
theorem d_Mod_over_127 : decode prog_13_method_28_code 127 = .ok (.iload_n 3, 1) := by decide +kernel
theorem d_Mod_over_128 : decode prog_13_method_28_code 128 = .ok (.iload 4, 2) := by decide +kernel
theorem d_Mod_over_130 : decode prog_13_method_28_code 130 = .ok (.aload_n 0, 1) := by decide +kernel
theorem d_Mod_over_131 : decode prog_13_method_28_code 131 = .ok (.getfield 38, 3) := by decide +kernel
theorem d_Mod_over_134 : decode prog_13_method_28_code 134 = .ok (.iload 7, 2) := by decide +kernel
theorem d_Mod_over_136 : decode prog_13_method_28_code 136 = .ok (.iaload, 1) := by decide +kernel
theorem d_Mod_over_137 : decode prog_13_method_28_code 137 = .ok (.aload_n 0, 1) := by decide +kernel
theorem d_Mod_over_138 : decode prog_13_method_28_code 138 = .ok (.getfield 44, 3) := by decide +kernel
theorem d_Mod_over_141 : decode prog_13_method_28_code 141 = .ok (.iload 7, 2) := by decide +kernel
theorem d_Mod_over_143 : decode prog_13_method_28_code 143 = .ok (.iaload, 1) := by decide +kernel
theorem d_Mod_over_144 : decode prog_13_method_28_code 144 = .ok (.invokevirtual 204, 3) := by decide +kernel
theorem d_Mod_over_147 : decode prog_13_method_28_code 147 = .ok (.ifCond .eq (7), 3) := by decide +kernel
theorem d_Mod_over_150 : decode prog_13_method_28_code 150 = .ok (.iconst 1, 1) := by decide +kernel
theorem d_Mod_over_151 : decode prog_13_method_28_code 151 = .ok (.goto (4), 3) := by decide +kernel
theorem d_Mod_over_154 : decode prog_13_method_28_code 154 = .ok (.iconst 0, 1) := by decide +kernel
theorem d_Mod_over_155 : decode prog_13_method_28_code 155 = .ok (.istore 6, 2) := by decide +kernel
theorem d_Mod_over_157 : decode prog_13_method_28_code 157 = .ok (.iinc 7 (1), 3) := by decide +kernel
theorem d_Mod_over_160 : decode prog_13_method_28_code 160 = .ok (.goto (-64), 3) := by decide +kernel
theorem d_Mod_over_163 : decode prog_13_method_28_code 163 = .ok (.iload 6, 2) := by decide +kernel
theorem d_Mod_over_165 : decode prog_13_method_28_code 165 = .ok (.ireturn, 1) := by decide +kernel
theorem d_Mod_grade_0 : decode prog_13_method_29_code 0 = .ok (.aload_n 0, 1) := by decide +kernel
theorem d_Mod_grade_1 : decode prog_13_method_29_code 1 = .ok (.getfield 81, 3) := by decide +kernel
theorem d_Mod_grade_4 : decode prog_13_method_29_code 4 = .ok (.iconst 4, 1) := by decide +kernel
theorem d_Mod_grade_5 : decode prog_13_method_29_code 5 = .ok (.if_icmp .eq (12), 3) := by decide +kernel
theorem d_Mod_grade_8 : decode prog_13_method_29_code 8 = .ok (.aload_n 0, 1) := by decide +kernel
theorem d_Mod_grade_9 : decode prog_13_method_29_code 9 = .ok (.getfield 81, 3) := by decide +kernel
theorem d_Mod_grade_12 : decode prog_13_method_29_code 12 = .ok (.bipush (6), 2) := by decide +kernel
theorem d_Mod_grade_14 : decode prog_13_method_29_code 14 = .ok (.if_icmp .ne (5), 3) := by decide +kernel
theorem d_Mod_grade_17 : decode prog_13_method_29_code 17 = .ok (.iconst 4, 1) := by decide +kernel
theorem d_Mod_grade_18 : decode prog_13_method_29_code 18 = .ok (.ireturn, 1) := by decide +kernel
theorem d_Mod_grade_19 : decode prog_13_method_29_code 19 = .ok (.aload_n 0, 1) := by decide +kernel
theorem d_Mod_grade_20 : decode prog_13_method_29_code 20 = .ok (.invokevirtual 208, 3) := by decide +kernel
theorem d_Mod_grade_23 : decode prog_13_method_29_code 23 = .ok (.istore_n 3, 1) := by decide +kernel
theorem d_Mod_grade_24 : decode prog_13_method_29_code 24 = .ok (.iload_n 1, 1) := by decide +kernel
theorem d_Mod_grade_25 : decode prog_13_method_29_code 25 = .ok (.iload_n 3, 1) := by decide +kernel
theorem d_Mod_grade_26 : decode prog_13_method_29_code 26 = .ok (.bipush (8), 2) := by decide +kernel
theorem d_Mod_grade_28 : decode prog_13_method_29_code 28 = .ok (.iadd, 1) := by decide +kernel
theorem d_Mod_grade_29 : decode prog_13_method_29_code 29 = .ok (.if_icmp .gt (23), 3) := by decide +kernel
theorem d_Mod_grade_32 : decode prog_13_method_29_code 32 = .ok (.aload_n 0, 1) := by decide +kernel
theorem d_Mod_grade_33 : decode prog_13_method_29_code 33 = .ok (.iload_n 1, 1) := by decide +kernel
theorem d_Mod_grade_34 : decode prog_13_method_29_code 34 = .ok (.aload_n 0, 1) := by decide +kernel
theorem d_Mod_grade_35 : decode prog_13_method_29_code 35 = .ok (.getfield 66, 3) := by decide +kernel
theorem d_Mod_grade_38 : decode prog_13_method_29_code 38 = .ok (.iconst 2, 1) := by decide +kernel
theorem d_Mod_grade_39 : decode prog_13_method_29_code 39 = .ok (.iconst 0, 1) := by decide +kernel
theorem d_Mod_grade_40 : decode prog_13_method_29_code 40 = .ok (.iload_n 2, 1) := by decide +kernel
theorem d_Mod_grade_41 : decode prog_13_method_29_code 41 = .ok (.aload_n 0, 1) := by decide +kernel
theorem d_Mod_grade_42 : decode prog_13_method_29_code 42 = .ok (.getfield 183, 3) := by decide +kernel
theorem d_Mod_grade_45 : decode prog_13_method_29_code 45 = .ok (.iadd, 1) := by decide +kernel
theorem d_Mod_grade_46 : decode prog_13_method_29_code 46 = .ok (.invokevirtual 212, 3) := by decide +kernel
theorem d_Mod_grade_49 : decode prog_13_method_29_code 49 = .ok (.ifCond .eq (5), 3) := by decide +kernel
theorem d_Mod_grade_52 : decode prog_13_method_29_code 52 = .ok (.iconst 4, 1) := by decide +kernel
theorem d_Mod_grade_53 : decode prog_13_method_29_code 53 = .ok (.ireturn, 1) := by decide +kernel
theorem d_Mod_grade_54 : decode prog_13_method_29_code 54 = .ok (.iload_n 1, 1) := by decide +kernel
theorem d_Mod_grade_55 : decode prog_13_method_29_code 55 = .ok (.iload_n 3, 1) := by decide +kernel
theorem d_Mod_grade_56 : decode prog_13_method_29_code 56 = .ok (.iconst 5, 1) := by decide +kernel
theorem d_Mod_grade_57 : decode prog_13_method_29_code 57 = .ok (.iadd, 1) := by decide +kernel
theorem d_Mod_grade_58 : decode prog_13_method_29_code 58 = .ok (.if_icmp .gt (18), 3) := by decide +kernel
theorem d_Mod_grade_61 : decode prog_13_method_29_code 61 = .ok (.aload_n 0, 1) := by decide +kernel
theorem d_Mod_grade_62 : decode prog_13_method_29_code 62 = .ok (.iload_n 1, 1) := by decide +kernel
theorem d_Mod_grade_63 : decode prog_13_method_29_code 63 = .ok (.aload_n 0, 1) := by decide +kernel
theorem d_Mod_grade_64 : decode prog_13_method_29_code 64 = .ok (.getfield 69, 3) := by decide +kernel
theorem d_Mod_grade_67 : decode prog_13_method_29_code 67 = .ok (.iconst 3, 1) := by decide +kernel
theorem d_Mod_grade_68 : decode prog_13_method_29_code 68 = .ok (.iconst 0, 1) := by decide +kernel
theorem d_Mod_grade_69 : decode prog_13_method_29_code 69 = .ok (.iload_n 2, 1) := by decide +kernel
theorem d_Mod_grade_70 : decode prog_13_method_29_code 70 = .ok (.invokevirtual 212, 3) := by decide +kernel
theorem d_Mod_grade_73 : decode prog_13_method_29_code 73 = .ok (.ifCond .eq (5), 3) := by decide +kernel
theorem d_Mod_grade_76 : decode prog_13_method_29_code 76 = .ok (.iconst 3, 1) := by decide +kernel
theorem d_Mod_grade_77 : decode prog_13_method_29_code 77 = .ok (.ireturn, 1) := by decide +kernel
theorem d_Mod_grade_78 : decode prog_13_method_29_code 78 = .ok (.iload_n 1, 1) := by decide +kernel
theorem d_Mod_grade_79 : decode prog_13_method_29_code 79 = .ok (.iload_n 3, 1) := by decide +kernel
theorem d_Mod_grade_80 : decode prog_13_method_29_code 80 = .ok (.iconst 3, 1) := by decide +kernel
theorem d_Mod_grade_81 : decode prog_13_method_29_code 81 = .ok (.iadd, 1) := by decide +kernel
theorem d_Mod_grade_82 : decode prog_13_method_29_code 82 = .ok (.if_icmp .gt (18), 3) := by decide +kernel
theorem d_Mod_grade_85 : decode prog_13_method_29_code 85 = .ok (.aload_n 0, 1) := by decide +kernel
theorem d_Mod_grade_86 : decode prog_13_method_29_code 86 = .ok (.iload_n 1, 1) := by decide +kernel
theorem d_Mod_grade_87 : decode prog_13_method_29_code 87 = .ok (.aload_n 0, 1) := by decide +kernel
theorem d_Mod_grade_88 : decode prog_13_method_29_code 88 = .ok (.getfield 69, 3) := by decide +kernel
theorem d_Mod_grade_91 : decode prog_13_method_29_code 91 = .ok (.iconst 3, 1) := by decide +kernel
theorem d_Mod_grade_92 : decode prog_13_method_29_code 92 = .ok (.iconst 2, 1) := by decide +kernel
theorem d_Mod_grade_93 : decode prog_13_method_29_code 93 = .ok (.iload_n 2, 1) := by decide +kernel
theorem d_Mod_grade_94 : decode prog_13_method_29_code 94 = .ok (.invokevirtual 212, 3) := by decide +kernel
theorem d_Mod_grade_97 : decode prog_13_method_29_code 97 = .ok (.ifCond .eq (5), 3) := by decide +kernel
theorem d_Mod_grade_100 : decode prog_13_method_29_code 100 = .ok (.iconst 2, 1) := by decide +kernel
theorem d_Mod_grade_101 : decode prog_13_method_29_code 101 = .ok (.ireturn, 1) := by decide +kernel
theorem d_Mod_grade_102 : decode prog_13_method_29_code 102 = .ok (.iload_n 1, 1) := by decide +kernel
theorem d_Mod_grade_103 : decode prog_13_method_29_code 103 = .ok (.iload_n 3, 1) := by decide +kernel
theorem d_Mod_grade_104 : decode prog_13_method_29_code 104 = .ok (.if_icmp .gt (18), 3) := by decide +kernel
theorem d_Mod_grade_107 : decode prog_13_method_29_code 107 = .ok (.aload_n 0, 1) := by decide +kernel
theorem d_Mod_grade_108 : decode prog_13_method_29_code 108 = .ok (.iload_n 1, 1) := by decide +kernel
theorem d_Mod_grade_109 : decode prog_13_method_29_code 109 = .ok (.aload_n 0, 1) := by decide +kernel
theorem d_Mod_grade_110 : decode prog_13_method_29_code 110 = .ok (.getfield 69, 3) := by decide +kernel
theorem d_Mod_grade_113 : decode prog_13_method_29_code 113 = .ok (.iconst 3, 1) := by decide +kernel
theorem d_Mod_grade_114 : decode prog_13_method_29_code 114 = .ok (.iconst 4, 1) := by decide +kernel
theorem d_Mod_grade_115 : decode prog_13_method_29_code 115 = .ok (.iload_n 2, 1) := by decide +kernel
theorem d_Mod_grade_116 : decode prog_13_method_29_code 116 = .ok (.invokevirtual 212, 3) := by decide +kernel
theorem d_Mod_grade_119 : decode prog_13_method_29_code 119 = .ok (.ifCond .eq (7), 3) := by decide +kernel
theorem d_Mod_grade_122 : decode prog_13_method_29_code 122 = .ok (.iconst 1, 1) := by decide +kernel
theorem d_Mod_grade_123 : decode prog_13_method_29_code 123 = .ok (.goto (4), 3) := by decide +kernel
theorem d_Mod_grade_126 : decode prog_13_method_29_code 126 = .ok (.iconst 0, 1) := by decide +kernel
theorem d_Mod_grade_127 : decode prog_13_method_29_code 127 = .ok (.ireturn, 1) := by decide +kernel
theorem d_Mod_allowed_0 : decode prog_13_method_30_code 0 = .ok (.sipush (600), 3) := by decide +kernel
theorem d_Mod_allowed_3 : decode prog_13_method_30_code 3 = .ok (.istore_n 1, 1) := by decide +kernel
theorem d_Mod_allowed_4 : decode prog_13_method_30_code 4 = .ok (.iload_n 1, 1) := by decide +kernel
theorem d_Mod_allowed_5 : decode prog_13_method_30_code 5 = .ok (.ifCond .le (25), 3) := by decide +kernel
theorem d_Mod_allowed_8 : decode prog_13_method_30_code 8 = .ok (.aload_n 0, 1) := by decide +kernel
theorem d_Mod_allowed_9 : decode prog_13_method_30_code 9 = .ok (.iload_n 1, 1) := by decide +kernel
theorem d_Mod_allowed_10 : decode prog_13_method_30_code 10 = .ok (.aload_n 0, 1) := by decide +kernel
theorem d_Mod_allowed_11 : decode prog_13_method_30_code 11 = .ok (.getfield 151, 3) := by decide +kernel
theorem d_Mod_allowed_14 : decode prog_13_method_30_code 14 = .ok (.invokevirtual 161, 3) := by decide +kernel
theorem d_Mod_allowed_17 : decode prog_13_method_30_code 17 = .ok (.istore_n 2, 1) := by decide +kernel
theorem d_Mod_allowed_18 : decode prog_13_method_30_code 18 = .ok (.iload_n 2, 1) := by decide +kernel
theorem d_Mod_allowed_19 : decode prog_13_method_30_code 19 = .ok (.ifCond .ne (5), 3) := by decide +kernel
theorem d_Mod_allowed_22 : decode prog_13_method_30_code 22 = .ok (.iload_n 1, 1) := by decide +kernel
theorem d_Mod_allowed_23 : decode prog_13_method_30_code 23 = .ok (.ireturn, 1) := by decide +kernel
theorem d_Mod_allowed_24 : decode prog_13_method_30_code 24 = .ok (.iinc 1 (-1), 3) := by decide +kernel
theorem d_Mod_allowed_27 : decode prog_13_method_30_code 27 = .ok (.goto (-23), 3) := by decide +kernel
theorem d_Mod_allowed_30 : decode prog_13_method_30_code 30 = .ok (.iconst 0, 1) := by decide +kernel
theorem d_Mod_allowed_31 : decode prog_13_method_30_code 31 = .ok (.ireturn, 1) := by decide +kernel
theorem d_Mod_mark_0 : decode prog_13_method_31_code 0 = .ok (.iconst (-1), 1) := by decide +kernel
theorem d_Mod_mark_1 : decode prog_13_method_31_code 1 = .ok (.istore_n 2, 1) := by decide +kernel
theorem d_Mod_mark_2 : decode prog_13_method_31_code 2 = .ok (.aload_n 0, 1) := by decide +kernel
theorem d_Mod_mark_3 : decode prog_13_method_31_code 3 = .ok (.getfield 98, 3) := by decide +kernel
theorem d_Mod_mark_6 : decode prog_13_method_31_code 6 = .ok (.iconst 1, 1) := by decide +kernel
theorem d_Mod_mark_7 : decode prog_13_method_31_code 7 = .ok (.isub, 1) := by decide +kernel
theorem d_Mod_mark_8 : decode prog_13_method_31_code 8 = .ok (.istore_n 3, 1) := by decide +kernel
theorem d_Mod_mark_9 : decode prog_13_method_31_code 9 = .ok (.iload_n 3, 1) := by decide +kernel
theorem d_Mod_mark_10 : decode prog_13_method_31_code 10 = .ok (.ifCond .lt (34), 3) := by decide +kernel
theorem d_Mod_mark_13 : decode prog_13_method_31_code 13 = .ok (.aload_n 0, 1) := by decide +kernel
theorem d_Mod_mark_14 : decode prog_13_method_31_code 14 = .ok (.getfield 31, 3) := by decide +kernel
theorem d_Mod_mark_17 : decode prog_13_method_31_code 17 = .ok (.iload_n 3, 1) := by decide +kernel
theorem d_Mod_mark_18 : decode prog_13_method_31_code 18 = .ok (.baload, 1) := by decide +kernel
theorem d_Mod_mark_19 : decode prog_13_method_31_code 19 = .ok (.ifCond .ne (17), 3) := by decide +kernel
theorem d_Mod_mark_22 : decode prog_13_method_31_code 22 = .ok (.aload_n 0, 1) := by decide +kernel
theorem d_Mod_mark_23 : decode prog_13_method_31_code 23 = .ok (.getfield 25, 3) := by decide +kernel
theorem d_Mod_mark_26 : decode prog_13_method_31_code 26 = .ok (.iload_n 3, 1) := by decide +kernel
theorem d_Mod_mark_27 : decode prog_13_method_31_code 27 = .ok (.iaload, 1) := by decide +kernel
theorem d_Mod_mark_28 : decode prog_13_method_31_code 28 = .ok (.iload_n 1, 1) := by decide +kernel
theorem d_Mod_mark_29 : decode prog_13_method_31_code 29 = .ok (.if_icmp .ne (7), 3) := by decide +kernel
theorem d_Mod_mark_32 : decode prog_13_method_31_code 32 = .ok (.iload_n 3, 1) := by decide +kernel
theorem d_Mod_mark_33 : decode prog_13_method_31_code 33 = .ok (.goto (4), 3) := by decide +kernel
theorem d_Mod_mark_36 : decode prog_13_method_31_code 36 = .ok (.iload_n 2, 1) := by decide +kernel
theorem d_Mod_mark_37 : decode prog_13_method_31_code 37 = .ok (.istore_n 2, 1) := by decide +kernel
theorem d_Mod_mark_38 : decode prog_13_method_31_code 38 = .ok (.iinc 3 (-1), 3) := by decide +kernel
theorem d_Mod_mark_41 : decode prog_13_method_31_code 41 = .ok (.goto (-32), 3) := by decide +kernel
theorem d_Mod_mark_44 : decode prog_13_method_31_code 44 = .ok (.iload_n 2, 1) := by decide +kernel
theorem d_Mod_mark_45 : decode prog_13_method_31_code 45 = .ok (.ifCond .ge (5), 3) := by decide +kernel
theorem d_Mod_mark_48 : decode prog_13_method_31_code 48 = .ok (.iconst 0, 1) := by decide +kernel
theorem d_Mod_mark_49 : decode prog_13_method_31_code 49 = .ok (.ireturn, 1) := by decide +kernel
theorem d_Mod_mark_50 : decode prog_13_method_31_code 50 = .ok (.aload_n 0, 1) := by decide +kernel
theorem d_Mod_mark_51 : decode prog_13_method_31_code 51 = .ok (.getfield 195, 3) := by decide +kernel
theorem d_Mod_mark_54 : decode prog_13_method_31_code 54 = .ok (.aload_n 0, 1) := by decide +kernel
theorem d_Mod_mark_55 : decode prog_13_method_31_code 55 = .ok (.getfield 22, 3) := by decide +kernel
theorem d_Mod_mark_58 : decode prog_13_method_31_code 58 = .ok (.iload_n 2, 1) := by decide +kernel
theorem d_Mod_mark_59 : decode prog_13_method_31_code 59 = .ok (.iaload, 1) := by decide +kernel
theorem d_Mod_mark_60 : decode prog_13_method_31_code 60 = .ok (.aload_n 0, 1) := by decide +kernel
theorem d_Mod_mark_61 : decode prog_13_method_31_code 61 = .ok (.getfield 28, 3) := by decide +kernel
theorem d_Mod_mark_64 : decode prog_13_method_31_code 64 = .ok (.iload_n 2, 1) := by decide +kernel
theorem d_Mod_mark_65 : decode prog_13_method_31_code 65 = .ok (.iaload, 1) := by decide +kernel
theorem d_Mod_mark_66 : decode prog_13_method_31_code 66 = .ok (.isub, 1) := by decide +kernel
theorem d_Mod_mark_67 : decode prog_13_method_31_code 67 = .ok (.if_icmp .lt (23), 3) := by decide +kernel
theorem d_Mod_mark_70 : decode prog_13_method_31_code 70 = .ok (.aload_n 0, 1) := by decide +kernel
theorem d_Mod_mark_71 : decode prog_13_method_31_code 71 = .ok (.getfield 189, 3) := by decide +kernel
theorem d_Mod_mark_74 : decode prog_13_method_31_code 74 = .ok (.aload_n 0, 1) := by decide +kernel
theorem d_Mod_mark_75 : decode prog_13_method_31_code 75 = .ok (.getfield 22, 3) := by decide +kernel
theorem d_Mod_mark_78 : decode prog_13_method_31_code 78 = .ok (.iload_n 2, 1) := by decide +kernel
theorem d_Mod_mark_79 : decode prog_13_method_31_code 79 = .ok (.iaload, 1) := by decide +kernel
theorem d_Mod_mark_80 : decode prog_13_method_31_code 80 = .ok (.aload_n 0, 1) := by decide +kernel
theorem d_Mod_mark_81 : decode prog_13_method_31_code 81 = .ok (.getfield 28, 3) := by decide +kernel
theorem d_Mod_mark_84 : decode prog_13_method_31_code 84 = .ok (.iload_n 2, 1) := by decide +kernel
theorem d_Mod_mark_85 : decode prog_13_method_31_code 85 = .ok (.iaload, 1) := by decide +kernel
theorem d_Mod_mark_86 : decode prog_13_method_31_code 86 = .ok (.iadd, 1) := by decide +kernel
theorem d_Mod_mark_87 : decode prog_13_method_31_code 87 = .ok (.if_icmp .le (7), 3) := by decide +kernel
theorem d_Mod_mark_90 : decode prog_13_method_31_code 90 = .ok (.iconst 1, 1) := by decide +kernel
theorem d_Mod_mark_91 : decode prog_13_method_31_code 91 = .ok (.goto (4), 3) := by decide +kernel
theorem d_Mod_mark_94 : decode prog_13_method_31_code 94 = .ok (.iconst 0, 1) := by decide +kernel
theorem d_Mod_mark_95 : decode prog_13_method_31_code 95 = .ok (.istore_n 3, 1) := by decide +kernel
theorem d_Mod_mark_96 : decode prog_13_method_31_code 96 = .ok (.iconst 0, 1) := by decide +kernel
theorem d_Mod_mark_97 : decode prog_13_method_31_code 97 = .ok (.istore 4, 2) := by decide +kernel
theorem d_Mod_mark_99 : decode prog_13_method_31_code 99 = .ok (.iload 4, 2) := by decide +kernel
theorem d_Mod_mark_101 : decode prog_13_method_31_code 101 = .ok (.iload_n 2, 1) := by decide +kernel
theorem d_Mod_mark_102 : decode prog_13_method_31_code 102 = .ok (.if_icmp .ge (37), 3) := by decide +kernel
theorem d_Mod_mark_105 : decode prog_13_method_31_code 105 = .ok (.iload_n 3, 1) := by decide +kernel
theorem d_Mod_mark_106 : decode prog_13_method_31_code 106 = .ok (.ifCond .ne (13), 3) := by decide +kernel
theorem d_Mod_mark_109 : decode prog_13_method_31_code 109 = .ok (.aload_n 0, 1) := by decide +kernel
theorem d_Mod_mark_110 : decode prog_13_method_31_code 110 = .ok (.getfield 31, 3) := by decide +kernel
theorem d_Mod_mark_113 : decode prog_13_method_31_code 113 = .ok (.iload 4, 2) := by decide +kernel
theorem d_Mod_mark_115 : decode prog_13_method_31_code 115 = .ok (.baload, 1) := by decide +kernel
theorem d_Mod_mark_116 : decode prog_13_method_31_code 116 = .ok (.ifCond .ne (7), 3) := by decide +kernel
theorem d_Mod_mark_119 : decode prog_13_method_31_code 119 = .ok (.iconst 1, 1) := by decide +kernel
theorem d_Mod_mark_120 : decode prog_13_method_31_code 120 = .ok (.goto (4), 3) := by decide +kernel
theorem d_Mod_mark_123 : decode prog_13_method_31_code 123 = .ok (.iconst 0, 1) := by decide +kernel
theorem d_Mod_mark_124 : decode prog_13_method_31_code 124 = .ok (.istore_n 3, 1) := by decide +kernel
theorem d_Mod_mark_125 : decode prog_13_method_31_code 125 = .ok (.aload_n 0, 1) := by decide +kernel
theorem d_Mod_mark_126 : decode prog_13_method_31_code 126 = .ok (.getfield 31, 3) := by decide +kernel
theorem d_Mod_mark_129 : decode prog_13_method_31_code 129 = .ok (.iload 4, 2) := by decide +kernel
theorem d_Mod_mark_131 : decode prog_13_method_31_code 131 = .ok (.iconst 1, 1) := by decide +kernel
theorem d_Mod_mark_132 : decode prog_13_method_31_code 132 = .ok (.bastore, 1) := by decide +kernel
theorem d_Mod_mark_133 : decode prog_13_method_31_code 133 = .ok (.iinc 4 (1), 3) := by decide +kernel
theorem d_Mod_mark_136 : decode prog_13_method_31_code 136 = .ok (.goto (-37), 3) := by decide +kernel
theorem d_Mod_mark_139 : decode prog_13_method_31_code 139 = .ok (.aload_n 0, 1) := by decide +kernel
theorem d_Mod_mark_140 : decode prog_13_method_31_code 140 = .ok (.getfield 31, 3) := by decide +kernel
theorem d_Mod_mark_143 : decode prog_13_method_31_code 143 = .ok (.iload_n 2, 1) := by decide +kernel
theorem d_Mod_mark_144 : decode prog_13_method_31_code 144 = .ok (.iconst 1, 1) := by decide +kernel
theorem d_Mod_mark_145 : decode prog_13_method_31_code 145 = .ok (.bastore, 1) := by decide +kernel
theorem d_Mod_mark_146 : decode prog_13_method_31_code 146 = .ok (.aload_n 0, 1) := by decide +kernel
theorem d_Mod_mark_147 : decode prog_13_method_31_code 147 = .ok (.iconst 5, 1) := by decide +kernel
theorem d_Mod_mark_148 : decode prog_13_method_31_code 148 = .ok (.iload_n 1, 1) := by decide +kernel
theorem d_Mod_mark_149 : decode prog_13_method_31_code 149 = .ok (.bipush (100), 2) := by decide +kernel
theorem d_Mod_mark_151 : decode prog_13_method_31_code 151 = .ok (.irem, 1) := by decide +kernel
theorem d_Mod_mark_152 : decode prog_13_method_31_code 152 = .ok (.invokevirtual 84, 3) := by decide +kernel
theorem d_Mod_mark_155 : decode prog_13_method_31_code 155 = .ok (.iload_n 3, 1) := by decide +kernel
theorem d_Mod_mark_156 : decode prog_13_method_31_code 156 = .ok (.ifCond .eq (23), 3) := by decide +kernel
theorem d_Mod_mark_159 : decode prog_13_method_31_code 159 = .ok (.aload_n 0, 1) := by decide +kernel
theorem d_Mod_mark_160 : decode prog_13_method_31_code 160 = .ok (.bipush (6), 2) := by decide +kernel
theorem d_Mod_mark_162 : decode prog_13_method_31_code 162 = .ok (.iconst 0, 1) := by decide +kernel
theorem d_Mod_mark_163 : decode prog_13_method_31_code 163 = .ok (.invokevirtual 84, 3) := by decide +kernel
theorem d_Mod_mark_166 : decode prog_13_method_31_code 166 = .ok (.aload_n 0, 1) := by decide +kernel
theorem d_Mod_mark_167 : decode prog_13_method_31_code 167 = .ok (.invokevirtual 154, 3) := by decide +kernel
theorem d_Mod_mark_170 : decode prog_13_method_31_code 170 = .ok (.ifCond .eq (7), 3) := by decide +kernel
theorem d_Mod_mark_173 : decode prog_13_method_31_code 173 = .ok (.aload_n 0, 1) := by decide +kernel
theorem d_Mod_mark_174 : decode prog_13_method_31_code 174 = .ok (.invokevirtual 174, 3) := by decide +kernel
theorem d_Mod_mark_177 : decode prog_13_method_31_code 177 = .ok (.iconst 1, 1) := by decide +kernel
theorem d_Mod_mark_178 : decode prog_13_method_31_code 178 = .ok (.ireturn, 1) := by decide +kernel
theorem d_Mod_mark_179 : decode prog_13_method_31_code 179 = .ok (.aload_n 0, 1) := by decide +kernel
theorem d_Mod_mark_180 : decode prog_13_method_31_code 180 = .ok (.getfield 22, 3) := by decide +kernel
theorem d_Mod_mark_183 : decode prog_13_method_31_code 183 = .ok (.iload_n 2, 1) := by decide +kernel
theorem d_Mod_mark_184 : decode prog_13_method_31_code 184 = .ok (.iaload, 1) := by decide +kernel
theorem d_Mod_mark_185 : decode prog_13_method_31_code 185 = .ok (.aload_n 0, 1) := by decide +kernel
theorem d_Mod_mark_186 : decode prog_13_method_31_code 186 = .ok (.getfield 28, 3) := by decide +kernel
theorem d_Mod_mark_189 : decode prog_13_method_31_code 189 = .ok (.iload_n 2, 1) := by decide +kernel
theorem d_Mod_mark_190 : decode prog_13_method_31_code 190 = .ok (.iaload, 1) := by decide +kernel
theorem d_Mod_mark_191 : decode prog_13_method_31_code 191 = .ok (.isub, 1) := by decide +kernel
theorem d_Mod_mark_192 : decode prog_13_method_31_code 192 = .ok (.istore 4, 2) := by decide +kernel
theorem d_Mod_mark_194 : decode prog_13_method_31_code 194 = .ok (.aload_n 0, 1) := by decide +kernel
theorem d_Mod_mark_195 : decode prog_13_method_31_code 195 = .ok (.getfield 22, 3) := by decide +kernel
theorem d_Mod_mark_198 : decode prog_13_method_31_code 198 = .ok (.iload_n 2, 1) := by decide +kernel
theorem d_Mod_mark_199 : decode prog_13_method_31_code 199 = .ok (.iaload, 1) := by decide +kernel
theorem d_Mod_mark_200 : decode prog_13_method_31_code 200 = .ok (.aload_n 0, 1) := by decide +kernel
theorem d_Mod_mark_201 : decode prog_13_method_31_code 201 = .ok (.getfield 28, 3) := by decide +kernel
theorem d_Mod_mark_204 : decode prog_13_method_31_code 204 = .ok (.iload_n 2, 1) := by decide +kernel
theorem d_Mod_mark_205 : decode prog_13_method_31_code 205 = .ok (.iaload, 1) := by decide +kernel
theorem d_Mod_mark_206 : decode prog_13_method_31_code 206 = .ok (.iadd, 1) := by decide +kernel
theorem d_Mod_mark_207 : decode prog_13_method_31_code 207 = .ok (.istore 5, 2) := by decide +kernel
theorem d_Mod_mark_209 : decode prog_13_method_31_code 209 = .ok (.aload_n 0, 1) := by decide +kernel
theorem d_Mod_mark_210 : decode prog_13_method_31_code 210 = .ok (.aload_n 0, 1) := by decide +kernel
theorem d_Mod_mark_211 : decode prog_13_method_31_code 211 = .ok (.getfield 189, 3) := by decide +kernel
theorem d_Mod_mark_214 : decode prog_13_method_31_code 214 = .ok (.iload 4, 2) := by decide +kernel
theorem d_Mod_mark_216 : decode prog_13_method_31_code 216 = .ok (.if_icmp .ge (8), 3) := by decide +kernel
theorem d_Mod_mark_219 : decode prog_13_method_31_code 219 = .ok (.iload 4, 2) := by decide +kernel
theorem d_Mod_mark_221 : decode prog_13_method_31_code 221 = .ok (.goto (7), 3) := by decide +kernel
theorem d_Mod_mark_224 : decode prog_13_method_31_code 224 = .ok (.aload_n 0, 1) := by decide +kernel
theorem d_Mod_mark_225 : decode prog_13_method_31_code 225 = .ok (.getfield 189, 3) := by decide +kernel
theorem d_Mod_mark_228 : decode prog_13_method_31_code 228 = .ok (.putfield 189, 3) := by decide +kernel
theorem d_Mod_mark_231 : decode prog_13_method_31_code 231 = .ok (.aload_n 0, 1) := by decide +kernel
theorem d_Mod_mark_232 : decode prog_13_method_31_code 232 = .ok (.aload_n 0, 1) := by decide +kernel
theorem d_Mod_mark_233 : decode prog_13_method_31_code 233 = .ok (.getfield 195, 3) := by decide +kernel
theorem d_Mod_mark_236 : decode prog_13_method_31_code 236 = .ok (.iload 5, 2) := by decide +kernel
theorem d_Mod_mark_238 : decode prog_13_method_31_code 238 = .ok (.if_icmp .le (8), 3) := by decide +kernel
theorem d_Mod_mark_241 : decode prog_13_method_31_code 241 = .ok (.iload 5, 2) := by decide +kernel
theorem d_Mod_mark_243 : decode prog_13_method_31_code 243 = .ok (.goto (7), 3) := by decide +kernel
theorem d_Mod_mark_246 : decode prog_13_method_31_code 246 = .ok (.aload_n 0, 1) := by decide +kernel
theorem d_Mod_mark_247 : decode prog_13_method_31_code 247 = .ok (.getfield 195, 3) := by decide +kernel
theorem d_Mod_mark_250 : decode prog_13_method_31_code 250 = .ok (.putfield 195, 3) := by decide +kernel
theorem d_Mod_mark_253 : decode prog_13_method_31_code 253 = .ok (.iconst 1, 1) := by decide +kernel
theorem d_Mod_mark_254 : decode prog_13_method_31_code 254 = .ok (.ireturn, 1) := by decide +kernel
theorem d_Mod_moves_0 : decode prog_13_method_32_code 0 = .ok (.iload_n 1, 1) := by decide +kernel
theorem d_Mod_moves_1 : decode prog_13_method_32_code 1 = .ok (.ifCond .ne (7), 3) := by decide +kernel
theorem d_Mod_moves_4 : decode prog_13_method_32_code 4 = .ok (.iconst 0, 1) := by decide +kernel
theorem d_Mod_moves_5 : decode prog_13_method_32_code 5 = .ok (.goto (9), 3) := by decide +kernel
theorem d_Mod_moves_8 : decode prog_13_method_32_code 8 = .ok (.iconst 1, 1) := by decide +kernel
theorem d_Mod_moves_9 : decode prog_13_method_32_code 9 = .ok (.iload_n 1, 1) := by decide +kernel
theorem d_Mod_moves_10 : decode prog_13_method_32_code 10 = .ok (.bipush (16), 2) := by decide +kernel
theorem d_Mod_moves_12 : decode prog_13_method_32_code 12 = .ok (.idiv, 1) := by decide +kernel
theorem d_Mod_moves_13 : decode prog_13_method_32_code 13 = .ok (.iadd, 1) := by decide +kernel
theorem d_Mod_moves_14 : decode prog_13_method_32_code 14 = .ok (.istore_n 2, 1) := by decide +kernel
theorem d_Mod_moves_15 : decode prog_13_method_32_code 15 = .ok (.aload_n 0, 1) := by decide +kernel
theorem d_Mod_moves_16 : decode prog_13_method_32_code 16 = .ok (.dup, 1) := by decide +kernel
theorem d_Mod_moves_17 : decode prog_13_method_32_code 17 = .ok (.getfield 195, 3) := by decide +kernel
theorem d_Mod_moves_20 : decode prog_13_method_32_code 20 = .ok (.iload_n 1, 1) := by decide +kernel
theorem d_Mod_moves_21 : decode prog_13_method_32_code 21 = .ok (.iload_n 2, 1) := by decide +kernel
theorem d_Mod_moves_22 : decode prog_13_method_32_code 22 = .ok (.iadd, 1) := by decide +kernel
theorem d_Mod_moves_23 : decode prog_13_method_32_code 23 = .ok (.iadd, 1) := by decide +kernel
theorem d_Mod_moves_24 : decode prog_13_method_32_code 24 = .ok (.putfield 195, 3) := by decide +kernel
theorem d_Mod_moves_27 : decode prog_13_method_32_code 27 = .ok (.aload_n 0, 1) := by decide +kernel
theorem d_Mod_moves_28 : decode prog_13_method_32_code 28 = .ok (.dup, 1) := by decide +kernel
theorem d_Mod_moves_29 : decode prog_13_method_32_code 29 = .ok (.getfield 189, 3) := by decide +kernel
theorem d_Mod_moves_32 : decode prog_13_method_32_code 32 = .ok (.iload_n 1, 1) := by decide +kernel
theorem d_Mod_moves_33 : decode prog_13_method_32_code 33 = .ok (.iload_n 2, 1) := by decide +kernel
theorem d_Mod_moves_34 : decode prog_13_method_32_code 34 = .ok (.isub, 1) := by decide +kernel
theorem d_Mod_moves_35 : decode prog_13_method_32_code 35 = .ok (.iadd, 1) := by decide +kernel
theorem d_Mod_moves_36 : decode prog_13_method_32_code 36 = .ok (.putfield 189, 3) := by decide +kernel
theorem d_Mod_moves_39 : decode prog_13_method_32_code 39 = .ok (.aload_n 0, 1) := by decide +kernel
theorem d_Mod_moves_40 : decode prog_13_method_32_code 40 = .ok (.iload_n 1, 1) := by decide +kernel
theorem d_Mod_moves_41 : decode prog_13_method_32_code 41 = .ok (.iload_n 2, 1) := by decide +kernel
theorem d_Mod_moves_42 : decode prog_13_method_32_code 42 = .ok (.iadd, 1) := by decide +kernel
theorem d_Mod_moves_43 : decode prog_13_method_32_code 43 = .ok (.putfield 158, 3) := by decide +kernel
theorem d_Mod_moves_46 : decode prog_13_method_32_code 46 = .ok (.aload_n 0, 1) := by decide +kernel
theorem d_Mod_moves_47 : decode prog_13_method_32_code 47 = .ok (.invokevirtual 154, 3) := by decide +kernel
theorem d_Mod_moves_50 : decode prog_13_method_32_code 50 = .ok (.ifCond .eq (98), 3) := by decide +kernel
theorem d_Mod_moves_53 : decode prog_13_method_32_code 53 = .ok (.iconst 0, 1) := by decide +kernel
theorem d_Mod_moves_54 : decode prog_13_method_32_code 54 = .ok (.istore_n 3, 1) := by decide +kernel
theorem d_Mod_moves_55 : decode prog_13_method_32_code 55 = .ok (.iconst 0, 1) := by decide +kernel
theorem d_Mod_moves_56 : decode prog_13_method_32_code 56 = .ok (.istore 4, 2) := by decide +kernel
theorem d_Mod_moves_58 : decode prog_13_method_32_code 58 = .ok (.iload 4, 2) := by decide +kernel
theorem d_Mod_moves_60 : decode prog_13_method_32_code 60 = .ok (.aload_n 0, 1) := by decide +kernel
theorem d_Mod_moves_61 : decode prog_13_method_32_code 61 = .ok (.getfield 98, 3) := by decide +kernel
theorem d_Mod_moves_64 : decode prog_13_method_32_code 64 = .ok (.if_icmp .ge (51), 3) := by decide +kernel
theorem d_Mod_moves_67 : decode prog_13_method_32_code 67 = .ok (.iload_n 3, 1) := by decide +kernel
theorem d_Mod_moves_68 : decode prog_13_method_32_code 68 = .ok (.ifCond .ne (35), 3) := by decide +kernel
theorem d_Mod_moves_71 : decode prog_13_method_32_code 71 = .ok (.aload_n 0, 1) := by decide +kernel
theorem d_Mod_moves_72 : decode prog_13_method_32_code 72 = .ok (.getfield 31, 3) := by decide +kernel
theorem d_Mod_moves_75 : decode prog_13_method_32_code 75 = .ok (.iload 4, 2) := by decide +kernel
theorem d_Mod_moves_77 : decode prog_13_method_32_code 77 = .ok (.baload, 1) := by decide +kernel
theorem d_Mod_moves_78 : decode prog_13_method_32_code 78 = .ok (.ifCond .ne (29), 3) := by decide +kernel
theorem d_Mod_moves_81 : decode prog_13_method_32_code 81 = .ok (.aload_n 0, 1) := by decide +kernel
theorem d_Mod_moves_82 : decode prog_13_method_32_code 82 = .ok (.getfield 22, 3) := by decide +kernel
theorem d_Mod_moves_85 : decode prog_13_method_32_code 85 = .ok (.iload 4, 2) := by decide +kernel
theorem d_Mod_moves_87 : decode prog_13_method_32_code 87 = .ok (.iaload, 1) := by decide +kernel
theorem d_Mod_moves_88 : decode prog_13_method_32_code 88 = .ok (.aload_n 0, 1) := by decide +kernel
theorem d_Mod_moves_89 : decode prog_13_method_32_code 89 = .ok (.getfield 28, 3) := by decide +kernel
theorem d_Mod_moves_92 : decode prog_13_method_32_code 92 = .ok (.iload 4, 2) := by decide +kernel
theorem d_Mod_moves_94 : decode prog_13_method_32_code 94 = .ok (.iaload, 1) := by decide +kernel
theorem d_Mod_moves_95 : decode prog_13_method_32_code 95 = .ok (.iadd, 1) := by decide +kernel
theorem d_Mod_moves_96 : decode prog_13_method_32_code 96 = .ok (.aload_n 0, 1) := by decide +kernel
theorem d_Mod_moves_97 : decode prog_13_method_32_code 97 = .ok (.getfield 189, 3) := by decide +kernel
theorem d_Mod_moves_100 : decode prog_13_method_32_code 100 = .ok (.if_icmp .ge (7), 3) := by decide +kernel
theorem d_Mod_moves_103 : decode prog_13_method_32_code 103 = .ok (.iconst 1, 1) := by decide +kernel
theorem d_Mod_moves_104 : decode prog_13_method_32_code 104 = .ok (.goto (4), 3) := by decide +kernel
theorem d_Mod_moves_107 : decode prog_13_method_32_code 107 = .ok (.iconst 0, 1) := by decide +kernel
theorem d_Mod_moves_108 : decode prog_13_method_32_code 108 = .ok (.istore_n 3, 1) := by decide +kernel
theorem d_Mod_moves_109 : decode prog_13_method_32_code 109 = .ok (.iinc 4 (1), 3) := by decide +kernel
theorem d_Mod_moves_112 : decode prog_13_method_32_code 112 = .ok (.goto (-54), 3) := by decide +kernel
theorem d_Mod_moves_115 : decode prog_13_method_32_code 115 = .ok (.iload_n 3, 1) := by decide +kernel
theorem d_Mod_moves_116 : decode prog_13_method_32_code 116 = .ok (.ifCond .eq (10), 3) := by decide +kernel
theorem d_Mod_moves_119 : decode prog_13_method_32_code 119 = .ok (.aload_n 0, 1) := by decide +kernel
theorem d_Mod_moves_120 : decode prog_13_method_32_code 120 = .ok (.bipush (6), 2) := by decide +kernel
theorem d_Mod_moves_122 : decode prog_13_method_32_code 122 = .ok (.iconst 0, 1) := by decide +kernel
theorem d_Mod_moves_123 : decode prog_13_method_32_code 123 = .ok (.invokevirtual 84, 3) := by decide +kernel
theorem d_Mod_moves_126 : decode prog_13_method_32_code 126 = .ok (.iload_n 3, 1) := by decide +kernel
theorem d_Mod_moves_127 : decode prog_13_method_32_code 127 = .ok (.ifCond .ne (14), 3) := by decide +kernel
theorem d_Mod_moves_130 : decode prog_13_method_32_code 130 = .ok (.aload_n 0, 1) := by decide +kernel
theorem d_Mod_moves_131 : decode prog_13_method_32_code 131 = .ok (.getfield 189, 3) := by decide +kernel
theorem d_Mod_moves_134 : decode prog_13_method_32_code 134 = .ok (.aload_n 0, 1) := by decide +kernel
theorem d_Mod_moves_135 : decode prog_13_method_32_code 135 = .ok (.getfield 151, 3) := by decide +kernel
theorem d_Mod_moves_138 : decode prog_13_method_32_code 138 = .ok (.if_icmp .le (7), 3) := by decide +kernel
theorem d_Mod_moves_141 : decode prog_13_method_32_code 141 = .ok (.aload_n 0, 1) := by decide +kernel
theorem d_Mod_moves_142 : decode prog_13_method_32_code 142 = .ok (.invokevirtual 174, 3) := by decide +kernel
theorem d_Mod_moves_145 : decode prog_13_method_32_code 145 = .ok (.goto (26), 3) := by decide +kernel
theorem d_Mod_moves_148 : decode prog_13_method_32_code 148 = .ok (.aload_n 0, 1) := by decide +kernel
theorem d_Mod_moves_149 : decode prog_13_method_32_code 149 = .ok (.getfield 81, 3) := by decide +kernel
theorem d_Mod_moves_152 : decode prog_13_method_32_code 152 = .ok (.iconst 1, 1) := by decide +kernel
theorem d_Mod_moves_153 : decode prog_13_method_32_code 153 = .ok (.if_icmp .ne (18), 3) := by decide +kernel
theorem d_Mod_moves_156 : decode prog_13_method_32_code 156 = .ok (.aload_n 0, 1) := by decide +kernel
theorem d_Mod_moves_157 : decode prog_13_method_32_code 157 = .ok (.getfield 189, 3) := by decide +kernel
theorem d_Mod_moves_160 : decode prog_13_method_32_code 160 = .ok (.aload_n 0, 1) := by decide +kernel
theorem d_Mod_moves_161 : decode prog_13_method_32_code 161 = .ok (.getfield 216, 3) := by decide +kernel
theorem d_Mod_moves_164 : decode prog_13_method_32_code 164 = .ok (.if_icmp .le (7), 3) := by decide +kernel
theorem d_Mod_moves_167 : decode prog_13_method_32_code 167 = .ok (.aload_n 0, 1) := by decide +kernel
theorem d_Mod_moves_168 : decode prog_13_method_32_code 168 = .ok (.invokevirtual 174, 3) := by decide +kernel
theorem d_Mod_moves_171 : decode prog_13_method_32_code 171 = .ok (.return_, 1) := by decide +kernel
theorem d_Mod_cycle_0 : decode prog_13_method_33_code 0 = .ok (.aload_n 0, 1) := by decide +kernel
theorem d_Mod_cycle_1 : decode prog_13_method_33_code 1 = .ok (.dup, 1) := by decide +kernel
theorem d_Mod_cycle_2 : decode prog_13_method_33_code 2 = .ok (.getfield 75, 3) := by decide +kernel
theorem d_Mod_cycle_5 : decode prog_13_method_33_code 5 = .ok (.iconst 1, 1) := by decide +kernel
theorem d_Mod_cycle_6 : decode prog_13_method_33_code 6 = .ok (.iadd, 1) := by decide +kernel
theorem d_Mod_cycle_7 : decode prog_13_method_33_code 7 = .ok (.putfield 75, 3) := by decide +kernel
theorem d_Mod_cycle_10 : decode prog_13_method_33_code 10 = .ok (.aload_n 0, 1) := by decide +kernel
theorem d_Mod_cycle_11 : decode prog_13_method_33_code 11 = .ok (.getfield 81, 3) := by decide +kernel
theorem d_Mod_cycle_14 : decode prog_13_method_33_code 14 = .ok (.bipush (6), 2) := by decide +kernel
theorem d_Mod_cycle_16 : decode prog_13_method_33_code 16 = .ok (.if_icmp .eq (14), 3) := by decide +kernel
theorem d_Mod_cycle_19 : decode prog_13_method_33_code 19 = .ok (.iload_n 1, 1) := by decide +kernel
theorem d_Mod_cycle_20 : decode prog_13_method_33_code 20 = .ok (.ifCond .lt (10), 3) := by decide +kernel
theorem d_Mod_cycle_23 : decode prog_13_method_33_code 23 = .ok (.iload_n 1, 1) := by decide +kernel
theorem d_Mod_cycle_24 : decode prog_13_method_33_code 24 = .ok (.sipush (500), 3) := by decide +kernel
theorem d_Mod_cycle_27 : decode prog_13_method_33_code 27 = .ok (.if_icmp .le (12), 3) := by decide +kernel
theorem d_Mod_cycle_30 : decode prog_13_method_33_code 30 = .ok (.aload_n 0, 1) := by decide +kernel
theorem d_Mod_cycle_31 : decode prog_13_method_33_code 31 = .ok (.bipush (6), 2) := by decide +kernel
theorem d_Mod_cycle_33 : decode prog_13_method_33_code 33 = .ok (.invokevirtual 104, 3) := by decide +kernel
theorem d_Mod_cycle_36 : decode prog_13_method_33_code 36 = .ok (.goto (8), 3) := by decide +kernel
theorem d_Mod_cycle_39 : decode prog_13_method_33_code 39 = .ok (.aload_n 0, 1) := by decide +kernel
theorem d_Mod_cycle_40 : decode prog_13_method_33_code 40 = .ok (.iload_n 1, 1) := by decide +kernel
theorem d_Mod_cycle_41 : decode prog_13_method_33_code 41 = .ok (.invokevirtual 219, 3) := by decide +kernel
theorem d_Mod_cycle_44 : decode prog_13_method_33_code 44 = .ok (.aload_n 0, 1) := by decide +kernel
theorem d_Mod_cycle_45 : decode prog_13_method_33_code 45 = .ok (.aload_n 0, 1) := by decide +kernel
theorem d_Mod_cycle_46 : decode prog_13_method_33_code 46 = .ok (.getfield 158, 3) := by decide +kernel
theorem d_Mod_cycle_49 : decode prog_13_method_33_code 49 = .ok (.aload_n 0, 1) := by decide +kernel
theorem d_Mod_cycle_50 : decode prog_13_method_33_code 50 = .ok (.getfield 151, 3) := by decide +kernel
theorem d_Mod_cycle_53 : decode prog_13_method_33_code 53 = .ok (.invokevirtual 161, 3) := by decide +kernel
theorem d_Mod_cycle_56 : decode prog_13_method_33_code 56 = .ok (.istore_n 2, 1) := by decide +kernel
theorem d_Mod_cycle_57 : decode prog_13_method_33_code 57 = .ok (.aload_n 0, 1) := by decide +kernel
theorem d_Mod_cycle_58 : decode prog_13_method_33_code 58 = .ok (.iload_n 2, 1) := by decide +kernel
theorem d_Mod_cycle_59 : decode prog_13_method_33_code 59 = .ok (.iconst 4, 1) := by decide +kernel
theorem d_Mod_cycle_60 : decode prog_13_method_33_code 60 = .ok (.if_icmp .eq (14), 3) := by decide +kernel
theorem d_Mod_cycle_63 : decode prog_13_method_33_code 63 = .ok (.aload_n 0, 1) := by decide +kernel
theorem d_Mod_cycle_64 : decode prog_13_method_33_code 64 = .ok (.getfield 222, 3) := by decide +kernel
theorem d_Mod_cycle_67 : decode prog_13_method_33_code 67 = .ok (.ifCond .eq (11), 3) := by decide +kernel
theorem d_Mod_cycle_70 : decode prog_13_method_33_code 70 = .ok (.iload_n 1, 1) := by decide +kernel
theorem d_Mod_cycle_71 : decode prog_13_method_33_code 71 = .ok (.ifCond .eq (7), 3) := by decide +kernel
theorem d_Mod_cycle_74 : decode prog_13_method_33_code 74 = .ok (.iconst 1, 1) := by decide +kernel
theorem d_Mod_cycle_75 : decode prog_13_method_33_code 75 = .ok (.goto (4), 3) := by decide +kernel
theorem d_Mod_cycle_78 : decode prog_13_method_33_code 78 = .ok (.iconst 0, 1) := by decide +kernel
theorem d_Mod_cycle_79 : decode prog_13_method_33_code 79 = .ok (.putfield 222, 3) := by decide +kernel
theorem d_Mod_cycle_82 : decode prog_13_method_33_code 82 = .ok (.aload_n 0, 1) := by decide +kernel
theorem d_Mod_cycle_83 : decode prog_13_method_33_code 83 = .ok (.iload_n 2, 1) := by decide +kernel
theorem d_Mod_cycle_84 : decode prog_13_method_33_code 84 = .ok (.iconst 3, 1) := by decide +kernel
theorem d_Mod_cycle_85 : decode prog_13_method_33_code 85 = .ok (.if_icmp .ge (18), 3) := by decide +kernel
theorem d_Mod_cycle_88 : decode prog_13_method_33_code 88 = .ok (.aload_n 0, 1) := by decide +kernel
theorem d_Mod_cycle_89 : decode prog_13_method_33_code 89 = .ok (.getfield 225, 3) := by decide +kernel
theorem d_Mod_cycle_92 : decode prog_13_method_33_code 92 = .ok (.ifCond .eq (15), 3) := by decide +kernel
theorem d_Mod_cycle_95 : decode prog_13_method_33_code 95 = .ok (.iload_n 2, 1) := by decide +kernel
theorem d_Mod_cycle_96 : decode prog_13_method_33_code 96 = .ok (.ifCond .eq (11), 3) := by decide +kernel
theorem d_Mod_cycle_99 : decode prog_13_method_33_code 99 = .ok (.iload_n 1, 1) := by decide +kernel
theorem d_Mod_cycle_100 : decode prog_13_method_33_code 100 = .ok (.ifCond .eq (7), 3) := by decide +kernel
theorem d_Mod_cycle_103 : decode prog_13_method_33_code 103 = .ok (.iconst 1, 1) := by decide +kernel
theorem d_Mod_cycle_104 : decode prog_13_method_33_code 104 = .ok (.goto (4), 3) := by decide +kernel
theorem d_Mod_cycle_107 : decode prog_13_method_33_code 107 = .ok (.iconst 0, 1) := by decide +kernel
theorem d_Mod_cycle_108 : decode prog_13_method_33_code 108 = .ok (.putfield 225, 3) := by decide +kernel
theorem d_Mod_cycle_111 : decode prog_13_method_33_code 111 = .ok (.aload_n 0, 1) := by decide +kernel
theorem d_Mod_cycle_112 : decode prog_13_method_33_code 112 = .ok (.dup, 1) := by decide +kernel
theorem d_Mod_cycle_113 : decode prog_13_method_33_code 113 = .ok (.getfield 111, 3) := by decide +kernel
theorem d_Mod_cycle_116 : decode prog_13_method_33_code 116 = .ok (.aload_n 0, 1) := by decide +kernel
theorem d_Mod_cycle_117 : decode prog_13_method_33_code 117 = .ok (.getfield 101, 3) := by decide +kernel
theorem d_Mod_cycle_120 : decode prog_13_method_33_code 120 = .ok (.ifCond .eq (7), 3) := by decide +kernel
theorem d_Mod_cycle_123 : decode prog_13_method_33_code 123 = .ok (.iconst 1, 1) := by decide +kernel
theorem d_Mod_cycle_124 : decode prog_13_method_33_code 124 = .ok (.goto (4), 3) := by decide +kernel
theorem d_Mod_cycle_127 : decode prog_13_method_33_code 127 = .ok (.iconst 0, 1) := by decide +kernel
theorem d_Mod_cycle_128 : decode prog_13_method_33_code 128 = .ok (.iadd, 1) := by decide +kernel
theorem d_Mod_cycle_129 : decode prog_13_method_33_code 129 = .ok (.putfield 111, 3) := by decide +kernel
theorem d_Mod_cycle_132 : decode prog_13_method_33_code 132 = .ok (.aload_n 0, 1) := by decide +kernel
theorem d_Mod_cycle_133 : decode prog_13_method_33_code 133 = .ok (.getfield 222, 3) := by decide +kernel
theorem d_Mod_cycle_136 : decode prog_13_method_33_code 136 = .ok (.ifCond .eq (7), 3) := by decide +kernel
theorem d_Mod_cycle_139 : decode prog_13_method_33_code 139 = .ok (.iconst 2, 1) := by decide +kernel
theorem d_Mod_cycle_140 : decode prog_13_method_33_code 140 = .ok (.goto (30), 3) := by decide +kernel
theorem d_Mod_cycle_143 : decode prog_13_method_33_code 143 = .ok (.aload_n 0, 1) := by decide +kernel
theorem d_Mod_cycle_144 : decode prog_13_method_33_code 144 = .ok (.getfield 225, 3) := by decide +kernel
theorem d_Mod_cycle_147 : decode prog_13_method_33_code 147 = .ok (.ifCond .ne (18), 3) := by decide +kernel
theorem d_Mod_cycle_150 : decode prog_13_method_33_code 150 = .ok (.aload_n 0, 1) := by decide +kernel
theorem d_Mod_cycle_151 : decode prog_13_method_33_code 151 = .ok (.getfield 101, 3) := by decide +kernel
theorem d_Mod_cycle_154 : decode prog_13_method_33_code 154 = .ok (.ifCond .eq (15), 3) := by decide +kernel
theorem d_Mod_cycle_157 : decode prog_13_method_33_code 157 = .ok (.aload_n 0, 1) := by decide +kernel
theorem d_Mod_cycle_158 : decode prog_13_method_33_code 158 = .ok (.getfield 111, 3) := by decide +kernel
theorem d_Mod_cycle_161 : decode prog_13_method_33_code 161 = .ok (.iconst 3, 1) := by decide +kernel
theorem d_Mod_cycle_162 : decode prog_13_method_33_code 162 = .ok (.if_icmp .lt (7), 3) := by decide +kernel
theorem d_Mod_cycle_165 : decode prog_13_method_33_code 165 = .ok (.iconst 1, 1) := by decide +kernel
theorem d_Mod_cycle_166 : decode prog_13_method_33_code 166 = .ok (.goto (4), 3) := by decide +kernel
theorem d_Mod_cycle_169 : decode prog_13_method_33_code 169 = .ok (.iconst 0, 1) := by decide +kernel
theorem d_Mod_cycle_170 : decode prog_13_method_33_code 170 = .ok (.istore_n 3, 1) := by decide +kernel
theorem d_Mod_cycle_171 : decode prog_13_method_33_code 171 = .ok (.iload_n 3, 1) := by decide +kernel
theorem d_Mod_cycle_172 : decode prog_13_method_33_code 172 = .ok (.aload_n 0, 1) := by decide +kernel
theorem d_Mod_cycle_173 : decode prog_13_method_33_code 173 = .ok (.getfield 228, 3) := by decide +kernel
theorem d_Mod_cycle_176 : decode prog_13_method_33_code 176 = .ok (.if_icmp .eq (14), 3) := by decide +kernel
theorem d_Mod_cycle_179 : decode prog_13_method_33_code 179 = .ok (.aload_n 0, 1) := by decide +kernel
theorem d_Mod_cycle_180 : decode prog_13_method_33_code 180 = .ok (.iload_n 3, 1) := by decide +kernel
theorem d_Mod_cycle_181 : decode prog_13_method_33_code 181 = .ok (.putfield 228, 3) := by decide +kernel
theorem d_Mod_cycle_184 : decode prog_13_method_33_code 184 = .ok (.aload_n 0, 1) := by decide +kernel
theorem d_Mod_cycle_185 : decode prog_13_method_33_code 185 = .ok (.iconst 2, 1) := by decide +kernel
theorem d_Mod_cycle_186 : decode prog_13_method_33_code 186 = .ok (.iload_n 3, 1) := by decide +kernel
theorem d_Mod_cycle_187 : decode prog_13_method_33_code 187 = .ok (.invokevirtual 84, 3) := by decide +kernel
theorem d_Mod_cycle_190 : decode prog_13_method_33_code 190 = .ok (.aload_n 0, 1) := by decide +kernel
theorem d_Mod_cycle_191 : decode prog_13_method_33_code 191 = .ok (.getfield 228, 3) := by decide +kernel
theorem d_Mod_cycle_194 : decode prog_13_method_33_code 194 = .ok (.ireturn, 1) := by decide +kernel
theorem d_Mod_driver_0 : decode prog_13_method_34_code 0 = .ok (.iload_n 1, 1) := by decide +kernel
theorem d_Mod_driver_1 : decode prog_13_method_34_code 1 = .ok (.ifCond .ne (29), 3) := by decide +kernel
theorem d_Mod_driver_4 : decode prog_13_method_34_code 4 = .ok (.aload_n 0, 1) := by decide +kernel
theorem d_Mod_driver_5 : decode prog_13_method_34_code 5 = .ok (.getfield 81, 3) := by decide +kernel
theorem d_Mod_driver_8 : decode prog_13_method_34_code 8 = .ok (.ifCond .eq (11), 3) := by decide +kernel
theorem d_Mod_driver_11 : decode prog_13_method_34_code 11 = .ok (.aload_n 0, 1) := by decide +kernel
theorem d_Mod_driver_12 : decode prog_13_method_34_code 12 = .ok (.getfield 81, 3) := by decide +kernel
theorem d_Mod_driver_15 : decode prog_13_method_34_code 15 = .ok (.iconst 5, 1) := by decide +kernel
theorem d_Mod_driver_16 : decode prog_13_method_34_code 16 = .ok (.if_icmp .ne (14), 3) := by decide +kernel
theorem d_Mod_driver_19 : decode prog_13_method_34_code 19 = .ok (.aload_n 0, 1) := by decide +kernel
theorem d_Mod_driver_20 : decode prog_13_method_34_code 20 = .ok (.getfield 158, 3) := by decide +kernel
theorem d_Mod_driver_23 : decode prog_13_method_34_code 23 = .ok (.ifCond .ne (7), 3) := by decide +kernel
theorem d_Mod_driver_26 : decode prog_13_method_34_code 26 = .ok (.iconst 1, 1) := by decide +kernel
theorem d_Mod_driver_27 : decode prog_13_method_34_code 27 = .ok (.goto (4), 3) := by decide +kernel
theorem d_Mod_driver_30 : decode prog_13_method_34_code 30 = .ok (.iconst 0, 1) := by decide +kernel
theorem d_Mod_driver_31 : decode prog_13_method_34_code 31 = .ok (.istore_n 2, 1) := by decide +kernel
theorem d_Mod_driver_32 : decode prog_13_method_34_code 32 = .ok (.iload_n 1, 1) := by decide +kernel
theorem d_Mod_driver_33 : decode prog_13_method_34_code 33 = .ok (.iconst 1, 1) := by decide +kernel
theorem d_Mod_driver_34 : decode prog_13_method_34_code 34 = .ok (.if_icmp .ne (14), 3) := by decide +kernel
theorem d_Mod_driver_37 : decode prog_13_method_34_code 37 = .ok (.aload_n 0, 1) := by decide +kernel
theorem d_Mod_driver_38 : decode prog_13_method_34_code 38 = .ok (.getfield 101, 3) := by decide +kernel
theorem d_Mod_driver_41 : decode prog_13_method_34_code 41 = .ok (.ifCond .eq (7), 3) := by decide +kernel
theorem d_Mod_driver_44 : decode prog_13_method_34_code 44 = .ok (.iconst 1, 1) := by decide +kernel
theorem d_Mod_driver_45 : decode prog_13_method_34_code 45 = .ok (.goto (4), 3) := by decide +kernel
theorem d_Mod_driver_48 : decode prog_13_method_34_code 48 = .ok (.iconst 0, 1) := by decide +kernel
theorem d_Mod_driver_49 : decode prog_13_method_34_code 49 = .ok (.istore_n 3, 1) := by decide +kernel
theorem d_Mod_driver_50 : decode prog_13_method_34_code 50 = .ok (.iload_n 1, 1) := by decide +kernel
theorem d_Mod_driver_51 : decode prog_13_method_34_code 51 = .ok (.iconst 2, 1) := by decide +kernel
theorem d_Mod_driver_52 : decode prog_13_method_34_code 52 = .ok (.if_icmp .ne (22), 3) := by decide +kernel
theorem d_Mod_driver_55 : decode prog_13_method_34_code 55 = .ok (.aload_n 0, 1) := by decide +kernel
theorem d_Mod_driver_56 : decode prog_13_method_34_code 56 = .ok (.getfield 81, 3) := by decide +kernel
theorem d_Mod_driver_59 : decode prog_13_method_34_code 59 = .ok (.iconst 4, 1) := by decide +kernel
theorem d_Mod_driver_60 : decode prog_13_method_34_code 60 = .ok (.if_icmp .ne (14), 3) := by decide +kernel
theorem d_Mod_driver_63 : decode prog_13_method_34_code 63 = .ok (.aload_n 0, 1) := by decide +kernel
theorem d_Mod_driver_64 : decode prog_13_method_34_code 64 = .ok (.getfield 158, 3) := by decide +kernel
theorem d_Mod_driver_67 : decode prog_13_method_34_code 67 = .ok (.ifCond .ne (7), 3) := by decide +kernel
theorem d_Mod_driver_70 : decode prog_13_method_34_code 70 = .ok (.iconst 1, 1) := by decide +kernel
theorem d_Mod_driver_71 : decode prog_13_method_34_code 71 = .ok (.goto (4), 3) := by decide +kernel
theorem d_Mod_driver_74 : decode prog_13_method_34_code 74 = .ok (.iconst 0, 1) := by decide +kernel
theorem d_Mod_driver_75 : decode prog_13_method_34_code 75 = .ok (.istore 4, 2) := by decide +kernel
theorem d_Mod_driver_77 : decode prog_13_method_34_code 77 = .ok (.iload_n 2, 1) := by decide +kernel
theorem d_Mod_driver_78 : decode prog_13_method_34_code 78 = .ok (.ifCond .ne (14), 3) := by decide +kernel
theorem d_Mod_driver_81 : decode prog_13_method_34_code 81 = .ok (.iload_n 3, 1) := by decide +kernel
theorem d_Mod_driver_82 : decode prog_13_method_34_code 82 = .ok (.ifCond .ne (10), 3) := by decide +kernel
theorem d_Mod_driver_85 : decode prog_13_method_34_code 85 = .ok (.iload 4, 2) := by decide +kernel
theorem d_Mod_driver_87 : decode prog_13_method_34_code 87 = .ok (.ifCond .ne (5), 3) := by decide +kernel
theorem d_Mod_driver_90 : decode prog_13_method_34_code 90 = .ok (.iconst 0, 1) := by decide +kernel
theorem d_Mod_driver_91 : decode prog_13_method_34_code 91 = .ok (.ireturn, 1) := by decide +kernel
theorem d_Mod_driver_92 : decode prog_13_method_34_code 92 = .ok (.aload_n 0, 1) := by decide +kernel
theorem d_Mod_driver_93 : decode prog_13_method_34_code 93 = .ok (.bipush (7), 2) := by decide +kernel
theorem d_Mod_driver_95 : decode prog_13_method_34_code 95 = .ok (.iload_n 1, 1) := by decide +kernel
theorem d_Mod_driver_96 : decode prog_13_method_34_code 96 = .ok (.invokevirtual 84, 3) := by decide +kernel
theorem d_Mod_driver_99 : decode prog_13_method_34_code 99 = .ok (.iload_n 3, 1) := by decide +kernel
theorem d_Mod_driver_100 : decode prog_13_method_34_code 100 = .ok (.ifCond .eq (11), 3) := by decide +kernel
theorem d_Mod_driver_103 : decode prog_13_method_34_code 103 = .ok (.aload_n 0, 1) := by decide +kernel
theorem d_Mod_driver_104 : decode prog_13_method_34_code 104 = .ok (.iconst 0, 1) := by decide +kernel
theorem d_Mod_driver_105 : decode prog_13_method_34_code 105 = .ok (.putfield 101, 3) := by decide +kernel
theorem d_Mod_driver_108 : decode prog_13_method_34_code 108 = .ok (.goto (54), 3) := by decide +kernel
theorem d_Mod_driver_111 : decode prog_13_method_34_code 111 = .ok (.iload 4, 2) := by decide +kernel
theorem d_Mod_driver_113 : decode prog_13_method_34_code 113 = .ok (.ifCond .eq (11), 3) := by decide +kernel
theorem d_Mod_driver_116 : decode prog_13_method_34_code 116 = .ok (.aload_n 0, 1) := by decide +kernel
theorem d_Mod_driver_117 : decode prog_13_method_34_code 117 = .ok (.iconst 5, 1) := by decide +kernel
theorem d_Mod_driver_118 : decode prog_13_method_34_code 118 = .ok (.invokevirtual 104, 3) := by decide +kernel
theorem d_Mod_driver_121 : decode prog_13_method_34_code 121 = .ok (.goto (41), 3) := by decide +kernel
theorem d_Mod_driver_124 : decode prog_13_method_34_code 124 = .ok (.aload_n 0, 1) := by decide +kernel
theorem d_Mod_driver_125 : decode prog_13_method_34_code 125 = .ok (.getfield 88, 3) := by decide +kernel
theorem d_Mod_driver_128 : decode prog_13_method_34_code 128 = .ok (.ifCond .eq (17), 3) := by decide +kernel
theorem d_Mod_driver_131 : decode prog_13_method_34_code 131 = .ok (.aload_n 0, 1) := by decide +kernel
theorem d_Mod_driver_132 : decode prog_13_method_34_code 132 = .ok (.getfield 92, 3) := by decide +kernel
theorem d_Mod_driver_135 : decode prog_13_method_34_code 135 = .ok (.ifCond .le (10), 3) := by decide +kernel
theorem d_Mod_driver_138 : decode prog_13_method_34_code 138 = .ok (.aload_n 0, 1) := by decide +kernel
theorem d_Mod_driver_139 : decode prog_13_method_34_code 139 = .ok (.invokevirtual 186, 3) := by decide +kernel
theorem d_Mod_driver_142 : decode prog_13_method_34_code 142 = .ok (.goto (20), 3) := by decide +kernel
theorem d_Mod_driver_145 : decode prog_13_method_34_code 145 = .ok (.aload_n 0, 1) := by decide +kernel
theorem d_Mod_driver_146 : decode prog_13_method_34_code 146 = .ok (.aload_n 0, 1) := by decide +kernel
theorem d_Mod_driver_147 : decode prog_13_method_34_code 147 = .ok (.getfield 195, 3) := by decide +kernel
theorem d_Mod_driver_150 : decode prog_13_method_34_code 150 = .ok (.sipush (3000), 3) := by decide +kernel
theorem d_Mod_driver_153 : decode prog_13_method_34_code 153 = .ok (.iadd, 1) := by decide +kernel
theorem d_Mod_driver_154 : decode prog_13_method_34_code 154 = .ok (.putfield 216, 3) := by decide +kernel
theorem d_Mod_driver_157 : decode prog_13_method_34_code 157 = .ok (.aload_n 0, 1) := by decide +kernel
theorem d_Mod_driver_158 : decode prog_13_method_34_code 158 = .ok (.iconst 1, 1) := by decide +kernel
theorem d_Mod_driver_159 : decode prog_13_method_34_code 159 = .ok (.invokevirtual 104, 3) := by decide +kernel
theorem d_Mod_driver_162 : decode prog_13_method_34_code 162 = .ok (.iconst 1, 1) := by decide +kernel
theorem d_Mod_driver_163 : decode prog_13_method_34_code 163 = .ok (.ireturn, 1) := by decide +kernel
theorem d_Mod_mode_0 : decode prog_13_method_35_code 0 = .ok (.aload_n 0, 1) := by decide +kernel
theorem d_Mod_mode_1 : decode prog_13_method_35_code 1 = .ok (.getfield 81, 3) := by decide +kernel
theorem d_Mod_mode_4 : decode prog_13_method_35_code 4 = .ok (.ireturn, 1) := by decide +kernel
theorem d_Mod_state_0 : decode prog_13_method_36_code 0 = .ok (.iload_n 1, 1) := by decide +kernel
theorem d_Mod_state_1 : decode prog_13_method_36_code 1 = .ok (.tableswitch (86) (0) (6) #[43, 48, 53, 58, 63, 76, 81], 43) := by decide +kernel
theorem d_Mod_state_44 : decode prog_13_method_36_code 44 = .ok (.aload_n 0, 1) := by decide +kernel
theorem d_Mod_state_45 : decode prog_13_method_36_code 45 = .ok (.getfield 189, 3) := by decide +kernel
theorem d_Mod_state_48 : decode prog_13_method_36_code 48 = .ok (.ireturn, 1) := by decide +kernel
theorem d_Mod_state_49 : decode prog_13_method_36_code 49 = .ok (.aload_n 0, 1) := by decide +kernel
theorem d_Mod_state_50 : decode prog_13_method_36_code 50 = .ok (.getfield 195, 3) := by decide +kernel
theorem d_Mod_state_53 : decode prog_13_method_36_code 53 = .ok (.ireturn, 1) := by decide +kernel
theorem d_Mod_state_54 : decode prog_13_method_36_code 54 = .ok (.aload_n 0, 1) := by decide +kernel
theorem d_Mod_state_55 : decode prog_13_method_36_code 55 = .ok (.getfield 158, 3) := by decide +kernel
theorem d_Mod_state_58 : decode prog_13_method_36_code 58 = .ok (.ireturn, 1) := by decide +kernel
theorem d_Mod_state_59 : decode prog_13_method_36_code 59 = .ok (.aload_n 0, 1) := by decide +kernel
theorem d_Mod_state_60 : decode prog_13_method_36_code 60 = .ok (.getfield 228, 3) := by decide +kernel
theorem d_Mod_state_63 : decode prog_13_method_36_code 63 = .ok (.ireturn, 1) := by decide +kernel
theorem d_Mod_state_64 : decode prog_13_method_36_code 64 = .ok (.aload_n 0, 1) := by decide +kernel
theorem d_Mod_state_65 : decode prog_13_method_36_code 65 = .ok (.getfield 101, 3) := by decide +kernel
theorem d_Mod_state_68 : decode prog_13_method_36_code 68 = .ok (.ifCond .eq (7), 3) := by decide +kernel
theorem d_Mod_state_71 : decode prog_13_method_36_code 71 = .ok (.iconst 1, 1) := by decide +kernel
theorem d_Mod_state_72 : decode prog_13_method_36_code 72 = .ok (.goto (4), 3) := by decide +kernel
theorem d_Mod_state_75 : decode prog_13_method_36_code 75 = .ok (.iconst 0, 1) := by decide +kernel
theorem d_Mod_state_76 : decode prog_13_method_36_code 76 = .ok (.ireturn, 1) := by decide +kernel
theorem d_Mod_state_77 : decode prog_13_method_36_code 77 = .ok (.aload_n 0, 1) := by decide +kernel
theorem d_Mod_state_78 : decode prog_13_method_36_code 78 = .ok (.getfield 75, 3) := by decide +kernel
theorem d_Mod_state_81 : decode prog_13_method_36_code 81 = .ok (.ireturn, 1) := by decide +kernel
theorem d_Mod_state_82 : decode prog_13_method_36_code 82 = .ok (.aload_n 0, 1) := by decide +kernel
theorem d_Mod_state_83 : decode prog_13_method_36_code 83 = .ok (.getfield 114, 3) := by decide +kernel
theorem d_Mod_state_86 : decode prog_13_method_36_code 86 = .ok (.ireturn, 1) := by decide +kernel
theorem d_Mod_state_87 : decode prog_13_method_36_code 87 = .ok (.iconst (-1), 1) := by decide +kernel
theorem d_Mod_state_88 : decode prog_13_method_36_code 88 = .ok (.ireturn, 1) := by decide +kernel
theorem d_Mod_display_0 : decode prog_13_method_37_code 0 = .ok (.aload_n 0, 1) := by decide +kernel
theorem d_Mod_display_1 : decode prog_13_method_37_code 1 = .ok (.getfield 81, 3) := by decide +kernel
theorem d_Mod_display_4 : decode prog_13_method_37_code 4 = .ok (.iconst 4, 1) := by decide +kernel
theorem d_Mod_display_5 : decode prog_13_method_37_code 5 = .ok (.if_icmp .eq (12), 3) := by decide +kernel
theorem d_Mod_display_8 : decode prog_13_method_37_code 8 = .ok (.aload_n 0, 1) := by decide +kernel
theorem d_Mod_display_9 : decode prog_13_method_37_code 9 = .ok (.getfield 81, 3) := by decide +kernel
theorem d_Mod_display_12 : decode prog_13_method_37_code 12 = .ok (.bipush (6), 2) := by decide +kernel
theorem d_Mod_display_14 : decode prog_13_method_37_code 14 = .ok (.if_icmp .ne (7), 3) := by decide +kernel
theorem d_Mod_display_17 : decode prog_13_method_37_code 17 = .ok (.iconst 1, 1) := by decide +kernel
theorem d_Mod_display_18 : decode prog_13_method_37_code 18 = .ok (.goto (4), 3) := by decide +kernel
theorem d_Mod_display_21 : decode prog_13_method_37_code 21 = .ok (.iconst 0, 1) := by decide +kernel
theorem d_Mod_display_22 : decode prog_13_method_37_code 22 = .ok (.istore_n 2, 1) := by decide +kernel
theorem d_Mod_display_23 : decode prog_13_method_37_code 23 = .ok (.iload_n 1, 1) := by decide +kernel
theorem d_Mod_display_24 : decode prog_13_method_37_code 24 = .ok (.tableswitch (107) (0) (3) #[32, 45, 58, 94], 32) := by decide +kernel
theorem d_Mod_display_56 : decode prog_13_method_37_code 56 = .ok (.iload_n 2, 1) := by decide +kernel
theorem d_Mod_display_57 : decode prog_13_method_37_code 57 = .ok (.ifCond .eq (7), 3) := by decide +kernel
theorem d_Mod_display_60 : decode prog_13_method_37_code 60 = .ok (.iconst 0, 1) := by decide +kernel
theorem d_Mod_display_61 : decode prog_13_method_37_code 61 = .ok (.goto (7), 3) := by decide +kernel
theorem d_Mod_display_64 : decode prog_13_method_37_code 64 = .ok (.aload_n 0, 1) := by decide +kernel
theorem d_Mod_display_65 : decode prog_13_method_37_code 65 = .ok (.invokevirtual 231, 3) := by decide +kernel
theorem d_Mod_display_68 : decode prog_13_method_37_code 68 = .ok (.ireturn, 1) := by decide +kernel
theorem d_Mod_display_69 : decode prog_13_method_37_code 69 = .ok (.aload_n 0, 1) := by decide +kernel
theorem d_Mod_display_70 : decode prog_13_method_37_code 70 = .ok (.aload_n 0, 1) := by decide +kernel
theorem d_Mod_display_71 : decode prog_13_method_37_code 71 = .ok (.getfield 158, 3) := by decide +kernel
theorem d_Mod_display_74 : decode prog_13_method_37_code 74 = .ok (.aload_n 0, 1) := by decide +kernel
theorem d_Mod_display_75 : decode prog_13_method_37_code 75 = .ok (.getfield 151, 3) := by decide +kernel
theorem d_Mod_display_78 : decode prog_13_method_37_code 78 = .ok (.invokevirtual 161, 3) := by decide +kernel
theorem d_Mod_display_81 : decode prog_13_method_37_code 81 = .ok (.ireturn, 1) := by decide +kernel
theorem d_Mod_display_82 : decode prog_13_method_37_code 82 = .ok (.aload_n 0, 1) := by decide +kernel
theorem d_Mod_display_83 : decode prog_13_method_37_code 83 = .ok (.getfield 88, 3) := by decide +kernel
theorem d_Mod_display_86 : decode prog_13_method_37_code 86 = .ok (.ifCond .ne (7), 3) := by decide +kernel
theorem d_Mod_display_89 : decode prog_13_method_37_code 89 = .ok (.iconst (-1), 1) := by decide +kernel
theorem d_Mod_display_90 : decode prog_13_method_37_code 90 = .ok (.goto (27), 3) := by decide +kernel
theorem d_Mod_display_93 : decode prog_13_method_37_code 93 = .ok (.aload_n 0, 1) := by decide +kernel
theorem d_Mod_display_94 : decode prog_13_method_37_code 94 = .ok (.getfield 151, 3) := by decide +kernel
theorem d_Mod_display_97 : decode prog_13_method_37_code 97 = .ok (.aload_n 0, 1) := by decide +kernel
theorem d_Mod_display_98 : decode prog_13_method_37_code 98 = .ok (.getfield 195, 3) := by decide +kernel
theorem d_Mod_display_101 : decode prog_13_method_37_code 101 = .ok (.if_icmp .le (15), 3) := by decide +kernel
theorem d_Mod_display_104 : decode prog_13_method_37_code 104 = .ok (.aload_n 0, 1) := by decide +kernel
theorem d_Mod_display_105 : decode prog_13_method_37_code 105 = .ok (.getfield 151, 3) := by decide +kernel
theorem d_Mod_display_108 : decode prog_13_method_37_code 108 = .ok (.aload_n 0, 1) := by decide +kernel
theorem d_Mod_display_109 : decode prog_13_method_37_code 109 = .ok (.getfield 195, 3) := by decide +kernel
theorem d_Mod_display_112 : decode prog_13_method_37_code 112 = .ok (.isub, 1) := by decide +kernel
theorem d_Mod_display_113 : decode prog_13_method_37_code 113 = .ok (.goto (4), 3) := by decide +kernel
theorem d_Mod_display_116 : decode prog_13_method_37_code 116 = .ok (.iconst 0, 1) := by decide +kernel
theorem d_Mod_display_117 : decode prog_13_method_37_code 117 = .ok (.ireturn, 1) := by decide +kernel
theorem d_Mod_display_118 : decode prog_13_method_37_code 118 = .ok (.iload_n 2, 1) := by decide +kernel
theorem d_Mod_display_119 : decode prog_13_method_37_code 119 = .ok (.ifCond .eq (7), 3) := by decide +kernel
theorem d_Mod_display_122 : decode prog_13_method_37_code 122 = .ok (.iconst (-1), 1) := by decide +kernel
theorem d_Mod_display_123 : decode prog_13_method_37_code 123 = .ok (.goto (7), 3) := by decide +kernel
theorem d_Mod_display_126 : decode prog_13_method_37_code 126 = .ok (.aload_n 0, 1) := by decide +kernel
theorem d_Mod_display_127 : decode prog_13_method_37_code 127 = .ok (.invokevirtual 208, 3) := by decide +kernel
theorem d_Mod_display_130 : decode prog_13_method_37_code 130 = .ok (.ireturn, 1) := by decide +kernel
theorem d_Mod_display_131 : decode prog_13_method_37_code 131 = .ok (.iconst (-1), 1) := by decide +kernel
theorem d_Mod_display_132 : decode prog_13_method_37_code 132 = .ok (.ireturn, 1) := by decide +kernel
theorem d_Mod_marks_0 : decode prog_13_method_38_code 0 = .ok (.iload_n 1, 1) := by decide +kernel
theorem d_Mod_marks_1 : decode prog_13_method_38_code 1 = .ok (.ifCond .lt (11), 3) := by decide +kernel
theorem d_Mod_marks_4 : decode prog_13_method_38_code 4 = .ok (.iload_n 1, 1) := by decide +kernel
theorem d_Mod_marks_5 : decode prog_13_method_38_code 5 = .ok (.aload_n 0, 1) := by decide +kernel
theorem d_Mod_marks_6 : decode prog_13_method_38_code 6 = .ok (.getfield 98, 3) := by decide +kernel
theorem d_Mod_marks_9 : decode prog_13_method_38_code 9 = .ok (.if_icmp .lt (7), 3) := by decide +kernel
theorem d_Mod_marks_12 : decode prog_13_method_38_code 12 = .ok (.iconst (-1), 1) := by decide +kernel
theorem d_Mod_marks_13 : decode prog_13_method_38_code 13 = .ok (.goto (37), 3) := by decide +kernel
theorem d_Mod_marks_16 : decode prog_13_method_38_code 16 = .ok (.sipush (1000), 3) := by decide +kernel
theorem d_Mod_marks_19 : decode prog_13_method_38_code 19 = .ok (.aload_n 0, 1) := by decide +kernel
theorem d_Mod_marks_20 : decode prog_13_method_38_code 20 = .ok (.getfield 22, 3) := by decide +kernel
theorem d_Mod_marks_23 : decode prog_13_method_38_code 23 = .ok (.iload_n 1, 1) := by decide +kernel
theorem d_Mod_marks_24 : decode prog_13_method_38_code 24 = .ok (.iaload, 1) := by decide +kernel
theorem d_Mod_marks_25 : decode prog_13_method_38_code 25 = .ok (.imul, 1) := by decide +kernel
theorem d_Mod_marks_26 : decode prog_13_method_38_code 26 = .ok (.iconst 4, 1) := by decide +kernel
theorem d_Mod_marks_27 : decode prog_13_method_38_code 27 = .ok (.aload_n 0, 1) := by decide +kernel
theorem d_Mod_marks_28 : decode prog_13_method_38_code 28 = .ok (.getfield 25, 3) := by decide +kernel
theorem d_Mod_marks_31 : decode prog_13_method_38_code 31 = .ok (.iload_n 1, 1) := by decide +kernel
theorem d_Mod_marks_32 : decode prog_13_method_38_code 32 = .ok (.iaload, 1) := by decide +kernel
theorem d_Mod_marks_33 : decode prog_13_method_38_code 33 = .ok (.imul, 1) := by decide +kernel
theorem d_Mod_marks_34 : decode prog_13_method_38_code 34 = .ok (.iadd, 1) := by decide +kernel
theorem d_Mod_marks_35 : decode prog_13_method_38_code 35 = .ok (.aload_n 0, 1) := by decide +kernel
theorem d_Mod_marks_36 : decode prog_13_method_38_code 36 = .ok (.getfield 31, 3) := by decide +kernel
theorem d_Mod_marks_39 : decode prog_13_method_38_code 39 = .ok (.iload_n 1, 1) := by decide +kernel
theorem d_Mod_marks_40 : decode prog_13_method_38_code 40 = .ok (.baload, 1) := by decide +kernel
theorem d_Mod_marks_41 : decode prog_13_method_38_code 41 = .ok (.ifCond .eq (7), 3) := by decide +kernel
theorem d_Mod_marks_44 : decode prog_13_method_38_code 44 = .ok (.iconst 1, 1) := by decide +kernel
theorem d_Mod_marks_45 : decode prog_13_method_38_code 45 = .ok (.goto (4), 3) := by decide +kernel
theorem d_Mod_marks_48 : decode prog_13_method_38_code 48 = .ok (.iconst 0, 1) := by decide +kernel
theorem d_Mod_marks_49 : decode prog_13_method_38_code 49 = .ok (.iadd, 1) := by decide +kernel
theorem d_Mod_marks_50 : decode prog_13_method_38_code 50 = .ok (.ireturn, 1) := by decide +kernel
theorem d_Mod_note_0 : decode prog_13_method_39_code 0 = .ok (.iload_n 1, 1) := by decide +kernel
theorem d_Mod_note_1 : decode prog_13_method_39_code 1 = .ok (.ifCond .lt (11), 3) := by decide +kernel
theorem d_Mod_note_4 : decode prog_13_method_39_code 4 = .ok (.iload_n 1, 1) := by decide +kernel
theorem d_Mod_note_5 : decode prog_13_method_39_code 5 = .ok (.aload_n 0, 1) := by decide +kernel
theorem d_Mod_note_6 : decode prog_13_method_39_code 6 = .ok (.getfield 78, 3) := by decide +kernel
theorem d_Mod_note_9 : decode prog_13_method_39_code 9 = .ok (.if_icmp .lt (7), 3) := by decide +kernel
theorem d_Mod_note_12 : decode prog_13_method_39_code 12 = .ok (.iconst (-1), 1) := by decide +kernel
theorem d_Mod_note_13 : decode prog_13_method_39_code 13 = .ok (.goto (9), 3) := by decide +kernel
theorem d_Mod_note_16 : decode prog_13_method_39_code 16 = .ok (.aload_n 0, 1) := by decide +kernel
theorem d_Mod_note_17 : decode prog_13_method_39_code 17 = .ok (.getfield 63, 3) := by decide +kernel
theorem d_Mod_note_20 : decode prog_13_method_39_code 20 = .ok (.iload_n 1, 1) := by decide +kernel
theorem d_Mod_note_21 : decode prog_13_method_39_code 21 = .ok (.iaload, 1) := by decide +kernel
theorem d_Mod_note_22 : decode prog_13_method_39_code 22 = .ok (.ireturn, 1) := by decide +kernel
theorem d_Bit_init_0 : decode prog_2_method_1_code 0 = .ok (.aload_n 0, 1) := by decide +kernel
theorem d_Bit_init_1 : decode prog_2_method_1_code 1 = .ok (.invokespecial 3, 3) := by decide +kernel
theorem d_Bit_init_4 : decode prog_2_method_1_code 4 = .ok (.aload_n 0, 1) := by decide +kernel
theorem d_Bit_init_5 : decode prog_2_method_1_code 5 = .ok (.sipush (600), 3) := by decide +kernel
theorem d_Bit_init_8 : decode prog_2_method_1_code 8 = .ok (.newarray .byte, 2) := by decide +kernel
theorem d_Bit_init_10 : decode prog_2_method_1_code 10 = .ok (.putfield 9, 3) := by decide +kernel
theorem d_Bit_init_13 : decode prog_2_method_1_code 13 = .ok (.return_, 1) := by decide +kernel
theorem d_Bit_put_0 : decode prog_2_method_2_code 0 = .ok (.iload_n 2, 1) := by decide +kernel
theorem d_Bit_put_1 : decode prog_2_method_2_code 1 = .ok (.iconst 1, 1) := by decide +kernel
theorem d_Bit_put_2 : decode prog_2_method_2_code 2 = .ok (.if_icmp .lt (21), 3) := by decide +kernel
theorem d_Bit_put_5 : decode prog_2_method_2_code 5 = .ok (.iload_n 2, 1) := by decide +kernel
theorem d_Bit_put_6 : decode prog_2_method_2_code 6 = .ok (.bipush (30), 2) := by decide +kernel
theorem d_Bit_put_8 : decode prog_2_method_2_code 8 = .ok (.if_icmp .gt (15), 3) := by decide +kernel
theorem d_Bit_put_11 : decode prog_2_method_2_code 11 = .ok (.aload_n 0, 1) := by decide +kernel
theorem d_Bit_put_12 : decode prog_2_method_2_code 12 = .ok (.getfield 15, 3) := by decide +kernel
theorem d_Bit_put_15 : decode prog_2_method_2_code 15 = .ok (.iload_n 2, 1) := by decide +kernel
theorem d_Bit_put_16 : decode prog_2_method_2_code 16 = .ok (.iadd, 1) := by decide +kernel
theorem d_Bit_put_17 : decode prog_2_method_2_code 17 = .ok (.sipush (600), 3) := by decide +kernel
theorem d_Bit_put_20 : decode prog_2_method_2_code 20 = .ok (.if_icmp .le (5), 3) := by decide +kernel
theorem d_Bit_put_23 : decode prog_2_method_2_code 23 = .ok (.iconst 0, 1) := by decide +kernel
theorem d_Bit_put_24 : decode prog_2_method_2_code 24 = .ok (.ireturn, 1) := by decide +kernel
theorem d_Bit_put_25 : decode prog_2_method_2_code 25 = .ok (.iload_n 2, 1) := by decide +kernel
theorem d_Bit_put_26 : decode prog_2_method_2_code 26 = .ok (.iconst 1, 1) := by decide +kernel
theorem d_Bit_put_27 : decode prog_2_method_2_code 27 = .ok (.isub, 1) := by decide +kernel
theorem d_Bit_put_28 : decode prog_2_method_2_code 28 = .ok (.istore_n 3, 1) := by decide +kernel
theorem d_Bit_put_29 : decode prog_2_method_2_code 29 = .ok (.iload_n 3, 1) := by decide +kernel
theorem d_Bit_put_30 : decode prog_2_method_2_code 30 = .ok (.ifCond .lt (34), 3) := by decide +kernel
theorem d_Bit_put_33 : decode prog_2_method_2_code 33 = .ok (.aload_n 0, 1) := by decide +kernel
theorem d_Bit_put_34 : decode prog_2_method_2_code 34 = .ok (.getfield 9, 3) := by decide +kernel
theorem d_Bit_put_37 : decode prog_2_method_2_code 37 = .ok (.aload_n 0, 1) := by decide +kernel
theorem d_Bit_put_38 : decode prog_2_method_2_code 38 = .ok (.getfield 15, 3) := by decide +kernel
theorem d_Bit_put_41 : decode prog_2_method_2_code 41 = .ok (.iload_n 1, 1) := by decide +kernel
theorem d_Bit_put_42 : decode prog_2_method_2_code 42 = .ok (.iload_n 3, 1) := by decide +kernel
theorem d_Bit_put_43 : decode prog_2_method_2_code 43 = .ok (.ishr, 1) := by decide +kernel
theorem d_Bit_put_44 : decode prog_2_method_2_code 44 = .ok (.iconst 1, 1) := by decide +kernel
theorem d_Bit_put_45 : decode prog_2_method_2_code 45 = .ok (.iand, 1) := by decide +kernel
theorem d_Bit_put_46 : decode prog_2_method_2_code 46 = .ok (.i2b, 1) := by decide +kernel
theorem d_Bit_put_47 : decode prog_2_method_2_code 47 = .ok (.bastore, 1) := by decide +kernel
theorem d_Bit_put_48 : decode prog_2_method_2_code 48 = .ok (.aload_n 0, 1) := by decide +kernel
theorem d_Bit_put_49 : decode prog_2_method_2_code 49 = .ok (.dup, 1) := by decide +kernel
theorem d_Bit_put_50 : decode prog_2_method_2_code 50 = .ok (.getfield 15, 3) := by decide +kernel
theorem d_Bit_put_53 : decode prog_2_method_2_code 53 = .ok (.iconst 1, 1) := by decide +kernel
theorem d_Bit_put_54 : decode prog_2_method_2_code 54 = .ok (.iadd, 1) := by decide +kernel
theorem d_Bit_put_55 : decode prog_2_method_2_code 55 = .ok (.putfield 15, 3) := by decide +kernel
theorem d_Bit_put_58 : decode prog_2_method_2_code 58 = .ok (.iinc 3 (-1), 3) := by decide +kernel
theorem d_Bit_put_61 : decode prog_2_method_2_code 61 = .ok (.goto (-32), 3) := by decide +kernel
theorem d_Bit_put_64 : decode prog_2_method_2_code 64 = .ok (.iconst 1, 1) := by decide +kernel
theorem d_Bit_put_65 : decode prog_2_method_2_code 65 = .ok (.ireturn, 1) := by decide +kernel
theorem d_Bit_clear_0 : decode prog_2_method_3_code 0 = .ok (.aload_n 0, 1) := by decide +kernel
theorem d_Bit_clear_1 : decode prog_2_method_3_code 1 = .ok (.iconst 0, 1) := by decide +kernel
theorem d_Bit_clear_2 : decode prog_2_method_3_code 2 = .ok (.putfield 15, 3) := by decide +kernel
theorem d_Bit_clear_5 : decode prog_2_method_3_code 5 = .ok (.return_, 1) := by decide +kernel
theorem d_Bit_begin_0 : decode prog_2_method_4_code 0 = .ok (.aload_n 0, 1) := by decide +kernel
theorem d_Bit_begin_1 : decode prog_2_method_4_code 1 = .ok (.iconst 0, 1) := by decide +kernel
theorem d_Bit_begin_2 : decode prog_2_method_4_code 2 = .ok (.putfield 19, 3) := by decide +kernel
theorem d_Bit_begin_5 : decode prog_2_method_4_code 5 = .ok (.aload_n 0, 1) := by decide +kernel
theorem d_Bit_begin_6 : decode prog_2_method_4_code 6 = .ok (.iconst 0, 1) := by decide +kernel
theorem d_Bit_begin_7 : decode prog_2_method_4_code 7 = .ok (.putfield 22, 3) := by decide +kernel
theorem d_Bit_begin_10 : decode prog_2_method_4_code 10 = .ok (.return_, 1) := by decide +kernel
theorem d_Bit_left_0 : decode prog_2_method_5_code 0 = .ok (.aload_n 0, 1) := by decide +kernel
theorem d_Bit_left_1 : decode prog_2_method_5_code 1 = .ok (.getfield 15, 3) := by decide +kernel
theorem d_Bit_left_4 : decode prog_2_method_5_code 4 = .ok (.aload_n 0, 1) := by decide +kernel
theorem d_Bit_left_5 : decode prog_2_method_5_code 5 = .ok (.getfield 19, 3) := by decide +kernel
theorem d_Bit_left_8 : decode prog_2_method_5_code 8 = .ok (.isub, 1) := by decide +kernel
theorem d_Bit_left_9 : decode prog_2_method_5_code 9 = .ok (.ireturn, 1) := by decide +kernel
theorem d_Bit_isSound_0 : decode prog_2_method_6_code 0 = .ok (.aload_n 0, 1) := by decide +kernel
theorem d_Bit_isSound_1 : decode prog_2_method_6_code 1 = .ok (.getfield 22, 3) := by decide +kernel
theorem d_Bit_isSound_4 : decode prog_2_method_6_code 4 = .ok (.ifCond .ne (7), 3) := by decide +kernel
theorem d_Bit_isSound_7 : decode prog_2_method_6_code 7 = .ok (.iconst 1, 1) := by decide +kernel
theorem d_Bit_isSound_8 : decode prog_2_method_6_code 8 = .ok (.goto (4), 3) := by decide +kernel
theorem d_Bit_isSound_11 : decode prog_2_method_6_code 11 = .ok (.iconst 0, 1) := by decide +kernel
theorem d_Bit_isSound_12 : decode prog_2_method_6_code 12 = .ok (.ireturn, 1) := by decide +kernel
theorem d_Bit_need_0 : decode prog_2_method_7_code 0 = .ok (.aload_n 0, 1) := by decide +kernel
theorem d_Bit_need_1 : decode prog_2_method_7_code 1 = .ok (.getfield 22, 3) := by decide +kernel
theorem d_Bit_need_4 : decode prog_2_method_7_code 4 = .ok (.ifCond .ne (12), 3) := by decide +kernel
theorem d_Bit_need_7 : decode prog_2_method_7_code 7 = .ok (.iload_n 1, 1) := by decide +kernel
theorem d_Bit_need_8 : decode prog_2_method_7_code 8 = .ok (.ifCond .ne (8), 3) := by decide +kernel
theorem d_Bit_need_11 : decode prog_2_method_7_code 11 = .ok (.aload_n 0, 1) := by decide +kernel
theorem d_Bit_need_12 : decode prog_2_method_7_code 12 = .ok (.iload_n 2, 1) := by decide +kernel
theorem d_Bit_need_13 : decode prog_2_method_7_code 13 = .ok (.putfield 22, 3) := by decide +kernel
theorem d_Bit_need_16 : decode prog_2_method_7_code 16 = .ok (.return_, 1) := by decide +kernel
end
section
theorem d_Bit_take_0 : decode prog_2_method_8_code 0 = .ok (.aload_n 0, 1) := by decide +kernel
theorem d_Bit_take_1 : decode prog_2_method_8_code 1 = .ok (.getfield 22, 3) := by decide +kernel
theorem d_Bit_take_4 : decode prog_2_method_8_code 4 = .ok (.ifCond .ne (21), 3) := by decide +kernel
theorem d_Bit_take_7 : decode prog_2_method_8_code 7 = .ok (.iload_n 1, 1) := by decide +kernel
theorem d_Bit_take_8 : decode prog_2_method_8_code 8 = .ok (.aload_n 0, 1) := by decide +kernel
theorem d_Bit_take_9 : decode prog_2_method_8_code 9 = .ok (.getfield 15, 3) := by decide +kernel
theorem d_Bit_take_12 : decode prog_2_method_8_code 12 = .ok (.aload_n 0, 1) := by decide +kernel
theorem d_Bit_take_13 : decode prog_2_method_8_code 13 = .ok (.getfield 19, 3) := by decide +kernel
theorem d_Bit_take_16 : decode prog_2_method_8_code 16 = .ok (.isub, 1) := by decide +kernel
theorem d_Bit_take_17 : decode prog_2_method_8_code 17 = .ok (.if_icmp .le (8), 3) := by decide +kernel
theorem d_Bit_take_20 : decode prog_2_method_8_code 20 = .ok (.aload_n 0, 1) := by decide +kernel
theorem d_Bit_take_21 : decode prog_2_method_8_code 21 = .ok (.iconst 2, 1) := by decide +kernel
theorem d_Bit_take_22 : decode prog_2_method_8_code 22 = .ok (.putfield 22, 3) := by decide +kernel
theorem d_Bit_take_25 : decode prog_2_method_8_code 25 = .ok (.aload_n 0, 1) := by decide +kernel
theorem d_Bit_take_26 : decode prog_2_method_8_code 26 = .ok (.getfield 22, 3) := by decide +kernel
theorem d_Bit_take_29 : decode prog_2_method_8_code 29 = .ok (.ifCond .eq (5), 3) := by decide +kernel
theorem d_Bit_take_32 : decode prog_2_method_8_code 32 = .ok (.iconst 0, 1) := by decide +kernel
theorem d_Bit_take_33 : decode prog_2_method_8_code 33 = .ok (.ireturn, 1) := by decide +kernel
theorem d_Bit_take_34 : decode prog_2_method_8_code 34 = .ok (.iconst 0, 1) := by decide +kernel
theorem d_Bit_take_35 : decode prog_2_method_8_code 35 = .ok (.istore_n 2, 1) := by decide +kernel
theorem d_Bit_take_36 : decode prog_2_method_8_code 36 = .ok (.iconst 0, 1) := by decide +kernel
theorem d_Bit_take_37 : decode prog_2_method_8_code 37 = .ok (.istore_n 3, 1) := by decide +kernel
theorem d_Bit_take_38 : decode prog_2_method_8_code 38 = .ok (.iload_n 3, 1) := by decide +kernel
theorem d_Bit_take_39 : decode prog_2_method_8_code 39 = .ok (.iload_n 1, 1) := by decide +kernel
theorem d_Bit_take_40 : decode prog_2_method_8_code 40 = .ok (.if_icmp .ge (33), 3) := by decide +kernel
theorem d_Bit_take_43 : decode prog_2_method_8_code 43 = .ok (.iconst 2, 1) := by decide +kernel
theorem d_Bit_take_44 : decode prog_2_method_8_code 44 = .ok (.iload_n 2, 1) := by decide +kernel
theorem d_Bit_take_45 : decode prog_2_method_8_code 45 = .ok (.imul, 1) := by decide +kernel
theorem d_Bit_take_46 : decode prog_2_method_8_code 46 = .ok (.aload_n 0, 1) := by decide +kernel
theorem d_Bit_take_47 : decode prog_2_method_8_code 47 = .ok (.getfield 9, 3) := by decide +kernel
theorem d_Bit_take_50 : decode prog_2_method_8_code 50 = .ok (.aload_n 0, 1) := by decide +kernel
theorem d_Bit_take_51 : decode prog_2_method_8_code 51 = .ok (.getfield 19, 3) := by decide +kernel
theorem d_Bit_take_54 : decode prog_2_method_8_code 54 = .ok (.baload, 1) := by decide +kernel
theorem d_Bit_take_55 : decode prog_2_method_8_code 55 = .ok (.iadd, 1) := by decide +kernel
theorem d_Bit_take_56 : decode prog_2_method_8_code 56 = .ok (.istore_n 2, 1) := by decide +kernel
theorem d_Bit_take_57 : decode prog_2_method_8_code 57 = .ok (.aload_n 0, 1) := by decide +kernel
theorem d_Bit_take_58 : decode prog_2_method_8_code 58 = .ok (.dup, 1) := by decide +kernel
theorem d_Bit_take_59 : decode prog_2_method_8_code 59 = .ok (.getfield 19, 3) := by decide +kernel
theorem d_Bit_take_62 : decode prog_2_method_8_code 62 = .ok (.iconst 1, 1) := by decide +kernel
theorem d_Bit_take_63 : decode prog_2_method_8_code 63 = .ok (.iadd, 1) := by decide +kernel
theorem d_Bit_take_64 : decode prog_2_method_8_code 64 = .ok (.putfield 19, 3) := by decide +kernel
theorem d_Bit_take_67 : decode prog_2_method_8_code 67 = .ok (.iinc 3 (1), 3) := by decide +kernel
theorem d_Bit_take_70 : decode prog_2_method_8_code 70 = .ok (.goto (-32), 3) := by decide +kernel
theorem d_Bit_take_73 : decode prog_2_method_8_code 73 = .ok (.iload_n 2, 1) := by decide +kernel
theorem d_Bit_take_74 : decode prog_2_method_8_code 74 = .ok (.ireturn, 1) := by decide +kernel
theorem d_Brk_init_0 : decode prog_3_method_1_code 0 = .ok (.aload_n 0, 1) := by decide +kernel
theorem d_Brk_init_1 : decode prog_3_method_1_code 1 = .ok (.invokespecial 3, 3) := by decide +kernel
theorem d_Brk_init_4 : decode prog_3_method_1_code 4 = .ok (.return_, 1) := by decide +kernel
theorem d_Brk_apply_0 : decode prog_3_method_2_code 0 = .ok (.iload_n 1, 1) := by decide +kernel
theorem d_Brk_apply_1 : decode prog_3_method_2_code 1 = .ok (.iconst 4, 1) := by decide +kernel
theorem d_Brk_apply_2 : decode prog_3_method_2_code 2 = .ok (.if_icmp .lt (11), 3) := by decide +kernel
theorem d_Brk_apply_5 : decode prog_3_method_2_code 5 = .ok (.aload_n 0, 1) := by decide +kernel
theorem d_Brk_apply_6 : decode prog_3_method_2_code 6 = .ok (.iconst 1, 1) := by decide +kernel
theorem d_Brk_apply_7 : decode prog_3_method_2_code 7 = .ok (.putfield 9, 3) := by decide +kernel
theorem d_Brk_apply_10 : decode prog_3_method_2_code 10 = .ok (.goto (12), 3) := by decide +kernel
theorem d_Brk_apply_13 : decode prog_3_method_2_code 13 = .ok (.iload_n 2, 1) := by decide +kernel
theorem d_Brk_apply_14 : decode prog_3_method_2_code 14 = .ok (.ifCond .eq (8), 3) := by decide +kernel
theorem d_Brk_apply_17 : decode prog_3_method_2_code 17 = .ok (.aload_n 0, 1) := by decide +kernel
theorem d_Brk_apply_18 : decode prog_3_method_2_code 18 = .ok (.iconst 0, 1) := by decide +kernel
theorem d_Brk_apply_19 : decode prog_3_method_2_code 19 = .ok (.putfield 9, 3) := by decide +kernel
theorem d_Brk_apply_22 : decode prog_3_method_2_code 22 = .ok (.iload_n 1, 1) := by decide +kernel
theorem d_Brk_apply_23 : decode prog_3_method_2_code 23 = .ok (.iconst 3, 1) := by decide +kernel
theorem d_Brk_apply_24 : decode prog_3_method_2_code 24 = .ok (.if_icmp .lt (11), 3) := by decide +kernel
theorem d_Brk_apply_27 : decode prog_3_method_2_code 27 = .ok (.aload_n 0, 1) := by decide +kernel
theorem d_Brk_apply_28 : decode prog_3_method_2_code 28 = .ok (.iconst 1, 1) := by decide +kernel
theorem d_Brk_apply_29 : decode prog_3_method_2_code 29 = .ok (.putfield 15, 3) := by decide +kernel
theorem d_Brk_apply_32 : decode prog_3_method_2_code 32 = .ok (.goto (16), 3) := by decide +kernel
theorem d_Brk_apply_35 : decode prog_3_method_2_code 35 = .ok (.iload_n 2, 1) := by decide +kernel
theorem d_Brk_apply_36 : decode prog_3_method_2_code 36 = .ok (.ifCond .ne (7), 3) := by decide +kernel
theorem d_Brk_apply_39 : decode prog_3_method_2_code 39 = .ok (.iload_n 1, 1) := by decide +kernel
theorem d_Brk_apply_40 : decode prog_3_method_2_code 40 = .ok (.ifCond .ne (8), 3) := by decide +kernel
theorem d_Brk_apply_43 : decode prog_3_method_2_code 43 = .ok (.aload_n 0, 1) := by decide +kernel
theorem d_Brk_apply_44 : decode prog_3_method_2_code 44 = .ok (.iconst 0, 1) := by decide +kernel
theorem d_Brk_apply_45 : decode prog_3_method_2_code 45 = .ok (.putfield 15, 3) := by decide +kernel
theorem d_Brk_apply_48 : decode prog_3_method_2_code 48 = .ok (.aload_n 0, 1) := by decide +kernel
theorem d_Brk_apply_49 : decode prog_3_method_2_code 49 = .ok (.getfield 18, 3) := by decide +kernel
theorem d_Brk_apply_52 : decode prog_3_method_2_code 52 = .ok (.istore 4, 2) := by decide +kernel
theorem d_Brk_apply_54 : decode prog_3_method_2_code 54 = .ok (.aload_n 0, 1) := by decide +kernel
theorem d_Brk_apply_55 : decode prog_3_method_2_code 55 = .ok (.aload_n 0, 1) := by decide +kernel
theorem d_Brk_apply_56 : decode prog_3_method_2_code 56 = .ok (.getfield 9, 3) := by decide +kernel
theorem d_Brk_apply_59 : decode prog_3_method_2_code 59 = .ok (.ifCond .eq (7), 3) := by decide +kernel
theorem d_Brk_apply_62 : decode prog_3_method_2_code 62 = .ok (.iconst 2, 1) := by decide +kernel
theorem d_Brk_apply_63 : decode prog_3_method_2_code 63 = .ok (.goto (19), 3) := by decide +kernel
theorem d_Brk_apply_66 : decode prog_3_method_2_code 66 = .ok (.aload_n 0, 1) := by decide +kernel
theorem d_Brk_apply_67 : decode prog_3_method_2_code 67 = .ok (.getfield 15, 3) := by decide +kernel
theorem d_Brk_apply_70 : decode prog_3_method_2_code 70 = .ok (.ifCond .ne (7), 3) := by decide +kernel
theorem d_Brk_apply_73 : decode prog_3_method_2_code 73 = .ok (.iload_n 3, 1) := by decide +kernel
theorem d_Brk_apply_74 : decode prog_3_method_2_code 74 = .ok (.ifCond .eq (7), 3) := by decide +kernel
theorem d_Brk_apply_77 : decode prog_3_method_2_code 77 = .ok (.iconst 1, 1) := by decide +kernel
theorem d_Brk_apply_78 : decode prog_3_method_2_code 78 = .ok (.goto (4), 3) := by decide +kernel
theorem d_Brk_apply_81 : decode prog_3_method_2_code 81 = .ok (.iconst 0, 1) := by decide +kernel
theorem d_Brk_apply_82 : decode prog_3_method_2_code 82 = .ok (.putfield 18, 3) := by decide +kernel
theorem d_Brk_apply_85 : decode prog_3_method_2_code 85 = .ok (.aload_n 0, 1) := by decide +kernel
theorem d_Brk_apply_86 : decode prog_3_method_2_code 86 = .ok (.getfield 18, 3) := by decide +kernel
theorem d_Brk_apply_89 : decode prog_3_method_2_code 89 = .ok (.iload 4, 2) := by decide +kernel
theorem d_Brk_apply_91 : decode prog_3_method_2_code 91 = .ok (.if_icmp .eq (7), 3) := by decide +kernel
theorem d_Brk_apply_94 : decode prog_3_method_2_code 94 = .ok (.iconst 1, 1) := by decide +kernel
theorem d_Brk_apply_95 : decode prog_3_method_2_code 95 = .ok (.goto (4), 3) := by decide +kernel
theorem d_Brk_apply_98 : decode prog_3_method_2_code 98 = .ok (.iconst 0, 1) := by decide +kernel
theorem d_Brk_apply_99 : decode prog_3_method_2_code 99 = .ok (.ireturn, 1) := by decide +kernel
theorem d_Cur_init_0 : decode prog_4_method_1_code 0 = .ok (.aload_n 0, 1) := by decide +kernel
theorem d_Cur_init_1 : decode prog_4_method_1_code 1 = .ok (.invokespecial 3, 3) := by decide +kernel
theorem d_Cur_init_4 : decode prog_4_method_1_code 4 = .ok (.aload_n 0, 1) := by decide +kernel
theorem d_Cur_init_5 : decode prog_4_method_1_code 5 = .ok (.bipush (15), 2) := by decide +kernel
theorem d_Cur_init_7 : decode prog_4_method_1_code 7 = .ok (.newarray .int, 2) := by decide +kernel
theorem d_Cur_init_9 : decode prog_4_method_1_code 9 = .ok (.putfield 11, 3) := by decide +kernel
theorem d_Cur_init_12 : decode prog_4_method_1_code 12 = .ok (.aload_n 0, 1) := by decide +kernel
theorem d_Cur_init_13 : decode prog_4_method_1_code 13 = .ok (.bipush (15), 2) := by decide +kernel
theorem d_Cur_init_15 : decode prog_4_method_1_code 15 = .ok (.newarray .int, 2) := by decide +kernel
theorem d_Cur_init_17 : decode prog_4_method_1_code 17 = .ok (.putfield 15, 3) := by decide +kernel
theorem d_Cur_init_20 : decode prog_4_method_1_code 20 = .ok (.aload_n 0, 1) := by decide +kernel
theorem d_Cur_init_21 : decode prog_4_method_1_code 21 = .ok (.bipush (15), 2) := by decide +kernel
theorem d_Cur_init_23 : decode prog_4_method_1_code 23 = .ok (.newarray .int, 2) := by decide +kernel
theorem d_Cur_init_25 : decode prog_4_method_1_code 25 = .ok (.putfield 18, 3) := by decide +kernel
theorem d_Cur_init_28 : decode prog_4_method_1_code 28 = .ok (.aload_n 0, 1) := by decide +kernel
theorem d_Cur_init_29 : decode prog_4_method_1_code 29 = .ok (.iload_n 1, 1) := by decide +kernel
theorem d_Cur_init_30 : decode prog_4_method_1_code 30 = .ok (.putfield 21, 3) := by decide +kernel
theorem d_Cur_init_33 : decode prog_4_method_1_code 33 = .ok (.aload_n 0, 1) := by decide +kernel
theorem d_Cur_init_34 : decode prog_4_method_1_code 34 = .ok (.iload_n 2, 1) := by decide +kernel
theorem d_Cur_init_35 : decode prog_4_method_1_code 35 = .ok (.putfield 25, 3) := by decide +kernel
theorem d_Cur_init_38 : decode prog_4_method_1_code 38 = .ok (.return_, 1) := by decide +kernel
theorem d_Cur_begin_0 : decode prog_4_method_2_code 0 = .ok (.aload_n 0, 1) := by decide +kernel
theorem d_Cur_begin_1 : decode prog_4_method_2_code 1 = .ok (.iload_n 1, 1) := by decide +kernel
theorem d_Cur_begin_2 : decode prog_4_method_2_code 2 = .ok (.putfield 28, 3) := by decide +kernel
theorem d_Cur_begin_5 : decode prog_4_method_2_code 5 = .ok (.aload_n 0, 1) := by decide +kernel
theorem d_Cur_begin_6 : decode prog_4_method_2_code 6 = .ok (.iload_n 2, 1) := by decide +kernel
theorem d_Cur_begin_7 : decode prog_4_method_2_code 7 = .ok (.putfield 31, 3) := by decide +kernel
theorem d_Cur_begin_10 : decode prog_4_method_2_code 10 = .ok (.aload_n 0, 1) := by decide +kernel
theorem d_Cur_begin_11 : decode prog_4_method_2_code 11 = .ok (.iconst 0, 1) := by decide +kernel
theorem d_Cur_begin_12 : decode prog_4_method_2_code 12 = .ok (.putfield 34, 3) := by decide +kernel
theorem d_Cur_begin_15 : decode prog_4_method_2_code 15 = .ok (.return_, 1) := by decide +kernel
theorem d_Cur_add_0 : decode prog_4_method_3_code 0 = .ok (.aload_n 0, 1) := by decide +kernel
theorem d_Cur_add_1 : decode prog_4_method_3_code 1 = .ok (.getfield 34, 3) := by decide +kernel
theorem d_Cur_add_4 : decode prog_4_method_3_code 4 = .ok (.bipush (15), 2) := by decide +kernel
theorem d_Cur_add_6 : decode prog_4_method_3_code 6 = .ok (.if_icmp .ge (43), 3) := by decide +kernel
theorem d_Cur_add_9 : decode prog_4_method_3_code 9 = .ok (.aload_n 0, 1) := by decide +kernel
theorem d_Cur_add_10 : decode prog_4_method_3_code 10 = .ok (.getfield 11, 3) := by decide +kernel
theorem d_Cur_add_13 : decode prog_4_method_3_code 13 = .ok (.aload_n 0, 1) := by decide +kernel
theorem d_Cur_add_14 : decode prog_4_method_3_code 14 = .ok (.getfield 34, 3) := by decide +kernel
theorem d_Cur_add_17 : decode prog_4_method_3_code 17 = .ok (.iload_n 1, 1) := by decide +kernel
theorem d_Cur_add_18 : decode prog_4_method_3_code 18 = .ok (.iastore, 1) := by decide +kernel
theorem d_Cur_add_19 : decode prog_4_method_3_code 19 = .ok (.aload_n 0, 1) := by decide +kernel
theorem d_Cur_add_20 : decode prog_4_method_3_code 20 = .ok (.getfield 15, 3) := by decide +kernel
theorem d_Cur_add_23 : decode prog_4_method_3_code 23 = .ok (.aload_n 0, 1) := by decide +kernel
theorem d_Cur_add_24 : decode prog_4_method_3_code 24 = .ok (.getfield 34, 3) := by decide +kernel
theorem d_Cur_add_27 : decode prog_4_method_3_code 27 = .ok (.iload_n 2, 1) := by decide +kernel
theorem d_Cur_add_28 : decode prog_4_method_3_code 28 = .ok (.iastore, 1) := by decide +kernel
theorem d_Cur_add_29 : decode prog_4_method_3_code 29 = .ok (.aload_n 0, 1) := by decide +kernel
theorem d_Cur_add_30 : decode prog_4_method_3_code 30 = .ok (.getfield 18, 3) := by decide +kernel
theorem d_Cur_add_33 : decode prog_4_method_3_code 33 = .ok (.aload_n 0, 1) := by decide +kernel
theorem d_Cur_add_34 : decode prog_4_method_3_code 34 = .ok (.getfield 34, 3) := by decide +kernel
theorem d_Cur_add_37 : decode prog_4_method_3_code 37 = .ok (.iload_n 3, 1) := by decide +kernel
theorem d_Cur_add_38 : decode prog_4_method_3_code 38 = .ok (.iastore, 1) := by decide +kernel
theorem d_Cur_add_39 : decode prog_4_method_3_code 39 = .ok (.aload_n 0, 1) := by decide +kernel
theorem d_Cur_add_40 : decode prog_4_method_3_code 40 = .ok (.dup, 1) := by decide +kernel
theorem d_Cur_add_41 : decode prog_4_method_3_code 41 = .ok (.getfield 34, 3) := by decide +kernel
theorem d_Cur_add_44 : decode prog_4_method_3_code 44 = .ok (.iconst 1, 1) := by decide +kernel
theorem d_Cur_add_45 : decode prog_4_method_3_code 45 = .ok (.iadd, 1) := by decide +kernel
theorem d_Cur_add_46 : decode prog_4_method_3_code 46 = .ok (.putfield 34, 3) := by decide +kernel
theorem d_Cur_add_49 : decode prog_4_method_3_code 49 = .ok (.return_, 1) := by decide +kernel
theorem d_Cur_gradeOf_0 : decode prog_4_method_4_code 0 = .ok (.iload_n 1, 1) := by decide +kernel
theorem d_Cur_gradeOf_1 : decode prog_4_method_4_code 1 = .ok (.aload_n 0, 1) := by decide +kernel
theorem d_Cur_gradeOf_2 : decode prog_4_method_4_code 2 = .ok (.getfield 28, 3) := by decide +kernel
theorem d_Cur_gradeOf_5 : decode prog_4_method_4_code 5 = .ok (.bipush (8), 2) := by decide +kernel
theorem d_Cur_gradeOf_7 : decode prog_4_method_4_code 7 = .ok (.iadd, 1) := by decide +kernel
theorem d_Cur_gradeOf_8 : decode prog_4_method_4_code 8 = .ok (.if_icmp .gt (11), 3) := by decide +kernel
theorem d_Cur_gradeOf_11 : decode prog_4_method_4_code 11 = .ok (.aload_n 0, 1) := by decide +kernel
theorem d_Cur_gradeOf_12 : decode prog_4_method_4_code 12 = .ok (.iload_n 1, 1) := by decide +kernel
theorem d_Cur_gradeOf_13 : decode prog_4_method_4_code 13 = .ok (.invokevirtual 37, 3) := by decide +kernel
theorem d_Cur_gradeOf_16 : decode prog_4_method_4_code 16 = .ok (.ifCond .eq (5), 3) := by decide +kernel
theorem d_Cur_gradeOf_19 : decode prog_4_method_4_code 19 = .ok (.iconst 4, 1) := by decide +kernel
theorem d_Cur_gradeOf_20 : decode prog_4_method_4_code 20 = .ok (.ireturn, 1) := by decide +kernel
theorem d_Cur_gradeOf_21 : decode prog_4_method_4_code 21 = .ok (.iload_n 1, 1) := by decide +kernel
theorem d_Cur_gradeOf_22 : decode prog_4_method_4_code 22 = .ok (.aload_n 0, 1) := by decide +kernel
theorem d_Cur_gradeOf_23 : decode prog_4_method_4_code 23 = .ok (.getfield 28, 3) := by decide +kernel
theorem d_Cur_gradeOf_26 : decode prog_4_method_4_code 26 = .ok (.iconst 5, 1) := by decide +kernel
theorem d_Cur_gradeOf_27 : decode prog_4_method_4_code 27 = .ok (.iadd, 1) := by decide +kernel
theorem d_Cur_gradeOf_28 : decode prog_4_method_4_code 28 = .ok (.if_icmp .gt (12), 3) := by decide +kernel
theorem d_Cur_gradeOf_31 : decode prog_4_method_4_code 31 = .ok (.aload_n 0, 1) := by decide +kernel
theorem d_Cur_gradeOf_32 : decode prog_4_method_4_code 32 = .ok (.iload_n 1, 1) := by decide +kernel
theorem d_Cur_gradeOf_33 : decode prog_4_method_4_code 33 = .ok (.iconst 0, 1) := by decide +kernel
theorem d_Cur_gradeOf_34 : decode prog_4_method_4_code 34 = .ok (.invokevirtual 41, 3) := by decide +kernel
theorem d_Cur_gradeOf_37 : decode prog_4_method_4_code 37 = .ok (.ifCond .eq (5), 3) := by decide +kernel
theorem d_Cur_gradeOf_40 : decode prog_4_method_4_code 40 = .ok (.iconst 3, 1) := by decide +kernel
theorem d_Cur_gradeOf_41 : decode prog_4_method_4_code 41 = .ok (.ireturn, 1) := by decide +kernel
theorem d_Cur_gradeOf_42 : decode prog_4_method_4_code 42 = .ok (.iload_n 1, 1) := by decide +kernel
theorem d_Cur_gradeOf_43 : decode prog_4_method_4_code 43 = .ok (.aload_n 0, 1) := by decide +kernel
theorem d_Cur_gradeOf_44 : decode prog_4_method_4_code 44 = .ok (.getfield 28, 3) := by decide +kernel
theorem d_Cur_gradeOf_47 : decode prog_4_method_4_code 47 = .ok (.iconst 3, 1) := by decide +kernel
theorem d_Cur_gradeOf_48 : decode prog_4_method_4_code 48 = .ok (.iadd, 1) := by decide +kernel
theorem d_Cur_gradeOf_49 : decode prog_4_method_4_code 49 = .ok (.if_icmp .gt (12), 3) := by decide +kernel
theorem d_Cur_gradeOf_52 : decode prog_4_method_4_code 52 = .ok (.aload_n 0, 1) := by decide +kernel
theorem d_Cur_gradeOf_53 : decode prog_4_method_4_code 53 = .ok (.iload_n 1, 1) := by decide +kernel
theorem d_Cur_gradeOf_54 : decode prog_4_method_4_code 54 = .ok (.iconst 2, 1) := by decide +kernel
theorem d_Cur_gradeOf_55 : decode prog_4_method_4_code 55 = .ok (.invokevirtual 41, 3) := by decide +kernel
theorem d_Cur_gradeOf_58 : decode prog_4_method_4_code 58 = .ok (.ifCond .eq (5), 3) := by decide +kernel
theorem d_Cur_gradeOf_61 : decode prog_4_method_4_code 61 = .ok (.iconst 2, 1) := by decide +kernel
theorem d_Cur_gradeOf_62 : decode prog_4_method_4_code 62 = .ok (.ireturn, 1) := by decide +kernel
theorem d_Cur_gradeOf_63 : decode prog_4_method_4_code 63 = .ok (.iload_n 1, 1) := by decide +kernel
theorem d_Cur_gradeOf_64 : decode prog_4_method_4_code 64 = .ok (.aload_n 0, 1) := by decide +kernel
theorem d_Cur_gradeOf_65 : decode prog_4_method_4_code 65 = .ok (.getfield 28, 3) := by decide +kernel
theorem d_Cur_gradeOf_68 : decode prog_4_method_4_code 68 = .ok (.if_icmp .gt (12), 3) := by decide +kernel
theorem d_Cur_gradeOf_71 : decode prog_4_method_4_code 71 = .ok (.aload_n 0, 1) := by decide +kernel
theorem d_Cur_gradeOf_72 : decode prog_4_method_4_code 72 = .ok (.iload_n 1, 1) := by decide +kernel
theorem d_Cur_gradeOf_73 : decode prog_4_method_4_code 73 = .ok (.iconst 4, 1) := by decide +kernel
theorem d_Cur_gradeOf_74 : decode prog_4_method_4_code 74 = .ok (.invokevirtual 41, 3) := by decide +kernel
theorem d_Cur_gradeOf_77 : decode prog_4_method_4_code 77 = .ok (.ifCond .eq (7), 3) := by decide +kernel
theorem d_Cur_gradeOf_80 : decode prog_4_method_4_code 80 = .ok (.iconst 1, 1) := by decide +kernel
theorem d_Cur_gradeOf_81 : decode prog_4_method_4_code 81 = .ok (.goto (4), 3) := by decide +kernel
theorem d_Cur_gradeOf_84 : decode prog_4_method_4_code 84 = .ok (.iconst 0, 1) := by decide +kernel
theorem d_Cur_gradeOf_85 : decode prog_4_method_4_code 85 = .ok (.ireturn, 1) := by decide +kernel
theorem d_Cur_allowed_0 : decode prog_4_method_5_code 0 = .ok (.iconst 0, 1) := by decide +kernel
theorem d_Cur_allowed_1 : decode prog_4_method_5_code 1 = .ok (.istore_n 1, 1) := by decide +kernel
theorem d_Cur_allowed_2 : decode prog_4_method_5_code 2 = .ok (.iconst 1, 1) := by decide +kernel
theorem d_Cur_allowed_3 : decode prog_4_method_5_code 3 = .ok (.istore_n 2, 1) := by decide +kernel
theorem d_Cur_allowed_4 : decode prog_4_method_5_code 4 = .ok (.aload_n 0, 1) := by decide +kernel
theorem d_Cur_allowed_5 : decode prog_4_method_5_code 5 = .ok (.getfield 28, 3) := by decide +kernel
theorem d_Cur_allowed_8 : decode prog_4_method_5_code 8 = .ok (.istore_n 3, 1) := by decide +kernel
theorem d_Cur_allowed_9 : decode prog_4_method_5_code 9 = .ok (.iconst 0, 1) := by decide +kernel
theorem d_Cur_allowed_10 : decode prog_4_method_5_code 10 = .ok (.istore 4, 2) := by decide +kernel
theorem d_Cur_allowed_12 : decode prog_4_method_5_code 12 = .ok (.iload 4, 2) := by decide +kernel
theorem d_Cur_allowed_14 : decode prog_4_method_5_code 14 = .ok (.sipush (600), 3) := by decide +kernel
theorem d_Cur_allowed_17 : decode prog_4_method_5_code 17 = .ok (.if_icmp .ge (46), 3) := by decide +kernel
theorem d_Cur_allowed_20 : decode prog_4_method_5_code 20 = .ok (.iload_n 2, 1) := by decide +kernel
theorem d_Cur_allowed_21 : decode prog_4_method_5_code 21 = .ok (.iload_n 3, 1) := by decide +kernel
theorem d_Cur_allowed_22 : decode prog_4_method_5_code 22 = .ok (.if_icmp .gt (41), 3) := by decide +kernel
theorem d_Cur_allowed_25 : decode prog_4_method_5_code 25 = .ok (.iload_n 2, 1) := by decide +kernel
theorem d_Cur_allowed_26 : decode prog_4_method_5_code 26 = .ok (.iload_n 3, 1) := by decide +kernel
theorem d_Cur_allowed_27 : decode prog_4_method_5_code 27 = .ok (.iadd, 1) := by decide +kernel
theorem d_Cur_allowed_28 : decode prog_4_method_5_code 28 = .ok (.iconst 2, 1) := by decide +kernel
theorem d_Cur_allowed_29 : decode prog_4_method_5_code 29 = .ok (.idiv, 1) := by decide +kernel
theorem d_Cur_allowed_30 : decode prog_4_method_5_code 30 = .ok (.istore 5, 2) := by decide +kernel
theorem d_Cur_allowed_32 : decode prog_4_method_5_code 32 = .ok (.aload_n 0, 1) := by decide +kernel
theorem d_Cur_allowed_33 : decode prog_4_method_5_code 33 = .ok (.iload 5, 2) := by decide +kernel
theorem d_Cur_allowed_35 : decode prog_4_method_5_code 35 = .ok (.invokevirtual 45, 3) := by decide +kernel
theorem d_Cur_allowed_38 : decode prog_4_method_5_code 38 = .ok (.ifCond .ne (14), 3) := by decide +kernel
theorem d_Cur_allowed_41 : decode prog_4_method_5_code 41 = .ok (.iload 5, 2) := by decide +kernel
theorem d_Cur_allowed_43 : decode prog_4_method_5_code 43 = .ok (.istore_n 1, 1) := by decide +kernel
theorem d_Cur_allowed_44 : decode prog_4_method_5_code 44 = .ok (.iload 5, 2) := by decide +kernel
theorem d_Cur_allowed_46 : decode prog_4_method_5_code 46 = .ok (.iconst 1, 1) := by decide +kernel
theorem d_Cur_allowed_47 : decode prog_4_method_5_code 47 = .ok (.iadd, 1) := by decide +kernel
theorem d_Cur_allowed_48 : decode prog_4_method_5_code 48 = .ok (.istore_n 2, 1) := by decide +kernel
theorem d_Cur_allowed_49 : decode prog_4_method_5_code 49 = .ok (.goto (8), 3) := by decide +kernel
theorem d_Cur_allowed_52 : decode prog_4_method_5_code 52 = .ok (.iload 5, 2) := by decide +kernel
theorem d_Cur_allowed_54 : decode prog_4_method_5_code 54 = .ok (.iconst 1, 1) := by decide +kernel
theorem d_Cur_allowed_55 : decode prog_4_method_5_code 55 = .ok (.isub, 1) := by decide +kernel
theorem d_Cur_allowed_56 : decode prog_4_method_5_code 56 = .ok (.istore_n 3, 1) := by decide +kernel
theorem d_Cur_allowed_57 : decode prog_4_method_5_code 57 = .ok (.iinc 4 (1), 3) := by decide +kernel
theorem d_Cur_allowed_60 : decode prog_4_method_5_code 60 = .ok (.goto (-48), 3) := by decide +kernel
theorem d_Cur_allowed_63 : decode prog_4_method_5_code 63 = .ok (.iload_n 1, 1) := by decide +kernel
theorem d_Cur_allowed_64 : decode prog_4_method_5_code 64 = .ok (.ireturn, 1) := by decide +kernel
theorem d_Cur_isOverEmergency_0 : decode prog_4_method_6_code 0 = .ok (.iconst 1, 1) := by decide +kernel
theorem d_Cur_isOverEmergency_1 : decode prog_4_method_6_code 1 = .ok (.istore_n 2, 1) := by decide +kernel
theorem d_Cur_isOverEmergency_2 : decode prog_4_method_6_code 2 = .ok (.iload_n 2, 1) := by decide +kernel
theorem d_Cur_isOverEmergency_3 : decode prog_4_method_6_code 3 = .ok (.aload_n 0, 1) := by decide +kernel
theorem d_Cur_isOverEmergency_4 : decode prog_4_method_6_code 4 = .ok (.getfield 34, 3) := by decide +kernel
theorem d_Cur_isOverEmergency_7 : decode prog_4_method_6_code 7 = .ok (.if_icmp .ge (26), 3) := by decide +kernel
theorem d_Cur_isOverEmergency_10 : decode prog_4_method_6_code 10 = .ok (.aload_n 0, 1) := by decide +kernel
theorem d_Cur_isOverEmergency_11 : decode prog_4_method_6_code 11 = .ok (.iload_n 2, 1) := by decide +kernel
theorem d_Cur_isOverEmergency_12 : decode prog_4_method_6_code 12 = .ok (.iload_n 1, 1) := by decide +kernel
theorem d_Cur_isOverEmergency_13 : decode prog_4_method_6_code 13 = .ok (.aload_n 0, 1) := by decide +kernel
theorem d_Cur_isOverEmergency_14 : decode prog_4_method_6_code 14 = .ok (.getfield 21, 3) := by decide +kernel
theorem d_Cur_isOverEmergency_17 : decode prog_4_method_6_code 17 = .ok (.iconst 2, 1) := by decide +kernel
theorem d_Cur_isOverEmergency_18 : decode prog_4_method_6_code 18 = .ok (.iconst 0, 1) := by decide +kernel
theorem d_Cur_isOverEmergency_19 : decode prog_4_method_6_code 19 = .ok (.invokevirtual 49, 3) := by decide +kernel
theorem d_Cur_isOverEmergency_22 : decode prog_4_method_6_code 22 = .ok (.ifCond .eq (5), 3) := by decide +kernel
theorem d_Cur_isOverEmergency_25 : decode prog_4_method_6_code 25 = .ok (.iconst 1, 1) := by decide +kernel
theorem d_Cur_isOverEmergency_26 : decode prog_4_method_6_code 26 = .ok (.ireturn, 1) := by decide +kernel
theorem d_Cur_isOverEmergency_27 : decode prog_4_method_6_code 27 = .ok (.iinc 2 (1), 3) := by decide +kernel
theorem d_Cur_isOverEmergency_30 : decode prog_4_method_6_code 30 = .ok (.goto (-28), 3) := by decide +kernel
theorem d_Cur_isOverEmergency_33 : decode prog_4_method_6_code 33 = .ok (.iconst 0, 1) := by decide +kernel
theorem d_Cur_isOverEmergency_34 : decode prog_4_method_6_code 34 = .ok (.ireturn, 1) := by decide +kernel
theorem d_Cur_isOverService_0 : decode prog_4_method_7_code 0 = .ok (.iconst 0, 1) := by decide +kernel
theorem d_Cur_isOverService_1 : decode prog_4_method_7_code 1 = .ok (.istore_n 3, 1) := by decide +kernel
theorem d_Cur_isOverService_2 : decode prog_4_method_7_code 2 = .ok (.iload_n 3, 1) := by decide +kernel
theorem d_Cur_isOverService_3 : decode prog_4_method_7_code 3 = .ok (.aload_n 0, 1) := by decide +kernel
theorem d_Cur_isOverService_4 : decode prog_4_method_7_code 4 = .ok (.getfield 34, 3) := by decide +kernel
theorem d_Cur_isOverService_7 : decode prog_4_method_7_code 7 = .ok (.iconst 1, 1) := by decide +kernel
theorem d_Cur_isOverService_8 : decode prog_4_method_7_code 8 = .ok (.isub, 1) := by decide +kernel
theorem d_Cur_isOverService_9 : decode prog_4_method_7_code 9 = .ok (.if_icmp .ge (26), 3) := by decide +kernel
theorem d_Cur_isOverService_12 : decode prog_4_method_7_code 12 = .ok (.aload_n 0, 1) := by decide +kernel
theorem d_Cur_isOverService_13 : decode prog_4_method_7_code 13 = .ok (.iload_n 3, 1) := by decide +kernel
theorem d_Cur_isOverService_14 : decode prog_4_method_7_code 14 = .ok (.iload_n 1, 1) := by decide +kernel
theorem d_Cur_isOverService_15 : decode prog_4_method_7_code 15 = .ok (.aload_n 0, 1) := by decide +kernel
theorem d_Cur_isOverService_16 : decode prog_4_method_7_code 16 = .ok (.getfield 25, 3) := by decide +kernel
theorem d_Cur_isOverService_19 : decode prog_4_method_7_code 19 = .ok (.iconst 3, 1) := by decide +kernel
theorem d_Cur_isOverService_20 : decode prog_4_method_7_code 20 = .ok (.iload_n 2, 1) := by decide +kernel
theorem d_Cur_isOverService_21 : decode prog_4_method_7_code 21 = .ok (.invokevirtual 49, 3) := by decide +kernel
theorem d_Cur_isOverService_24 : decode prog_4_method_7_code 24 = .ok (.ifCond .eq (5), 3) := by decide +kernel
theorem d_Cur_isOverService_27 : decode prog_4_method_7_code 27 = .ok (.iconst 1, 1) := by decide +kernel
theorem d_Cur_isOverService_28 : decode prog_4_method_7_code 28 = .ok (.ireturn, 1) := by decide +kernel
theorem d_Cur_isOverService_29 : decode prog_4_method_7_code 29 = .ok (.iinc 3 (1), 3) := by decide +kernel
theorem d_Cur_isOverService_32 : decode prog_4_method_7_code 32 = .ok (.goto (-30), 3) := by decide +kernel
theorem d_Cur_isOverService_35 : decode prog_4_method_7_code 35 = .ok (.iconst 0, 1) := by decide +kernel
theorem d_Cur_isOverService_36 : decode prog_4_method_7_code 36 = .ok (.ireturn, 1) := by decide +kernel
theorem d_Cur_isOver_0 : decode prog_4_method_8_code 0 = .ok (.iload_n 2, 1) := by decide +kernel
theorem d_Cur_isOver_1 : decode prog_4_method_8_code 1 = .ok (.iconst 2, 1) := by decide +kernel
theorem d_Cur_isOver_2 : decode prog_4_method_8_code 2 = .ok (.iload 4, 2) := by decide +kernel
theorem d_Cur_isOver_4 : decode prog_4_method_8_code 4 = .ok (.imul, 1) := by decide +kernel
theorem d_Cur_isOver_5 : decode prog_4_method_8_code 5 = .ok (.iadd, 1) := by decide +kernel
theorem d_Cur_isOver_6 : decode prog_4_method_8_code 6 = .ok (.istore 6, 2) := by decide +kernel
theorem d_Cur_isOver_8 : decode prog_4_method_8_code 8 = .ok (.iload 6, 2) := by decide +kernel
theorem d_Cur_isOver_10 : decode prog_4_method_8_code 10 = .ok (.aload_n 0, 1) := by decide +kernel
theorem d_Cur_isOver_11 : decode prog_4_method_8_code 11 = .ok (.getfield 15, 3) := by decide +kernel
theorem d_Cur_isOver_14 : decode prog_4_method_8_code 14 = .ok (.iload_n 1, 1) := by decide +kernel
theorem d_Cur_isOver_15 : decode prog_4_method_8_code 15 = .ok (.iaload, 1) := by decide +kernel
theorem d_Cur_isOver_16 : decode prog_4_method_8_code 16 = .ok (.if_icmp .gt (5), 3) := by decide +kernel
theorem d_Cur_isOver_19 : decode prog_4_method_8_code 19 = .ok (.iconst 0, 1) := by decide +kernel
theorem d_Cur_isOver_20 : decode prog_4_method_8_code 20 = .ok (.ireturn, 1) := by decide +kernel
theorem d_Cur_isOver_21 : decode prog_4_method_8_code 21 = .ok (.iload 4, 2) := by decide +kernel
theorem d_Cur_isOver_23 : decode prog_4_method_8_code 23 = .ok (.iload_n 2, 1) := by decide +kernel
theorem d_Cur_isOver_24 : decode prog_4_method_8_code 24 = .ok (.imul, 1) := by decide +kernel
theorem d_Cur_isOver_25 : decode prog_4_method_8_code 25 = .ok (.iload 4, 2) := by decide +kernel
theorem d_Cur_isOver_27 : decode prog_4_method_8_code 27 = .ok (.iload 4, 2) := by decide +kernel
theorem d_Cur_isOver_29 : decode prog_4_method_8_code 29 = .ok (.iconst 1, 1) := by decide +kernel
theorem d_Cur_isOver_30 : decode prog_4_method_8_code 30 = .ok (.iadd, 1) := by decide +kernel
theorem d_Cur_isOver_31 : decode prog_4_method_8_code 31 = .ok (.imul, 1) := by decide +kernel
theorem d_Cur_isOver_32 : decode prog_4_method_8_code 32 = .ok (.iadd, 1) := by decide +kernel
theorem d_Cur_isOver_33 : decode prog_4_method_8_code 33 = .ok (.istore 7, 2) := by decide +kernel
theorem d_Cur_isOver_35 : decode prog_4_method_8_code 35 = .ok (.iload_n 3, 1) := by decide +kernel
theorem d_Cur_isOver_36 : decode prog_4_method_8_code 36 = .ok (.aload_n 0, 1) := by decide +kernel
theorem d_Cur_isOver_37 : decode prog_4_method_8_code 37 = .ok (.getfield 18, 3) := by decide +kernel
theorem d_Cur_isOver_40 : decode prog_4_method_8_code 40 = .ok (.iload_n 1, 1) := by decide +kernel
theorem d_Cur_isOver_41 : decode prog_4_method_8_code 41 = .ok (.iaload, 1) := by decide +kernel
theorem d_Cur_isOver_42 : decode prog_4_method_8_code 42 = .ok (.isub, 1) := by decide +kernel
theorem d_Cur_isOver_43 : decode prog_4_method_8_code 43 = .ok (.istore 8, 2) := by decide +kernel
theorem d_Cur_isOver_45 : decode prog_4_method_8_code 45 = .ok (.aload_n 0, 1) := by decide +kernel
theorem d_Cur_isOver_46 : decode prog_4_method_8_code 46 = .ok (.getfield 31, 3) := by decide +kernel
theorem d_Cur_isOver_49 : decode prog_4_method_8_code 49 = .ok (.iload 7, 2) := by decide +kernel
theorem d_Cur_isOver_51 : decode prog_4_method_8_code 51 = .ok (.iadd, 1) := by decide +kernel
theorem d_Cur_isOver_52 : decode prog_4_method_8_code 52 = .ok (.iload 5, 2) := by decide +kernel
theorem d_Cur_isOver_54 : decode prog_4_method_8_code 54 = .ok (.iload_n 2, 1) := by decide +kernel
theorem d_Cur_isOver_55 : decode prog_4_method_8_code 55 = .ok (.imul, 1) := by decide +kernel
theorem d_Cur_isOver_56 : decode prog_4_method_8_code 56 = .ok (.iadd, 1) := by decide +kernel
theorem d_Cur_isOver_57 : decode prog_4_method_8_code 57 = .ok (.iload 6, 2) := by decide +kernel
theorem d_Cur_isOver_59 : decode prog_4_method_8_code 59 = .ok (.aload_n 0, 1) := by decide +kernel
theorem d_Cur_isOver_60 : decode prog_4_method_8_code 60 = .ok (.getfield 15, 3) := by decide +kernel
theorem d_Cur_isOver_63 : decode prog_4_method_8_code 63 = .ok (.iload_n 1, 1) := by decide +kernel
theorem d_Cur_isOver_64 : decode prog_4_method_8_code 64 = .ok (.iaload, 1) := by decide +kernel
theorem d_Cur_isOver_65 : decode prog_4_method_8_code 65 = .ok (.iload 8, 2) := by decide +kernel
theorem d_Cur_isOver_67 : decode prog_4_method_8_code 67 = .ok (.iconst 1, 1) := by decide +kernel
theorem d_Cur_isOver_68 : decode prog_4_method_8_code 68 = .ok (.if_icmp .le (8), 3) := by decide +kernel
theorem d_Cur_isOver_71 : decode prog_4_method_8_code 71 = .ok (.iload 8, 2) := by decide +kernel
theorem d_Cur_isOver_73 : decode prog_4_method_8_code 73 = .ok (.goto (4), 3) := by decide +kernel
theorem d_Cur_isOver_76 : decode prog_4_method_8_code 76 = .ok (.iconst 1, 1) := by decide +kernel
theorem d_Cur_isOver_77 : decode prog_4_method_8_code 77 = .ok (.invokestatic 53, 3) := by decide +kernel
theorem d_Cur_isOver_80 : decode prog_4_method_8_code 80 = .ok (.iadd, 1) := by decide +kernel
theorem d_Cur_isOver_81 : decode prog_4_method_8_code 81 = .ok (.aload_n 0, 1) := by decide +kernel
theorem d_Cur_isOver_82 : decode prog_4_method_8_code 82 = .ok (.getfield 11, 3) := by decide +kernel
theorem d_Cur_isOver_85 : decode prog_4_method_8_code 85 = .ok (.iload_n 1, 1) := by decide +kernel
theorem d_Cur_isOver_86 : decode prog_4_method_8_code 86 = .ok (.iaload, 1) := by decide +kernel
theorem d_Cur_isOver_87 : decode prog_4_method_8_code 87 = .ok (.if_icmp .le (7), 3) := by decide +kernel
theorem d_Cur_isOver_90 : decode prog_4_method_8_code 90 = .ok (.iconst 1, 1) := by decide +kernel
theorem d_Cur_isOver_91 : decode prog_4_method_8_code 91 = .ok (.goto (4), 3) := by decide +kernel
theorem d_Cur_isOver_94 : decode prog_4_method_8_code 94 = .ok (.iconst 0, 1) := by decide +kernel
theorem d_Cur_isOver_95 : decode prog_4_method_8_code 95 = .ok (.ireturn, 1) := by decide +kernel
theorem d_Frt_init_0 : decode prog_5_method_1_code 0 = .ok (.aload_n 0, 1) := by decide +kernel
theorem d_Frt_init_1 : decode prog_5_method_1_code 1 = .ok (.invokespecial 1, 3) := by decide +kernel
theorem d_Frt_init_4 : decode prog_5_method_1_code 4 = .ok (.return_, 1) := by decide +kernel
theorem d_Frt_advance_0 : decode prog_5_method_2_code 0 = .ok (.iload_n 1, 1) := by decide +kernel
theorem d_Frt_advance_1 : decode prog_5_method_2_code 1 = .ok (.ifCond .ne (7), 3) := by decide +kernel
theorem d_Frt_advance_4 : decode prog_5_method_2_code 4 = .ok (.iconst 0, 1) := by decide +kernel
theorem d_Frt_advance_5 : decode prog_5_method_2_code 5 = .ok (.goto (9), 3) := by decide +kernel
theorem d_Frt_advance_8 : decode prog_5_method_2_code 8 = .ok (.iconst 1, 1) := by decide +kernel
theorem d_Frt_advance_9 : decode prog_5_method_2_code 9 = .ok (.iload_n 1, 1) := by decide +kernel
theorem d_Frt_advance_10 : decode prog_5_method_2_code 10 = .ok (.bipush (16), 2) := by decide +kernel
theorem d_Frt_advance_12 : decode prog_5_method_2_code 12 = .ok (.idiv, 1) := by decide +kernel
theorem d_Frt_advance_13 : decode prog_5_method_2_code 13 = .ok (.iadd, 1) := by decide +kernel
theorem d_Frt_advance_14 : decode prog_5_method_2_code 14 = .ok (.istore_n 2, 1) := by decide +kernel
theorem d_Frt_advance_15 : decode prog_5_method_2_code 15 = .ok (.aload_n 0, 1) := by decide +kernel
theorem d_Frt_advance_16 : decode prog_5_method_2_code 16 = .ok (.dup, 1) := by decide +kernel
theorem d_Frt_advance_17 : decode prog_5_method_2_code 17 = .ok (.getfield 7, 3) := by decide +kernel
theorem d_Frt_advance_20 : decode prog_5_method_2_code 20 = .ok (.iload_n 1, 1) := by decide +kernel
theorem d_Frt_advance_21 : decode prog_5_method_2_code 21 = .ok (.iload_n 2, 1) := by decide +kernel
theorem d_Frt_advance_22 : decode prog_5_method_2_code 22 = .ok (.iadd, 1) := by decide +kernel
theorem d_Frt_advance_23 : decode prog_5_method_2_code 23 = .ok (.iadd, 1) := by decide +kernel
theorem d_Frt_advance_24 : decode prog_5_method_2_code 24 = .ok (.putfield 7, 3) := by decide +kernel
theorem d_Frt_advance_27 : decode prog_5_method_2_code 27 = .ok (.aload_n 0, 1) := by decide +kernel
theorem d_Frt_advance_28 : decode prog_5_method_2_code 28 = .ok (.dup, 1) := by decide +kernel
theorem d_Frt_advance_29 : decode prog_5_method_2_code 29 = .ok (.getfield 13, 3) := by decide +kernel
theorem d_Frt_advance_32 : decode prog_5_method_2_code 32 = .ok (.iload_n 1, 1) := by decide +kernel
theorem d_Frt_advance_33 : decode prog_5_method_2_code 33 = .ok (.iload_n 2, 1) := by decide +kernel
theorem d_Frt_advance_34 : decode prog_5_method_2_code 34 = .ok (.isub, 1) := by decide +kernel
theorem d_Frt_advance_35 : decode prog_5_method_2_code 35 = .ok (.iadd, 1) := by decide +kernel
theorem d_Frt_advance_36 : decode prog_5_method_2_code 36 = .ok (.putfield 13, 3) := by decide +kernel
theorem d_Frt_advance_39 : decode prog_5_method_2_code 39 = .ok (.aload_n 0, 1) := by decide +kernel
theorem d_Frt_advance_40 : decode prog_5_method_2_code 40 = .ok (.iload_n 1, 1) := by decide +kernel
theorem d_Frt_advance_41 : decode prog_5_method_2_code 41 = .ok (.iload_n 2, 1) := by decide +kernel
theorem d_Frt_advance_42 : decode prog_5_method_2_code 42 = .ok (.iadd, 1) := by decide +kernel
theorem d_Frt_advance_43 : decode prog_5_method_2_code 43 = .ok (.putfield 16, 3) := by decide +kernel
theorem d_Frt_advance_46 : decode prog_5_method_2_code 46 = .ok (.return_, 1) := by decide +kernel
theorem d_Frt_narrow_0 : decode prog_5_method_3_code 0 = .ok (.aload_n 0, 1) := by decide +kernel
theorem d_Frt_narrow_1 : decode prog_5_method_3_code 1 = .ok (.aload_n 0, 1) := by decide +kernel
theorem d_Frt_narrow_2 : decode prog_5_method_3_code 2 = .ok (.getfield 13, 3) := by decide +kernel
theorem d_Frt_narrow_5 : decode prog_5_method_3_code 5 = .ok (.iload_n 1, 1) := by decide +kernel
theorem d_Frt_narrow_6 : decode prog_5_method_3_code 6 = .ok (.invokestatic 19, 3) := by decide +kernel
theorem d_Frt_narrow_9 : decode prog_5_method_3_code 9 = .ok (.putfield 13, 3) := by decide +kernel
theorem d_Frt_narrow_12 : decode prog_5_method_3_code 12 = .ok (.aload_n 0, 1) := by decide +kernel
theorem d_Frt_narrow_13 : decode prog_5_method_3_code 13 = .ok (.aload_n 0, 1) := by decide +kernel
theorem d_Frt_narrow_14 : decode prog_5_method_3_code 14 = .ok (.getfield 7, 3) := by decide +kernel
theorem d_Frt_narrow_17 : decode prog_5_method_3_code 17 = .ok (.iload_n 2, 1) := by decide +kernel
theorem d_Frt_narrow_18 : decode prog_5_method_3_code 18 = .ok (.invokestatic 25, 3) := by decide +kernel
theorem d_Frt_narrow_21 : decode prog_5_method_3_code 21 = .ok (.putfield 7, 3) := by decide +kernel
theorem d_Frt_narrow_24 : decode prog_5_method_3_code 24 = .ok (.return_, 1) := by decide +kernel
theorem d_Mrk_init_0 : decode prog_6_method_1_code 0 = .ok (.aload_n 0, 1) := by decide +kernel
theorem d_Mrk_init_1 : decode prog_6_method_1_code 1 = .ok (.invokespecial 3, 3) := by decide +kernel
theorem d_Mrk_init_4 : decode prog_6_method_1_code 4 = .ok (.aload_n 0, 1) := by decide +kernel
theorem d_Mrk_init_5 : decode prog_6_method_1_code 5 = .ok (.bipush (7), 2) := by decide +kernel
theorem d_Mrk_init_7 : decode prog_6_method_1_code 7 = .ok (.newarray .int, 2) := by decide +kernel
theorem d_Mrk_init_9 : decode prog_6_method_1_code 9 = .ok (.putfield 9, 3) := by decide +kernel
theorem d_Mrk_init_12 : decode prog_6_method_1_code 12 = .ok (.aload_n 0, 1) := by decide +kernel
theorem d_Mrk_init_13 : decode prog_6_method_1_code 13 = .ok (.bipush (7), 2) := by decide +kernel
theorem d_Mrk_init_15 : decode prog_6_method_1_code 15 = .ok (.newarray .int, 2) := by decide +kernel
theorem d_Mrk_init_17 : decode prog_6_method_1_code 17 = .ok (.putfield 15, 3) := by decide +kernel
theorem d_Mrk_init_20 : decode prog_6_method_1_code 20 = .ok (.aload_n 0, 1) := by decide +kernel
theorem d_Mrk_init_21 : decode prog_6_method_1_code 21 = .ok (.bipush (7), 2) := by decide +kernel
theorem d_Mrk_init_23 : decode prog_6_method_1_code 23 = .ok (.newarray .int, 2) := by decide +kernel
theorem d_Mrk_init_25 : decode prog_6_method_1_code 25 = .ok (.putfield 18, 3) := by decide +kernel
theorem d_Mrk_init_28 : decode prog_6_method_1_code 28 = .ok (.aload_n 0, 1) := by decide +kernel
theorem d_Mrk_init_29 : decode prog_6_method_1_code 29 = .ok (.bipush (7), 2) := by decide +kernel
theorem d_Mrk_init_31 : decode prog_6_method_1_code 31 = .ok (.newarray .boolean, 2) := by decide +kernel
theorem d_Mrk_init_33 : decode prog_6_method_1_code 33 = .ok (.putfield 21, 3) := by decide +kernel
theorem d_Mrk_init_36 : decode prog_6_method_1_code 36 = .ok (.return_, 1) := by decide +kernel
theorem d_Mrk_clear_0 : decode prog_6_method_2_code 0 = .ok (.aload_n 0, 1) := by decide +kernel
theorem d_Mrk_clear_1 : decode prog_6_method_2_code 1 = .ok (.iconst 0, 1) := by decide +kernel
theorem d_Mrk_clear_2 : decode prog_6_method_2_code 2 = .ok (.putfield 25, 3) := by decide +kernel
theorem d_Mrk_clear_5 : decode prog_6_method_2_code 5 = .ok (.return_, 1) := by decide +kernel
theorem d_Mrk_add_0 : decode prog_6_method_3_code 0 = .ok (.aload_n 0, 1) := by decide +kernel
theorem d_Mrk_add_1 : decode prog_6_method_3_code 1 = .ok (.getfield 25, 3) := by decide +kernel
theorem d_Mrk_add_4 : decode prog_6_method_3_code 4 = .ok (.bipush (7), 2) := by decide +kernel
theorem d_Mrk_add_6 : decode prog_6_method_3_code 6 = .ok (.if_icmp .ge (53), 3) := by decide +kernel
theorem d_Mrk_add_9 : decode prog_6_method_3_code 9 = .ok (.aload_n 0, 1) := by decide +kernel
theorem d_Mrk_add_10 : decode prog_6_method_3_code 10 = .ok (.getfield 9, 3) := by decide +kernel
theorem d_Mrk_add_13 : decode prog_6_method_3_code 13 = .ok (.aload_n 0, 1) := by decide +kernel
theorem d_Mrk_add_14 : decode prog_6_method_3_code 14 = .ok (.getfield 25, 3) := by decide +kernel
theorem d_Mrk_add_17 : decode prog_6_method_3_code 17 = .ok (.iload_n 1, 1) := by decide +kernel
theorem d_Mrk_add_18 : decode prog_6_method_3_code 18 = .ok (.iastore, 1) := by decide +kernel
theorem d_Mrk_add_19 : decode prog_6_method_3_code 19 = .ok (.aload_n 0, 1) := by decide +kernel
theorem d_Mrk_add_20 : decode prog_6_method_3_code 20 = .ok (.getfield 15, 3) := by decide +kernel
theorem d_Mrk_add_23 : decode prog_6_method_3_code 23 = .ok (.aload_n 0, 1) := by decide +kernel
theorem d_Mrk_add_24 : decode prog_6_method_3_code 24 = .ok (.getfield 25, 3) := by decide +kernel
theorem d_Mrk_add_27 : decode prog_6_method_3_code 27 = .ok (.iload_n 2, 1) := by decide +kernel
theorem d_Mrk_add_28 : decode prog_6_method_3_code 28 = .ok (.iastore, 1) := by decide +kernel
theorem d_Mrk_add_29 : decode prog_6_method_3_code 29 = .ok (.aload_n 0, 1) := by decide +kernel
theorem d_Mrk_add_30 : decode prog_6_method_3_code 30 = .ok (.getfield 18, 3) := by decide +kernel
theorem d_Mrk_add_33 : decode prog_6_method_3_code 33 = .ok (.aload_n 0, 1) := by decide +kernel
theorem d_Mrk_add_34 : decode prog_6_method_3_code 34 = .ok (.getfield 25, 3) := by decide +kernel
theorem d_Mrk_add_37 : decode prog_6_method_3_code 37 = .ok (.iload_n 3, 1) := by decide +kernel
theorem d_Mrk_add_38 : decode prog_6_method_3_code 38 = .ok (.iastore, 1) := by decide +kernel
theorem d_Mrk_add_39 : decode prog_6_method_3_code 39 = .ok (.aload_n 0, 1) := by decide +kernel
theorem d_Mrk_add_40 : decode prog_6_method_3_code 40 = .ok (.getfield 21, 3) := by decide +kernel
theorem d_Mrk_add_43 : decode prog_6_method_3_code 43 = .ok (.aload_n 0, 1) := by decide +kernel
theorem d_Mrk_add_44 : decode prog_6_method_3_code 44 = .ok (.getfield 25, 3) := by decide +kernel
theorem d_Mrk_add_47 : decode prog_6_method_3_code 47 = .ok (.iconst 0, 1) := by decide +kernel
theorem d_Mrk_add_48 : decode prog_6_method_3_code 48 = .ok (.bastore, 1) := by decide +kernel
theorem d_Mrk_add_49 : decode prog_6_method_3_code 49 = .ok (.aload_n 0, 1) := by decide +kernel
theorem d_Mrk_add_50 : decode prog_6_method_3_code 50 = .ok (.dup, 1) := by decide +kernel
theorem d_Mrk_add_51 : decode prog_6_method_3_code 51 = .ok (.getfield 25, 3) := by decide +kernel
theorem d_Mrk_add_54 : decode prog_6_method_3_code 54 = .ok (.iconst 1, 1) := by decide +kernel
theorem d_Mrk_add_55 : decode prog_6_method_3_code 55 = .ok (.iadd, 1) := by decide +kernel
theorem d_Mrk_add_56 : decode prog_6_method_3_code 56 = .ok (.putfield 25, 3) := by decide +kernel
theorem d_Mrk_add_59 : decode prog_6_method_3_code 59 = .ok (.return_, 1) := by decide +kernel
theorem d_Mrk_copyFrom_0 : decode prog_6_method_4_code 0 = .ok (.aload_n 0, 1) := by decide +kernel
theorem d_Mrk_copyFrom_1 : decode prog_6_method_4_code 1 = .ok (.invokevirtual 29, 3) := by decide +kernel
theorem d_Mrk_copyFrom_4 : decode prog_6_method_4_code 4 = .ok (.iconst 0, 1) := by decide +kernel
theorem d_Mrk_copyFrom_5 : decode prog_6_method_4_code 5 = .ok (.istore_n 2, 1) := by decide +kernel
theorem d_Mrk_copyFrom_6 : decode prog_6_method_4_code 6 = .ok (.iload_n 2, 1) := by decide +kernel
theorem d_Mrk_copyFrom_7 : decode prog_6_method_4_code 7 = .ok (.aload_n 1, 1) := by decide +kernel
theorem d_Mrk_copyFrom_8 : decode prog_6_method_4_code 8 = .ok (.getfield 25, 3) := by decide +kernel
theorem d_Mrk_copyFrom_11 : decode prog_6_method_4_code 11 = .ok (.if_icmp .ge (31), 3) := by decide +kernel
theorem d_Mrk_copyFrom_14 : decode prog_6_method_4_code 14 = .ok (.aload_n 0, 1) := by decide +kernel
theorem d_Mrk_copyFrom_15 : decode prog_6_method_4_code 15 = .ok (.aload_n 1, 1) := by decide +kernel
theorem d_Mrk_copyFrom_16 : decode prog_6_method_4_code 16 = .ok (.getfield 9, 3) := by decide +kernel
theorem d_Mrk_copyFrom_19 : decode prog_6_method_4_code 19 = .ok (.iload_n 2, 1) := by decide +kernel
theorem d_Mrk_copyFrom_20 : decode prog_6_method_4_code 20 = .ok (.iaload, 1) := by decide +kernel
theorem d_Mrk_copyFrom_21 : decode prog_6_method_4_code 21 = .ok (.aload_n 1, 1) := by decide +kernel
theorem d_Mrk_copyFrom_22 : decode prog_6_method_4_code 22 = .ok (.getfield 15, 3) := by decide +kernel
theorem d_Mrk_copyFrom_25 : decode prog_6_method_4_code 25 = .ok (.iload_n 2, 1) := by decide +kernel
theorem d_Mrk_copyFrom_26 : decode prog_6_method_4_code 26 = .ok (.iaload, 1) := by decide +kernel
theorem d_Mrk_copyFrom_27 : decode prog_6_method_4_code 27 = .ok (.aload_n 1, 1) := by decide +kernel
theorem d_Mrk_copyFrom_28 : decode prog_6_method_4_code 28 = .ok (.getfield 18, 3) := by decide +kernel
theorem d_Mrk_copyFrom_31 : decode prog_6_method_4_code 31 = .ok (.iload_n 2, 1) := by decide +kernel
theorem d_Mrk_copyFrom_32 : decode prog_6_method_4_code 32 = .ok (.iaload, 1) := by decide +kernel
theorem d_Mrk_copyFrom_33 : decode prog_6_method_4_code 33 = .ok (.invokevirtual 32, 3) := by decide +kernel
theorem d_Mrk_copyFrom_36 : decode prog_6_method_4_code 36 = .ok (.iinc 2 (1), 3) := by decide +kernel
theorem d_Mrk_copyFrom_39 : decode prog_6_method_4_code 39 = .ok (.goto (-33), 3) := by decide +kernel
theorem d_Mrk_copyFrom_42 : decode prog_6_method_4_code 42 = .ok (.return_, 1) := by decide +kernel
theorem d_Mrk_earliest_0 : decode prog_6_method_5_code 0 = .ok (.aload_n 0, 1) := by decide +kernel
theorem d_Mrk_earliest_1 : decode prog_6_method_5_code 1 = .ok (.getfield 9, 3) := by decide +kernel
theorem d_Mrk_earliest_4 : decode prog_6_method_5_code 4 = .ok (.iload_n 1, 1) := by decide +kernel
theorem d_Mrk_earliest_5 : decode prog_6_method_5_code 5 = .ok (.iaload, 1) := by decide +kernel
theorem d_Mrk_earliest_6 : decode prog_6_method_5_code 6 = .ok (.aload_n 0, 1) := by decide +kernel
theorem d_Mrk_earliest_7 : decode prog_6_method_5_code 7 = .ok (.getfield 18, 3) := by decide +kernel
theorem d_Mrk_earliest_10 : decode prog_6_method_5_code 10 = .ok (.iload_n 1, 1) := by decide +kernel
theorem d_Mrk_earliest_11 : decode prog_6_method_5_code 11 = .ok (.iaload, 1) := by decide +kernel
theorem d_Mrk_earliest_12 : decode prog_6_method_5_code 12 = .ok (.isub, 1) := by decide +kernel
theorem d_Mrk_earliest_13 : decode prog_6_method_5_code 13 = .ok (.ireturn, 1) := by decide +kernel
theorem d_Mrk_latest_0 : decode prog_6_method_6_code 0 = .ok (.aload_n 0, 1) := by decide +kernel
theorem d_Mrk_latest_1 : decode prog_6_method_6_code 1 = .ok (.getfield 9, 3) := by decide +kernel
theorem d_Mrk_latest_4 : decode prog_6_method_6_code 4 = .ok (.iload_n 1, 1) := by decide +kernel
theorem d_Mrk_latest_5 : decode prog_6_method_6_code 5 = .ok (.iaload, 1) := by decide +kernel
theorem d_Mrk_latest_6 : decode prog_6_method_6_code 6 = .ok (.aload_n 0, 1) := by decide +kernel
theorem d_Mrk_latest_7 : decode prog_6_method_6_code 7 = .ok (.getfield 18, 3) := by decide +kernel
theorem d_Mrk_latest_10 : decode prog_6_method_6_code 10 = .ok (.iload_n 1, 1) := by decide +kernel
theorem d_Mrk_latest_11 : decode prog_6_method_6_code 11 = .ok (.iaload, 1) := by decide +kernel
theorem d_Mrk_latest_12 : decode prog_6_method_6_code 12 = .ok (.iadd, 1) := by decide +kernel
theorem d_Mrk_latest_13 : decode prog_6_method_6_code 13 = .ok (.ireturn, 1) := by decide +kernel
theorem d_Mrk_firstOpen_0 : decode prog_6_method_7_code 0 = .ok (.iconst 0, 1) := by decide +kernel
theorem d_Mrk_firstOpen_1 : decode prog_6_method_7_code 1 = .ok (.istore_n 2, 1) := by decide +kernel
theorem d_Mrk_firstOpen_2 : decode prog_6_method_7_code 2 = .ok (.iload_n 2, 1) := by decide +kernel
theorem d_Mrk_firstOpen_3 : decode prog_6_method_7_code 3 = .ok (.aload_n 0, 1) := by decide +kernel
theorem d_Mrk_firstOpen_4 : decode prog_6_method_7_code 4 = .ok (.getfield 25, 3) := by decide +kernel
theorem d_Mrk_firstOpen_7 : decode prog_6_method_7_code 7 = .ok (.if_icmp .ge (30), 3) := by decide +kernel
theorem d_Mrk_firstOpen_10 : decode prog_6_method_7_code 10 = .ok (.aload_n 0, 1) := by decide +kernel
theorem d_Mrk_firstOpen_11 : decode prog_6_method_7_code 11 = .ok (.getfield 21, 3) := by decide +kernel
theorem d_Mrk_firstOpen_14 : decode prog_6_method_7_code 14 = .ok (.iload_n 2, 1) := by decide +kernel
theorem d_Mrk_firstOpen_15 : decode prog_6_method_7_code 15 = .ok (.baload, 1) := by decide +kernel
theorem d_Mrk_firstOpen_16 : decode prog_6_method_7_code 16 = .ok (.ifCond .ne (15), 3) := by decide +kernel
theorem d_Mrk_firstOpen_19 : decode prog_6_method_7_code 19 = .ok (.aload_n 0, 1) := by decide +kernel
theorem d_Mrk_firstOpen_20 : decode prog_6_method_7_code 20 = .ok (.getfield 15, 3) := by decide +kernel
theorem d_Mrk_firstOpen_23 : decode prog_6_method_7_code 23 = .ok (.iload_n 2, 1) := by decide +kernel
theorem d_Mrk_firstOpen_24 : decode prog_6_method_7_code 24 = .ok (.iaload, 1) := by decide +kernel
theorem d_Mrk_firstOpen_25 : decode prog_6_method_7_code 25 = .ok (.iload_n 1, 1) := by decide +kernel
theorem d_Mrk_firstOpen_26 : decode prog_6_method_7_code 26 = .ok (.if_icmp .ne (5), 3) := by decide +kernel
theorem d_Mrk_firstOpen_29 : decode prog_6_method_7_code 29 = .ok (.iload_n 2, 1) := by decide +kernel
theorem d_Mrk_firstOpen_30 : decode prog_6_method_7_code 30 = .ok (.ireturn, 1) := by decide +kernel
theorem d_Mrk_firstOpen_31 : decode prog_6_method_7_code 31 = .ok (.iinc 2 (1), 3) := by decide +kernel
theorem d_Mrk_firstOpen_34 : decode prog_6_method_7_code 34 = .ok (.goto (-32), 3) := by decide +kernel
theorem d_Mrk_firstOpen_37 : decode prog_6_method_7_code 37 = .ok (.iconst (-1), 1) := by decide +kernel
theorem d_Mrk_firstOpen_38 : decode prog_6_method_7_code 38 = .ok (.ireturn, 1) := by decide +kernel
theorem d_Mrk_anyOpenBefore_0 : decode prog_6_method_8_code 0 = .ok (.iconst 0, 1) := by decide +kernel
theorem d_Mrk_anyOpenBefore_1 : decode prog_6_method_8_code 1 = .ok (.istore_n 2, 1) := by decide +kernel
theorem d_Mrk_anyOpenBefore_2 : decode prog_6_method_8_code 2 = .ok (.iload_n 2, 1) := by decide +kernel
theorem d_Mrk_anyOpenBefore_3 : decode prog_6_method_8_code 3 = .ok (.iload_n 1, 1) := by decide +kernel
theorem d_Mrk_anyOpenBefore_4 : decode prog_6_method_8_code 4 = .ok (.if_icmp .ge (20), 3) := by decide +kernel
theorem d_Mrk_anyOpenBefore_7 : decode prog_6_method_8_code 7 = .ok (.aload_n 0, 1) := by decide +kernel
theorem d_Mrk_anyOpenBefore_8 : decode prog_6_method_8_code 8 = .ok (.getfield 21, 3) := by decide +kernel
theorem d_Mrk_anyOpenBefore_11 : decode prog_6_method_8_code 11 = .ok (.iload_n 2, 1) := by decide +kernel
theorem d_Mrk_anyOpenBefore_12 : decode prog_6_method_8_code 12 = .ok (.baload, 1) := by decide +kernel
theorem d_Mrk_anyOpenBefore_13 : decode prog_6_method_8_code 13 = .ok (.ifCond .ne (5), 3) := by decide +kernel
theorem d_Mrk_anyOpenBefore_16 : decode prog_6_method_8_code 16 = .ok (.iconst 1, 1) := by decide +kernel
theorem d_Mrk_anyOpenBefore_17 : decode prog_6_method_8_code 17 = .ok (.ireturn, 1) := by decide +kernel
theorem d_Mrk_anyOpenBefore_18 : decode prog_6_method_8_code 18 = .ok (.iinc 2 (1), 3) := by decide +kernel
theorem d_Mrk_anyOpenBefore_21 : decode prog_6_method_8_code 21 = .ok (.goto (-19), 3) := by decide +kernel
theorem d_Mrk_anyOpenBefore_24 : decode prog_6_method_8_code 24 = .ok (.iconst 0, 1) := by decide +kernel
theorem d_Mrk_anyOpenBefore_25 : decode prog_6_method_8_code 25 = .ok (.ireturn, 1) := by decide +kernel
theorem d_Mrk_passUpTo_0 : decode prog_6_method_9_code 0 = .ok (.iconst 0, 1) := by decide +kernel
theorem d_Mrk_passUpTo_1 : decode prog_6_method_9_code 1 = .ok (.istore_n 2, 1) := by decide +kernel
theorem d_Mrk_passUpTo_2 : decode prog_6_method_9_code 2 = .ok (.iload_n 2, 1) := by decide +kernel
theorem d_Mrk_passUpTo_3 : decode prog_6_method_9_code 3 = .ok (.iload_n 1, 1) := by decide +kernel
theorem d_Mrk_passUpTo_4 : decode prog_6_method_9_code 4 = .ok (.if_icmp .gt (16), 3) := by decide +kernel
theorem d_Mrk_passUpTo_7 : decode prog_6_method_9_code 7 = .ok (.aload_n 0, 1) := by decide +kernel
theorem d_Mrk_passUpTo_8 : decode prog_6_method_9_code 8 = .ok (.getfield 21, 3) := by decide +kernel
theorem d_Mrk_passUpTo_11 : decode prog_6_method_9_code 11 = .ok (.iload_n 2, 1) := by decide +kernel
theorem d_Mrk_passUpTo_12 : decode prog_6_method_9_code 12 = .ok (.iconst 1, 1) := by decide +kernel
theorem d_Mrk_passUpTo_13 : decode prog_6_method_9_code 13 = .ok (.bastore, 1) := by decide +kernel
theorem d_Mrk_passUpTo_14 : decode prog_6_method_9_code 14 = .ok (.iinc 2 (1), 3) := by decide +kernel
theorem d_Mrk_passUpTo_17 : decode prog_6_method_9_code 17 = .ok (.goto (-15), 3) := by decide +kernel
theorem d_Mrk_passUpTo_20 : decode prog_6_method_9_code 20 = .ok (.return_, 1) := by decide +kernel
theorem d_Mrk_passBehind_0 : decode prog_6_method_10_code 0 = .ok (.iconst 0, 1) := by decide +kernel
theorem d_Mrk_passBehind_1 : decode prog_6_method_10_code 1 = .ok (.istore_n 2, 1) := by decide +kernel
theorem d_Mrk_passBehind_2 : decode prog_6_method_10_code 2 = .ok (.iconst 0, 1) := by decide +kernel
theorem d_Mrk_passBehind_3 : decode prog_6_method_10_code 3 = .ok (.istore_n 3, 1) := by decide +kernel
theorem d_Mrk_passBehind_4 : decode prog_6_method_10_code 4 = .ok (.iload_n 3, 1) := by decide +kernel
theorem d_Mrk_passBehind_5 : decode prog_6_method_10_code 5 = .ok (.aload_n 0, 1) := by decide +kernel
theorem d_Mrk_passBehind_6 : decode prog_6_method_10_code 6 = .ok (.getfield 25, 3) := by decide +kernel
theorem d_Mrk_passBehind_9 : decode prog_6_method_10_code 9 = .ok (.if_icmp .ge (36), 3) := by decide +kernel
theorem d_Mrk_passBehind_12 : decode prog_6_method_10_code 12 = .ok (.aload_n 0, 1) := by decide +kernel
theorem d_Mrk_passBehind_13 : decode prog_6_method_10_code 13 = .ok (.getfield 21, 3) := by decide +kernel
theorem d_Mrk_passBehind_16 : decode prog_6_method_10_code 16 = .ok (.iload_n 3, 1) := by decide +kernel
theorem d_Mrk_passBehind_17 : decode prog_6_method_10_code 17 = .ok (.baload, 1) := by decide +kernel
theorem d_Mrk_passBehind_18 : decode prog_6_method_10_code 18 = .ok (.ifCond .ne (21), 3) := by decide +kernel
theorem d_Mrk_passBehind_21 : decode prog_6_method_10_code 21 = .ok (.aload_n 0, 1) := by decide +kernel
theorem d_Mrk_passBehind_22 : decode prog_6_method_10_code 22 = .ok (.iload_n 3, 1) := by decide +kernel
theorem d_Mrk_passBehind_23 : decode prog_6_method_10_code 23 = .ok (.invokevirtual 36, 3) := by decide +kernel
theorem d_Mrk_passBehind_26 : decode prog_6_method_10_code 26 = .ok (.iload_n 1, 1) := by decide +kernel
theorem d_Mrk_passBehind_27 : decode prog_6_method_10_code 27 = .ok (.if_icmp .ge (12), 3) := by decide +kernel
theorem d_Mrk_passBehind_30 : decode prog_6_method_10_code 30 = .ok (.aload_n 0, 1) := by decide +kernel
theorem d_Mrk_passBehind_31 : decode prog_6_method_10_code 31 = .ok (.getfield 21, 3) := by decide +kernel
theorem d_Mrk_passBehind_34 : decode prog_6_method_10_code 34 = .ok (.iload_n 3, 1) := by decide +kernel
theorem d_Mrk_passBehind_35 : decode prog_6_method_10_code 35 = .ok (.iconst 1, 1) := by decide +kernel
theorem d_Mrk_passBehind_36 : decode prog_6_method_10_code 36 = .ok (.bastore, 1) := by decide +kernel
theorem d_Mrk_passBehind_37 : decode prog_6_method_10_code 37 = .ok (.iconst 1, 1) := by decide +kernel
theorem d_Mrk_passBehind_38 : decode prog_6_method_10_code 38 = .ok (.istore_n 2, 1) := by decide +kernel
theorem d_Mrk_passBehind_39 : decode prog_6_method_10_code 39 = .ok (.iinc 3 (1), 3) := by decide +kernel
theorem d_Mrk_passBehind_42 : decode prog_6_method_10_code 42 = .ok (.goto (-38), 3) := by decide +kernel
theorem d_Mrk_passBehind_45 : decode prog_6_method_10_code 45 = .ok (.iload_n 2, 1) := by decide +kernel
theorem d_Mrk_passBehind_46 : decode prog_6_method_10_code 46 = .ok (.ireturn, 1) := by decide +kernel
theorem d_Mrk_shown_0 : decode prog_6_method_11_code 0 = .ok (.iload_n 1, 1) := by decide +kernel
theorem d_Mrk_shown_1 : decode prog_6_method_11_code 1 = .ok (.ifCond .lt (11), 3) := by decide +kernel
theorem d_Mrk_shown_4 : decode prog_6_method_11_code 4 = .ok (.iload_n 1, 1) := by decide +kernel
theorem d_Mrk_shown_5 : decode prog_6_method_11_code 5 = .ok (.aload_n 0, 1) := by decide +kernel
theorem d_Mrk_shown_6 : decode prog_6_method_11_code 6 = .ok (.getfield 25, 3) := by decide +kernel
theorem d_Mrk_shown_9 : decode prog_6_method_11_code 9 = .ok (.if_icmp .lt (5), 3) := by decide +kernel
theorem d_Mrk_shown_12 : decode prog_6_method_11_code 12 = .ok (.iconst (-1), 1) := by decide +kernel
theorem d_Mrk_shown_13 : decode prog_6_method_11_code 13 = .ok (.ireturn, 1) := by decide +kernel
theorem d_Mrk_shown_14 : decode prog_6_method_11_code 14 = .ok (.sipush (1000), 3) := by decide +kernel
theorem d_Mrk_shown_17 : decode prog_6_method_11_code 17 = .ok (.aload_n 0, 1) := by decide +kernel
theorem d_Mrk_shown_18 : decode prog_6_method_11_code 18 = .ok (.getfield 9, 3) := by decide +kernel
theorem d_Mrk_shown_21 : decode prog_6_method_11_code 21 = .ok (.iload_n 1, 1) := by decide +kernel
theorem d_Mrk_shown_22 : decode prog_6_method_11_code 22 = .ok (.iaload, 1) := by decide +kernel
theorem d_Mrk_shown_23 : decode prog_6_method_11_code 23 = .ok (.imul, 1) := by decide +kernel
theorem d_Mrk_shown_24 : decode prog_6_method_11_code 24 = .ok (.iconst 4, 1) := by decide +kernel
theorem d_Mrk_shown_25 : decode prog_6_method_11_code 25 = .ok (.aload_n 0, 1) := by decide +kernel
theorem d_Mrk_shown_26 : decode prog_6_method_11_code 26 = .ok (.getfield 15, 3) := by decide +kernel
theorem d_Mrk_shown_29 : decode prog_6_method_11_code 29 = .ok (.iload_n 1, 1) := by decide +kernel
theorem d_Mrk_shown_30 : decode prog_6_method_11_code 30 = .ok (.iaload, 1) := by decide +kernel
theorem d_Mrk_shown_31 : decode prog_6_method_11_code 31 = .ok (.imul, 1) := by decide +kernel
theorem d_Mrk_shown_32 : decode prog_6_method_11_code 32 = .ok (.iadd, 1) := by decide +kernel
theorem d_Mrk_shown_33 : decode prog_6_method_11_code 33 = .ok (.aload_n 0, 1) := by decide +kernel
theorem d_Mrk_shown_34 : decode prog_6_method_11_code 34 = .ok (.getfield 21, 3) := by decide +kernel
theorem d_Mrk_shown_37 : decode prog_6_method_11_code 37 = .ok (.iload_n 1, 1) := by decide +kernel
theorem d_Mrk_shown_38 : decode prog_6_method_11_code 38 = .ok (.baload, 1) := by decide +kernel
theorem d_Mrk_shown_39 : decode prog_6_method_11_code 39 = .ok (.ifCond .eq (7), 3) := by decide +kernel
theorem d_Mrk_shown_42 : decode prog_6_method_11_code 42 = .ok (.iconst 1, 1) := by decide +kernel
theorem d_Mrk_shown_43 : decode prog_6_method_11_code 43 = .ok (.goto (4), 3) := by decide +kernel
theorem d_Mrk_shown_46 : decode prog_6_method_11_code 46 = .ok (.iconst 0, 1) := by decide +kernel
theorem d_Mrk_shown_47 : decode prog_6_method_11_code 47 = .ok (.iadd, 1) := by decide +kernel
theorem d_Mrk_shown_48 : decode prog_6_method_11_code 48 = .ok (.ireturn, 1) := by decide +kernel
theorem d_Msg_init_0 : decode prog_7_method_1_code 0 = .ok (.aload_n 0, 1) := by decide +kernel
theorem d_Msg_init_1 : decode prog_7_method_1_code 1 = .ok (.invokespecial 3, 3) := by decide +kernel
theorem d_Msg_init_4 : decode prog_7_method_1_code 4 = .ok (.aload_n 0, 1) := by decide +kernel
theorem d_Msg_init_5 : decode prog_7_method_1_code 5 = .ok (.getstatic 9, 3) := by decide +kernel
theorem d_Msg_init_8 : decode prog_7_method_1_code 8 = .ok (.arraylength, 1) := by decide +kernel
theorem d_Msg_init_9 : decode prog_7_method_1_code 9 = .ok (.newarray .boolean, 2) := by decide +kernel
theorem d_Msg_init_11 : decode prog_7_method_1_code 11 = .ok (.putfield 15, 3) := by decide +kernel
theorem d_Msg_init_14 : decode prog_7_method_1_code 14 = .ok (.aload_n 0, 1) := by decide +kernel
theorem d_Msg_init_15 : decode prog_7_method_1_code 15 = .ok (.new 19, 3) := by decide +kernel
theorem d_Msg_init_18 : decode prog_7_method_1_code 18 = .ok (.dup, 1) := by decide +kernel
theorem d_Msg_init_19 : decode prog_7_method_1_code 19 = .ok (.invokespecial 21, 3) := by decide +kernel
theorem d_Msg_init_22 : decode prog_7_method_1_code 22 = .ok (.putfield 22, 3) := by decide +kernel
theorem d_Msg_init_25 : decode prog_7_method_1_code 25 = .ok (.aload_n 0, 1) := by decide +kernel
theorem d_Msg_init_26 : decode prog_7_method_1_code 26 = .ok (.new 26, 3) := by decide +kernel
theorem d_Msg_init_29 : decode prog_7_method_1_code 29 = .ok (.dup, 1) := by decide +kernel
theorem d_Msg_init_30 : decode prog_7_method_1_code 30 = .ok (.invokespecial 28, 3) := by decide +kernel
theorem d_Msg_init_33 : decode prog_7_method_1_code 33 = .ok (.putfield 29, 3) := by decide +kernel
theorem d_Msg_init_36 : decode prog_7_method_1_code 36 = .ok (.aload_n 0, 1) := by decide +kernel
theorem d_Msg_init_37 : decode prog_7_method_1_code 37 = .ok (.new 26, 3) := by decide +kernel
theorem d_Msg_init_40 : decode prog_7_method_1_code 40 = .ok (.dup, 1) := by decide +kernel
theorem d_Msg_init_41 : decode prog_7_method_1_code 41 = .ok (.invokespecial 28, 3) := by decide +kernel
theorem d_Msg_init_44 : decode prog_7_method_1_code 44 = .ok (.putfield 33, 3) := by decide +kernel
theorem d_Msg_init_47 : decode prog_7_method_1_code 47 = .ok (.return_, 1) := by decide +kernel
theorem d_Msg_endedNumber_0 : decode prog_7_method_2_code 0 = .ok (.aload_n 0, 1) := by decide +kernel
theorem d_Msg_endedNumber_1 : decode prog_7_method_2_code 1 = .ok (.getfield 15, 3) := by decide +kernel
theorem d_Msg_endedNumber_4 : decode prog_7_method_2_code 4 = .ok (.iconst 5, 1) := by decide +kernel
theorem d_Msg_endedNumber_5 : decode prog_7_method_2_code 5 = .ok (.baload, 1) := by decide +kernel
theorem d_Msg_endedNumber_6 : decode prog_7_method_2_code 6 = .ok (.ifCond .eq (10), 3) := by decide +kernel
theorem d_Msg_endedNumber_9 : decode prog_7_method_2_code 9 = .ok (.aload_n 0, 1) := by decide +kernel
theorem d_Msg_endedNumber_10 : decode prog_7_method_2_code 10 = .ok (.getfield 36, 3) := by decide +kernel
theorem d_Msg_endedNumber_13 : decode prog_7_method_2_code 13 = .ok (.goto (4), 3) := by decide +kernel
theorem d_Msg_endedNumber_16 : decode prog_7_method_2_code 16 = .ok (.iconst (-1), 1) := by decide +kernel
theorem d_Msg_endedNumber_17 : decode prog_7_method_2_code 17 = .ok (.ireturn, 1) := by decide +kernel
theorem d_Msg_readFrom_0 : decode prog_7_method_3_code 0 = .ok (.aload_n 1, 1) := by decide +kernel
theorem d_Msg_readFrom_1 : decode prog_7_method_3_code 1 = .ok (.invokevirtual 40, 3) := by decide +kernel
theorem d_Msg_readFrom_4 : decode prog_7_method_3_code 4 = .ok (.iconst 0, 1) := by decide +kernel
theorem d_Msg_readFrom_5 : decode prog_7_method_3_code 5 = .ok (.istore_n 3, 1) := by decide +kernel
theorem d_Msg_readFrom_6 : decode prog_7_method_3_code 6 = .ok (.iload_n 3, 1) := by decide +kernel
theorem d_Msg_readFrom_7 : decode prog_7_method_3_code 7 = .ok (.aload_n 0, 1) := by decide +kernel
theorem d_Msg_readFrom_8 : decode prog_7_method_3_code 8 = .ok (.getfield 15, 3) := by decide +kernel
theorem d_Msg_readFrom_11 : decode prog_7_method_3_code 11 = .ok (.arraylength, 1) := by decide +kernel
theorem d_Msg_readFrom_12 : decode prog_7_method_3_code 12 = .ok (.if_icmp .ge (16), 3) := by decide +kernel
theorem d_Msg_readFrom_15 : decode prog_7_method_3_code 15 = .ok (.aload_n 0, 1) := by decide +kernel
theorem d_Msg_readFrom_16 : decode prog_7_method_3_code 16 = .ok (.getfield 15, 3) := by decide +kernel
theorem d_Msg_readFrom_19 : decode prog_7_method_3_code 19 = .ok (.iload_n 3, 1) := by decide +kernel
theorem d_Msg_readFrom_20 : decode prog_7_method_3_code 20 = .ok (.iconst 0, 1) := by decide +kernel
theorem d_Msg_readFrom_21 : decode prog_7_method_3_code 21 = .ok (.bastore, 1) := by decide +kernel
theorem d_Msg_readFrom_22 : decode prog_7_method_3_code 22 = .ok (.iinc 3 (1), 3) := by decide +kernel
theorem d_Msg_readFrom_25 : decode prog_7_method_3_code 25 = .ok (.goto (-19), 3) := by decide +kernel
theorem d_Msg_readFrom_28 : decode prog_7_method_3_code 28 = .ok (.aload_n 0, 1) := by decide +kernel
theorem d_Msg_readFrom_29 : decode prog_7_method_3_code 29 = .ok (.aload_n 1, 1) := by decide +kernel
theorem d_Msg_readFrom_30 : decode prog_7_method_3_code 30 = .ok (.bipush (8), 2) := by decide +kernel
theorem d_Msg_readFrom_32 : decode prog_7_method_3_code 32 = .ok (.invokevirtual 45, 3) := by decide +kernel
theorem d_Msg_readFrom_35 : decode prog_7_method_3_code 35 = .ok (.putfield 49, 3) := by decide +kernel
theorem d_Msg_readFrom_38 : decode prog_7_method_3_code 38 = .ok (.aload_n 1, 1) := by decide +kernel
theorem d_Msg_readFrom_39 : decode prog_7_method_3_code 39 = .ok (.aload_n 0, 1) := by decide +kernel
theorem d_Msg_readFrom_40 : decode prog_7_method_3_code 40 = .ok (.getfield 49, 3) := by decide +kernel
theorem d_Msg_readFrom_43 : decode prog_7_method_3_code 43 = .ok (.iconst 3, 1) := by decide +kernel
theorem d_Msg_readFrom_44 : decode prog_7_method_3_code 44 = .ok (.if_icmp .eq (30), 3) := by decide +kernel
theorem d_Msg_readFrom_47 : decode prog_7_method_3_code 47 = .ok (.aload_n 0, 1) := by decide +kernel
theorem d_Msg_readFrom_48 : decode prog_7_method_3_code 48 = .ok (.getfield 49, 3) := by decide +kernel
theorem d_Msg_readFrom_51 : decode prog_7_method_3_code 51 = .ok (.bipush (9), 2) := by decide +kernel
theorem d_Msg_readFrom_53 : decode prog_7_method_3_code 53 = .ok (.if_icmp .eq (21), 3) := by decide +kernel
theorem d_Msg_readFrom_56 : decode prog_7_method_3_code 56 = .ok (.aload_n 0, 1) := by decide +kernel
theorem d_Msg_readFrom_57 : decode prog_7_method_3_code 57 = .ok (.getfield 49, 3) := by decide +kernel
theorem d_Msg_readFrom_60 : decode prog_7_method_3_code 60 = .ok (.bipush (16), 2) := by decide +kernel
theorem d_Msg_readFrom_62 : decode prog_7_method_3_code 62 = .ok (.if_icmp .eq (12), 3) := by decide +kernel
theorem d_Msg_readFrom_65 : decode prog_7_method_3_code 65 = .ok (.aload_n 0, 1) := by decide +kernel
theorem d_Msg_readFrom_66 : decode prog_7_method_3_code 66 = .ok (.getfield 49, 3) := by decide +kernel
theorem d_Msg_readFrom_69 : decode prog_7_method_3_code 69 = .ok (.bipush (24), 2) := by decide +kernel
theorem d_Msg_readFrom_71 : decode prog_7_method_3_code 71 = .ok (.if_icmp .ne (7), 3) := by decide +kernel
theorem d_Msg_readFrom_74 : decode prog_7_method_3_code 74 = .ok (.iconst 1, 1) := by decide +kernel
theorem d_Msg_readFrom_75 : decode prog_7_method_3_code 75 = .ok (.goto (4), 3) := by decide +kernel
theorem d_Msg_readFrom_78 : decode prog_7_method_3_code 78 = .ok (.iconst 0, 1) := by decide +kernel
theorem d_Msg_readFrom_79 : decode prog_7_method_3_code 79 = .ok (.iconst 1, 1) := by decide +kernel
theorem d_Msg_readFrom_80 : decode prog_7_method_3_code 80 = .ok (.invokevirtual 52, 3) := by decide +kernel
theorem d_Msg_readFrom_83 : decode prog_7_method_3_code 83 = .ok (.aload_n 1, 1) := by decide +kernel
theorem d_Msg_readFrom_84 : decode prog_7_method_3_code 84 = .ok (.aload_n 1, 1) := by decide +kernel
theorem d_Msg_readFrom_85 : decode prog_7_method_3_code 85 = .ok (.bipush (10), 2) := by decide +kernel
theorem d_Msg_readFrom_87 : decode prog_7_method_3_code 87 = .ok (.invokevirtual 45, 3) := by decide +kernel
theorem d_Msg_readFrom_90 : decode prog_7_method_3_code 90 = .ok (.aload_n 1, 1) := by decide +kernel
theorem d_Msg_readFrom_91 : decode prog_7_method_3_code 91 = .ok (.getfield 56, 3) := by decide +kernel
theorem d_Msg_readFrom_94 : decode prog_7_method_3_code 94 = .ok (.if_icmp .ne (7), 3) := by decide +kernel
theorem d_Msg_readFrom_97 : decode prog_7_method_3_code 97 = .ok (.iconst 1, 1) := by decide +kernel
theorem d_Msg_readFrom_98 : decode prog_7_method_3_code 98 = .ok (.goto (4), 3) := by decide +kernel
theorem d_Msg_readFrom_101 : decode prog_7_method_3_code 101 = .ok (.iconst 0, 1) := by decide +kernel
theorem d_Msg_readFrom_102 : decode prog_7_method_3_code 102 = .ok (.iconst 2, 1) := by decide +kernel
theorem d_Msg_readFrom_103 : decode prog_7_method_3_code 103 = .ok (.invokevirtual 52, 3) := by decide +kernel
theorem d_Msg_readFrom_106 : decode prog_7_method_3_code 106 = .ok (.aload_n 0, 1) := by decide +kernel
theorem d_Msg_readFrom_107 : decode prog_7_method_3_code 107 = .ok (.aload_n 1, 1) := by decide +kernel
theorem d_Msg_readFrom_108 : decode prog_7_method_3_code 108 = .ok (.bipush (16), 2) := by decide +kernel
theorem d_Msg_readFrom_110 : decode prog_7_method_3_code 110 = .ok (.invokevirtual 45, 3) := by decide +kernel
theorem d_Msg_readFrom_113 : decode prog_7_method_3_code 113 = .ok (.putfield 59, 3) := by decide +kernel
theorem d_Msg_readFrom_116 : decode prog_7_method_3_code 116 = .ok (.aload_n 1, 1) := by decide +kernel
theorem d_Msg_readFrom_117 : decode prog_7_method_3_code 117 = .ok (.aload_n 0, 1) := by decide +kernel
theorem d_Msg_readFrom_118 : decode prog_7_method_3_code 118 = .ok (.getfield 59, 3) := by decide +kernel
theorem d_Msg_readFrom_121 : decode prog_7_method_3_code 121 = .ok (.iload_n 2, 1) := by decide +kernel
theorem d_Msg_readFrom_122 : decode prog_7_method_3_code 122 = .ok (.if_icmp .le (7), 3) := by decide +kernel
theorem d_Msg_readFrom_125 : decode prog_7_method_3_code 125 = .ok (.iconst 1, 1) := by decide +kernel
theorem d_Msg_readFrom_126 : decode prog_7_method_3_code 126 = .ok (.goto (4), 3) := by decide +kernel
theorem d_Msg_readFrom_129 : decode prog_7_method_3_code 129 = .ok (.iconst 0, 1) := by decide +kernel
theorem d_Msg_readFrom_130 : decode prog_7_method_3_code 130 = .ok (.iconst 3, 1) := by decide +kernel
theorem d_Msg_readFrom_131 : decode prog_7_method_3_code 131 = .ok (.invokevirtual 52, 3) := by decide +kernel
theorem d_Msg_readFrom_134 : decode prog_7_method_3_code 134 = .ok (.aload_n 0, 1) := by decide +kernel
theorem d_Msg_readFrom_135 : decode prog_7_method_3_code 135 = .ok (.getfield 49, 3) := by decide +kernel
theorem d_Msg_readFrom_138 : decode prog_7_method_3_code 138 = .ok (.bipush (9), 2) := by decide +kernel
theorem d_Msg_readFrom_140 : decode prog_7_method_3_code 140 = .ok (.if_icmp .ne (11), 3) := by decide +kernel
theorem d_Msg_readFrom_143 : decode prog_7_method_3_code 143 = .ok (.aload_n 0, 1) := by decide +kernel
theorem d_Msg_readFrom_144 : decode prog_7_method_3_code 144 = .ok (.aload_n 1, 1) := by decide +kernel
theorem d_Msg_readFrom_145 : decode prog_7_method_3_code 145 = .ok (.invokestatic 62, 3) := by decide +kernel
theorem d_Msg_readFrom_148 : decode prog_7_method_3_code 148 = .ok (.putfield 66, 3) := by decide +kernel
theorem d_Msg_readFrom_151 : decode prog_7_method_3_code 151 = .ok (.aload_n 0, 1) := by decide +kernel
theorem d_Msg_readFrom_152 : decode prog_7_method_3_code 152 = .ok (.getfield 49, 3) := by decide +kernel
theorem d_Msg_readFrom_155 : decode prog_7_method_3_code 155 = .ok (.iconst 3, 1) := by decide +kernel
theorem d_Msg_readFrom_156 : decode prog_7_method_3_code 156 = .ok (.if_icmp .eq (12), 3) := by decide +kernel
theorem d_Msg_readFrom_159 : decode prog_7_method_3_code 159 = .ok (.aload_n 0, 1) := by decide +kernel
theorem d_Msg_readFrom_160 : decode prog_7_method_3_code 160 = .ok (.getfield 49, 3) := by decide +kernel
theorem d_Msg_readFrom_163 : decode prog_7_method_3_code 163 = .ok (.bipush (24), 2) := by decide +kernel
theorem d_Msg_readFrom_165 : decode prog_7_method_3_code 165 = .ok (.if_icmp .ne (7), 3) := by decide +kernel
theorem d_Msg_readFrom_168 : decode prog_7_method_3_code 168 = .ok (.iconst 1, 1) := by decide +kernel
theorem d_Msg_readFrom_169 : decode prog_7_method_3_code 169 = .ok (.goto (4), 3) := by decide +kernel
theorem d_Msg_readFrom_172 : decode prog_7_method_3_code 172 = .ok (.iconst 0, 1) := by decide +kernel
theorem d_Msg_readFrom_173 : decode prog_7_method_3_code 173 = .ok (.istore_n 3, 1) := by decide +kernel
theorem d_Msg_readFrom_174 : decode prog_7_method_3_code 174 = .ok (.iconst 0, 1) := by decide +kernel
theorem d_Msg_readFrom_175 : decode prog_7_method_3_code 175 = .ok (.istore 4, 2) := by decide +kernel
theorem d_Msg_readFrom_177 : decode prog_7_method_3_code 177 = .ok (.iload 4, 2) := by decide +kernel
theorem d_Msg_readFrom_179 : decode prog_7_method_3_code 179 = .ok (.sipush (600), 3) := by decide +kernel
theorem d_Msg_readFrom_182 : decode prog_7_method_3_code 182 = .ok (.if_icmp .ge (32), 3) := by decide +kernel
theorem d_Msg_readFrom_185 : decode prog_7_method_3_code 185 = .ok (.iload_n 3, 1) := by decide +kernel
theorem d_Msg_readFrom_186 : decode prog_7_method_3_code 186 = .ok (.ifCond .eq (28), 3) := by decide +kernel
theorem d_Msg_readFrom_189 : decode prog_7_method_3_code 189 = .ok (.aload_n 1, 1) := by decide +kernel
theorem d_Msg_readFrom_190 : decode prog_7_method_3_code 190 = .ok (.invokevirtual 69, 3) := by decide +kernel
theorem d_Msg_readFrom_193 : decode prog_7_method_3_code 193 = .ok (.ifCond .eq (21), 3) := by decide +kernel
theorem d_Msg_readFrom_196 : decode prog_7_method_3_code 196 = .ok (.aload_n 1, 1) := by decide +kernel
theorem d_Msg_readFrom_197 : decode prog_7_method_3_code 197 = .ok (.invokevirtual 73, 3) := by decide +kernel
theorem d_Msg_readFrom_200 : decode prog_7_method_3_code 200 = .ok (.ifCond .le (14), 3) := by decide +kernel
theorem d_Msg_readFrom_203 : decode prog_7_method_3_code 203 = .ok (.aload_n 0, 1) := by decide +kernel
theorem d_Msg_readFrom_204 : decode prog_7_method_3_code 204 = .ok (.aload_n 1, 1) := by decide +kernel
theorem d_Msg_readFrom_205 : decode prog_7_method_3_code 205 = .ok (.invokevirtual 77, 3) := by decide +kernel
theorem d_Msg_readFrom_208 : decode prog_7_method_3_code 208 = .ok (.iinc 4 (1), 3) := by decide +kernel
theorem d_Msg_readFrom_211 : decode prog_7_method_3_code 211 = .ok (.goto (-34), 3) := by decide +kernel
theorem d_Msg_readFrom_214 : decode prog_7_method_3_code 214 = .ok (.aload_n 1, 1) := by decide +kernel
theorem d_Msg_readFrom_215 : decode prog_7_method_3_code 215 = .ok (.aload_n 1, 1) := by decide +kernel
theorem d_Msg_readFrom_216 : decode prog_7_method_3_code 216 = .ok (.invokevirtual 73, 3) := by decide +kernel
theorem d_Msg_readFrom_219 : decode prog_7_method_3_code 219 = .ok (.ifCond .ne (7), 3) := by decide +kernel
theorem d_Msg_readFrom_222 : decode prog_7_method_3_code 222 = .ok (.iconst 1, 1) := by decide +kernel
theorem d_Msg_readFrom_223 : decode prog_7_method_3_code 223 = .ok (.goto (4), 3) := by decide +kernel
theorem d_Msg_readFrom_226 : decode prog_7_method_3_code 226 = .ok (.iconst 0, 1) := by decide +kernel
theorem d_Msg_readFrom_227 : decode prog_7_method_3_code 227 = .ok (.iconst 2, 1) := by decide +kernel
theorem d_Msg_readFrom_228 : decode prog_7_method_3_code 228 = .ok (.invokevirtual 52, 3) := by decide +kernel
theorem d_Msg_readFrom_231 : decode prog_7_method_3_code 231 = .ok (.aload_n 1, 1) := by decide +kernel
theorem d_Msg_readFrom_232 : decode prog_7_method_3_code 232 = .ok (.getfield 81, 3) := by decide +kernel
theorem d_Msg_readFrom_235 : decode prog_7_method_3_code 235 = .ok (.ireturn, 1) := by decide +kernel
theorem d_Msg_readPacket_0 : decode prog_7_method_4_code 0 = .ok (.aload_n 1, 1) := by decide +kernel
theorem d_Msg_readPacket_1 : decode prog_7_method_4_code 1 = .ok (.invokevirtual 73, 3) := by decide +kernel
theorem d_Msg_readPacket_4 : decode prog_7_method_4_code 4 = .ok (.istore_n 2, 1) := by decide +kernel
theorem d_Msg_readPacket_5 : decode prog_7_method_4_code 5 = .ok (.aload_n 1, 1) := by decide +kernel
theorem d_Msg_readPacket_6 : decode prog_7_method_4_code 6 = .ok (.bipush (8), 2) := by decide +kernel
theorem d_Msg_readPacket_8 : decode prog_7_method_4_code 8 = .ok (.invokevirtual 45, 3) := by decide +kernel
theorem d_Msg_readPacket_11 : decode prog_7_method_4_code 11 = .ok (.invokestatic 84, 3) := by decide +kernel
theorem d_Msg_readPacket_14 : decode prog_7_method_4_code 14 = .ok (.istore_n 3, 1) := by decide +kernel
theorem d_Msg_readPacket_15 : decode prog_7_method_4_code 15 = .ok (.aload_n 1, 1) := by decide +kernel
theorem d_Msg_readPacket_16 : decode prog_7_method_4_code 16 = .ok (.iload_n 3, 1) := by decide +kernel
theorem d_Msg_readPacket_17 : decode prog_7_method_4_code 17 = .ok (.ifCond .lt (7), 3) := by decide +kernel
theorem d_Msg_readPacket_20 : decode prog_7_method_4_code 20 = .ok (.iconst 1, 1) := by decide +kernel
theorem d_Msg_readPacket_21 : decode prog_7_method_4_code 21 = .ok (.goto (4), 3) := by decide +kernel
theorem d_Msg_readPacket_24 : decode prog_7_method_4_code 24 = .ok (.iconst 0, 1) := by decide +kernel
theorem d_Msg_readPacket_25 : decode prog_7_method_4_code 25 = .ok (.iconst 4, 1) := by decide +kernel
theorem d_Msg_readPacket_26 : decode prog_7_method_4_code 26 = .ok (.invokevirtual 52, 3) := by decide +kernel
theorem d_Msg_readPacket_29 : decode prog_7_method_4_code 29 = .ok (.aload_n 1, 1) := by decide +kernel
theorem d_Msg_readPacket_30 : decode prog_7_method_4_code 30 = .ok (.iload_n 3, 1) := by decide +kernel
theorem d_Msg_readPacket_31 : decode prog_7_method_4_code 31 = .ok (.ifCond .lt (12), 3) := by decide +kernel
theorem d_Msg_readPacket_34 : decode prog_7_method_4_code 34 = .ok (.aload_n 0, 1) := by decide +kernel
theorem d_Msg_readPacket_35 : decode prog_7_method_4_code 35 = .ok (.getfield 15, 3) := by decide +kernel
theorem d_Msg_readPacket_38 : decode prog_7_method_4_code 38 = .ok (.iload_n 3, 1) := by decide +kernel
theorem d_Msg_readPacket_39 : decode prog_7_method_4_code 39 = .ok (.baload, 1) := by decide +kernel
theorem d_Msg_readPacket_40 : decode prog_7_method_4_code 40 = .ok (.ifCond .ne (7), 3) := by decide +kernel
theorem d_Msg_readPacket_43 : decode prog_7_method_4_code 43 = .ok (.iconst 1, 1) := by decide +kernel
theorem d_Msg_readPacket_44 : decode prog_7_method_4_code 44 = .ok (.goto (4), 3) := by decide +kernel
theorem d_Msg_readPacket_47 : decode prog_7_method_4_code 47 = .ok (.iconst 0, 1) := by decide +kernel
theorem d_Msg_readPacket_48 : decode prog_7_method_4_code 48 = .ok (.bipush (7), 2) := by decide +kernel
theorem d_Msg_readPacket_50 : decode prog_7_method_4_code 50 = .ok (.invokevirtual 52, 3) := by decide +kernel
theorem d_Msg_readPacket_53 : decode prog_7_method_4_code 53 = .ok (.aload_n 1, 1) := by decide +kernel
theorem d_Msg_readPacket_54 : decode prog_7_method_4_code 54 = .ok (.bipush (13), 2) := by decide +kernel
theorem d_Msg_readPacket_56 : decode prog_7_method_4_code 56 = .ok (.invokevirtual 45, 3) := by decide +kernel
theorem d_Msg_readPacket_59 : decode prog_7_method_4_code 59 = .ok (.istore 4, 2) := by decide +kernel
theorem d_Msg_readPacket_61 : decode prog_7_method_4_code 61 = .ok (.aload_n 1, 1) := by decide +kernel
theorem d_Msg_readPacket_62 : decode prog_7_method_4_code 62 = .ok (.iload 4, 2) := by decide +kernel
theorem d_Msg_readPacket_64 : decode prog_7_method_4_code 64 = .ok (.bipush (21), 2) := by decide +kernel
theorem d_Msg_readPacket_66 : decode prog_7_method_4_code 66 = .ok (.if_icmp .lt (13), 3) := by decide +kernel
theorem d_Msg_readPacket_69 : decode prog_7_method_4_code 69 = .ok (.iload 4, 2) := by decide +kernel
theorem d_Msg_readPacket_71 : decode prog_7_method_4_code 71 = .ok (.iload_n 2, 1) := by decide +kernel
theorem d_Msg_readPacket_72 : decode prog_7_method_4_code 72 = .ok (.if_icmp .gt (7), 3) := by decide +kernel
theorem d_Msg_readPacket_75 : decode prog_7_method_4_code 75 = .ok (.iconst 1, 1) := by decide +kernel
theorem d_Msg_readPacket_76 : decode prog_7_method_4_code 76 = .ok (.goto (4), 3) := by decide +kernel
theorem d_Msg_readPacket_79 : decode prog_7_method_4_code 79 = .ok (.iconst 0, 1) := by decide +kernel
theorem d_Msg_readPacket_80 : decode prog_7_method_4_code 80 = .ok (.iconst 2, 1) := by decide +kernel
theorem d_Msg_readPacket_81 : decode prog_7_method_4_code 81 = .ok (.invokevirtual 52, 3) := by decide +kernel
theorem d_Msg_readPacket_84 : decode prog_7_method_4_code 84 = .ok (.iload_n 3, 1) := by decide +kernel
theorem d_Msg_readPacket_85 : decode prog_7_method_4_code 85 = .ok (.ifCond .lt (44), 3) := by decide +kernel
theorem d_Msg_readPacket_88 : decode prog_7_method_4_code 88 = .ok (.aload_n 1, 1) := by decide +kernel
theorem d_Msg_readPacket_89 : decode prog_7_method_4_code 89 = .ok (.invokevirtual 69, 3) := by decide +kernel
theorem d_Msg_readPacket_92 : decode prog_7_method_4_code 92 = .ok (.ifCond .eq (37), 3) := by decide +kernel
theorem d_Msg_readPacket_95 : decode prog_7_method_4_code 95 = .ok (.aload_n 0, 1) := by decide +kernel
theorem d_Msg_readPacket_96 : decode prog_7_method_4_code 96 = .ok (.getfield 15, 3) := by decide +kernel
theorem d_Msg_readPacket_99 : decode prog_7_method_4_code 99 = .ok (.iload_n 3, 1) := by decide +kernel
theorem d_Msg_readPacket_100 : decode prog_7_method_4_code 100 = .ok (.iconst 1, 1) := by decide +kernel
theorem d_Msg_readPacket_101 : decode prog_7_method_4_code 101 = .ok (.bastore, 1) := by decide +kernel
theorem d_Msg_readPacket_102 : decode prog_7_method_4_code 102 = .ok (.aload_n 0, 1) := by decide +kernel
theorem d_Msg_readPacket_103 : decode prog_7_method_4_code 103 = .ok (.aload_n 1, 1) := by decide +kernel
theorem d_Msg_readPacket_104 : decode prog_7_method_4_code 104 = .ok (.iload_n 3, 1) := by decide +kernel
theorem d_Msg_readPacket_105 : decode prog_7_method_4_code 105 = .ok (.invokevirtual 87, 3) := by decide +kernel
theorem d_Msg_readPacket_108 : decode prog_7_method_4_code 108 = .ok (.aload_n 1, 1) := by decide +kernel
theorem d_Msg_readPacket_109 : decode prog_7_method_4_code 109 = .ok (.iload_n 2, 1) := by decide +kernel
theorem d_Msg_readPacket_110 : decode prog_7_method_4_code 110 = .ok (.aload_n 1, 1) := by decide +kernel
theorem d_Msg_readPacket_111 : decode prog_7_method_4_code 111 = .ok (.invokevirtual 73, 3) := by decide +kernel
theorem d_Msg_readPacket_114 : decode prog_7_method_4_code 114 = .ok (.isub, 1) := by decide +kernel
theorem d_Msg_readPacket_115 : decode prog_7_method_4_code 115 = .ok (.iload 4, 2) := by decide +kernel
theorem d_Msg_readPacket_117 : decode prog_7_method_4_code 117 = .ok (.if_icmp .ne (7), 3) := by decide +kernel
theorem d_Msg_readPacket_120 : decode prog_7_method_4_code 120 = .ok (.iconst 1, 1) := by decide +kernel
theorem d_Msg_readPacket_121 : decode prog_7_method_4_code 121 = .ok (.goto (4), 3) := by decide +kernel
theorem d_Msg_readPacket_124 : decode prog_7_method_4_code 124 = .ok (.iconst 0, 1) := by decide +kernel
theorem d_Msg_readPacket_125 : decode prog_7_method_4_code 125 = .ok (.iconst 5, 1) := by decide +kernel
theorem d_Msg_readPacket_126 : decode prog_7_method_4_code 126 = .ok (.invokevirtual 52, 3) := by decide +kernel
theorem d_Msg_readPacket_129 : decode prog_7_method_4_code 129 = .ok (.return_, 1) := by decide +kernel
theorem d_Msg_slotOf_0 : decode prog_7_method_5_code 0 = .ok (.iconst 0, 1) := by decide +kernel
theorem d_Msg_slotOf_1 : decode prog_7_method_5_code 1 = .ok (.istore_n 1, 1) := by decide +kernel
theorem d_Msg_slotOf_2 : decode prog_7_method_5_code 2 = .ok (.iload_n 1, 1) := by decide +kernel
theorem d_Msg_slotOf_3 : decode prog_7_method_5_code 3 = .ok (.getstatic 9, 3) := by decide +kernel
theorem d_Msg_slotOf_6 : decode prog_7_method_5_code 6 = .ok (.arraylength, 1) := by decide +kernel
theorem d_Msg_slotOf_7 : decode prog_7_method_5_code 7 = .ok (.if_icmp .ge (20), 3) := by decide +kernel
theorem d_Msg_slotOf_10 : decode prog_7_method_5_code 10 = .ok (.getstatic 9, 3) := by decide +kernel
theorem d_Msg_slotOf_13 : decode prog_7_method_5_code 13 = .ok (.iload_n 1, 1) := by decide +kernel
theorem d_Msg_slotOf_14 : decode prog_7_method_5_code 14 = .ok (.iaload, 1) := by decide +kernel
theorem d_Msg_slotOf_15 : decode prog_7_method_5_code 15 = .ok (.iload_n 0, 1) := by decide +kernel
theorem d_Msg_slotOf_16 : decode prog_7_method_5_code 16 = .ok (.if_icmp .ne (5), 3) := by decide +kernel
theorem d_Msg_slotOf_19 : decode prog_7_method_5_code 19 = .ok (.iload_n 1, 1) := by decide +kernel
theorem d_Msg_slotOf_20 : decode prog_7_method_5_code 20 = .ok (.ireturn, 1) := by decide +kernel
theorem d_Msg_slotOf_21 : decode prog_7_method_5_code 21 = .ok (.iinc 1 (1), 3) := by decide +kernel
theorem d_Msg_slotOf_24 : decode prog_7_method_5_code 24 = .ok (.goto (-22), 3) := by decide +kernel
theorem d_Msg_slotOf_27 : decode prog_7_method_5_code 27 = .ok (.iconst (-1), 1) := by decide +kernel
theorem d_Msg_slotOf_28 : decode prog_7_method_5_code 28 = .ok (.ireturn, 1) := by decide +kernel
theorem d_Msg_readNumbers_0 : decode prog_7_method_6_code 0 = .ok (.iload_n 2, 1) := by decide +kernel
theorem d_Msg_readNumbers_1 : decode prog_7_method_6_code 1 = .ok (.tableswitch (85) (0) (4) #[35, 43, 51, 64, 77], 35) := by decide +kernel
theorem d_Msg_readNumbers_36 : decode prog_7_method_6_code 36 = .ok (.aload_n 0, 1) := by decide +kernel
theorem d_Msg_readNumbers_37 : decode prog_7_method_6_code 37 = .ok (.aload_n 1, 1) := by decide +kernel
theorem d_Msg_readNumbers_38 : decode prog_7_method_6_code 38 = .ok (.invokevirtual 91, 3) := by decide +kernel
theorem d_Msg_readNumbers_41 : decode prog_7_method_6_code 41 = .ok (.goto (55), 3) := by decide +kernel
theorem d_Msg_readNumbers_44 : decode prog_7_method_6_code 44 = .ok (.aload_n 0, 1) := by decide +kernel
theorem d_Msg_readNumbers_45 : decode prog_7_method_6_code 45 = .ok (.aload_n 1, 1) := by decide +kernel
theorem d_Msg_readNumbers_46 : decode prog_7_method_6_code 46 = .ok (.invokevirtual 94, 3) := by decide +kernel
theorem d_Msg_readNumbers_49 : decode prog_7_method_6_code 49 = .ok (.goto (47), 3) := by decide +kernel
theorem d_Msg_readNumbers_52 : decode prog_7_method_6_code 52 = .ok (.aload_n 0, 1) := by decide +kernel
theorem d_Msg_readNumbers_53 : decode prog_7_method_6_code 53 = .ok (.aload_n 1, 1) := by decide +kernel
theorem d_Msg_readNumbers_54 : decode prog_7_method_6_code 54 = .ok (.aload_n 0, 1) := by decide +kernel
theorem d_Msg_readNumbers_55 : decode prog_7_method_6_code 55 = .ok (.getfield 29, 3) := by decide +kernel
theorem d_Msg_readNumbers_58 : decode prog_7_method_6_code 58 = .ok (.iconst 0, 1) := by decide +kernel
theorem d_Msg_readNumbers_59 : decode prog_7_method_6_code 59 = .ok (.invokevirtual 97, 3) := by decide +kernel
theorem d_Msg_readNumbers_62 : decode prog_7_method_6_code 62 = .ok (.goto (34), 3) := by decide +kernel
theorem d_Msg_readNumbers_65 : decode prog_7_method_6_code 65 = .ok (.aload_n 0, 1) := by decide +kernel
theorem d_Msg_readNumbers_66 : decode prog_7_method_6_code 66 = .ok (.aload_n 1, 1) := by decide +kernel
theorem d_Msg_readNumbers_67 : decode prog_7_method_6_code 67 = .ok (.aload_n 0, 1) := by decide +kernel
theorem d_Msg_readNumbers_68 : decode prog_7_method_6_code 68 = .ok (.getfield 33, 3) := by decide +kernel
theorem d_Msg_readNumbers_71 : decode prog_7_method_6_code 71 = .ok (.iconst 1, 1) := by decide +kernel
theorem d_Msg_readNumbers_72 : decode prog_7_method_6_code 72 = .ok (.invokevirtual 97, 3) := by decide +kernel
theorem d_Msg_readNumbers_75 : decode prog_7_method_6_code 75 = .ok (.goto (21), 3) := by decide +kernel
theorem d_Msg_readNumbers_78 : decode prog_7_method_6_code 78 = .ok (.aload_n 0, 1) := by decide +kernel
theorem d_Msg_readNumbers_79 : decode prog_7_method_6_code 79 = .ok (.aload_n 1, 1) := by decide +kernel
theorem d_Msg_readNumbers_80 : decode prog_7_method_6_code 80 = .ok (.invokevirtual 101, 3) := by decide +kernel
theorem d_Msg_readNumbers_83 : decode prog_7_method_6_code 83 = .ok (.goto (13), 3) := by decide +kernel
theorem d_Msg_readNumbers_86 : decode prog_7_method_6_code 86 = .ok (.aload_n 0, 1) := by decide +kernel
theorem d_Msg_readNumbers_87 : decode prog_7_method_6_code 87 = .ok (.aload_n 1, 1) := by decide +kernel
theorem d_Msg_readNumbers_88 : decode prog_7_method_6_code 88 = .ok (.bipush (8), 2) := by decide +kernel
theorem d_Msg_readNumbers_90 : decode prog_7_method_6_code 90 = .ok (.invokevirtual 45, 3) := by decide +kernel
theorem d_Msg_readNumbers_93 : decode prog_7_method_6_code 93 = .ok (.putfield 36, 3) := by decide +kernel
theorem d_Msg_readNumbers_96 : decode prog_7_method_6_code 96 = .ok (.return_, 1) := by decide +kernel
end
section
theorem d_Msg_readMarks_0 : decode prog_7_method_7_code 0 = .ok (.aload_n 0, 1) := by decide +kernel
theorem d_Msg_readMarks_1 : decode prog_7_method_7_code 1 = .ok (.getfield 22, 3) := by decide +kernel
theorem d_Msg_readMarks_4 : decode prog_7_method_7_code 4 = .ok (.invokevirtual 104, 3) := by decide +kernel
theorem d_Msg_readMarks_7 : decode prog_7_method_7_code 7 = .ok (.aload_n 1, 1) := by decide +kernel
theorem d_Msg_readMarks_8 : decode prog_7_method_7_code 8 = .ok (.iconst 3, 1) := by decide +kernel
theorem d_Msg_readMarks_9 : decode prog_7_method_7_code 9 = .ok (.invokevirtual 45, 3) := by decide +kernel
theorem d_Msg_readMarks_12 : decode prog_7_method_7_code 12 = .ok (.istore_n 2, 1) := by decide +kernel
theorem d_Msg_readMarks_13 : decode prog_7_method_7_code 13 = .ok (.iconst (-1), 1) := by decide +kernel
theorem d_Msg_readMarks_14 : decode prog_7_method_7_code 14 = .ok (.istore_n 3, 1) := by decide +kernel
theorem d_Msg_readMarks_15 : decode prog_7_method_7_code 15 = .ok (.iconst 0, 1) := by decide +kernel
theorem d_Msg_readMarks_16 : decode prog_7_method_7_code 16 = .ok (.istore 4, 2) := by decide +kernel
theorem d_Msg_readMarks_18 : decode prog_7_method_7_code 18 = .ok (.iload 4, 2) := by decide +kernel
theorem d_Msg_readMarks_20 : decode prog_7_method_7_code 20 = .ok (.iload_n 2, 1) := by decide +kernel
theorem d_Msg_readMarks_21 : decode prog_7_method_7_code 21 = .ok (.if_icmp .ge (46), 3) := by decide +kernel
theorem d_Msg_readMarks_24 : decode prog_7_method_7_code 24 = .ok (.aload_n 1, 1) := by decide +kernel
theorem d_Msg_readMarks_25 : decode prog_7_method_7_code 25 = .ok (.invokevirtual 69, 3) := by decide +kernel
theorem d_Msg_readMarks_28 : decode prog_7_method_7_code 28 = .ok (.ifCond .eq (39), 3) := by decide +kernel
theorem d_Msg_readMarks_31 : decode prog_7_method_7_code 31 = .ok (.aload_n 1, 1) := by decide +kernel
theorem d_Msg_readMarks_32 : decode prog_7_method_7_code 32 = .ok (.iload_n 3, 1) := by decide +kernel
theorem d_Msg_readMarks_33 : decode prog_7_method_7_code 33 = .ok (.invokestatic 107, 3) := by decide +kernel
theorem d_Msg_readMarks_36 : decode prog_7_method_7_code 36 = .ok (.istore_n 3, 1) := by decide +kernel
theorem d_Msg_readMarks_37 : decode prog_7_method_7_code 37 = .ok (.aload_n 1, 1) := by decide +kernel
theorem d_Msg_readMarks_38 : decode prog_7_method_7_code 38 = .ok (.bipush (8), 2) := by decide +kernel
theorem d_Msg_readMarks_40 : decode prog_7_method_7_code 40 = .ok (.invokevirtual 45, 3) := by decide +kernel
theorem d_Msg_readMarks_43 : decode prog_7_method_7_code 43 = .ok (.istore 5, 2) := by decide +kernel
theorem d_Msg_readMarks_45 : decode prog_7_method_7_code 45 = .ok (.aload_n 0, 1) := by decide +kernel
theorem d_Msg_readMarks_46 : decode prog_7_method_7_code 46 = .ok (.getfield 22, 3) := by decide +kernel
theorem d_Msg_readMarks_49 : decode prog_7_method_7_code 49 = .ok (.iload_n 3, 1) := by decide +kernel
theorem d_Msg_readMarks_50 : decode prog_7_method_7_code 50 = .ok (.iload 5, 2) := by decide +kernel
theorem d_Msg_readMarks_52 : decode prog_7_method_7_code 52 = .ok (.aload_n 1, 1) := by decide +kernel
theorem d_Msg_readMarks_53 : decode prog_7_method_7_code 53 = .ok (.bipush (6), 2) := by decide +kernel
theorem d_Msg_readMarks_55 : decode prog_7_method_7_code 55 = .ok (.invokevirtual 45, 3) := by decide +kernel
theorem d_Msg_readMarks_58 : decode prog_7_method_7_code 58 = .ok (.invokevirtual 111, 3) := by decide +kernel
theorem d_Msg_readMarks_61 : decode prog_7_method_7_code 61 = .ok (.iinc 4 (1), 3) := by decide +kernel
theorem d_Msg_readMarks_64 : decode prog_7_method_7_code 64 = .ok (.goto (-46), 3) := by decide +kernel
theorem d_Msg_readMarks_67 : decode prog_7_method_7_code 67 = .ok (.return_, 1) := by decide +kernel
theorem d_Msg_readAuthority_0 : decode prog_7_method_8_code 0 = .ok (.aload_n 0, 1) := by decide +kernel
theorem d_Msg_readAuthority_1 : decode prog_7_method_8_code 1 = .ok (.aload_n 1, 1) := by decide +kernel
theorem d_Msg_readAuthority_2 : decode prog_7_method_8_code 2 = .ok (.invokestatic 62, 3) := by decide +kernel
theorem d_Msg_readAuthority_5 : decode prog_7_method_8_code 5 = .ok (.putfield 66, 3) := by decide +kernel
theorem d_Msg_readAuthority_8 : decode prog_7_method_8_code 8 = .ok (.aload_n 0, 1) := by decide +kernel
theorem d_Msg_readAuthority_9 : decode prog_7_method_8_code 9 = .ok (.aload_n 1, 1) := by decide +kernel
theorem d_Msg_readAuthority_10 : decode prog_7_method_8_code 10 = .ok (.bipush (10), 2) := by decide +kernel
theorem d_Msg_readAuthority_12 : decode prog_7_method_8_code 12 = .ok (.invokevirtual 45, 3) := by decide +kernel
theorem d_Msg_readAuthority_15 : decode prog_7_method_8_code 15 = .ok (.putfield 115, 3) := by decide +kernel
theorem d_Msg_readAuthority_18 : decode prog_7_method_8_code 18 = .ok (.aload_n 1, 1) := by decide +kernel
theorem d_Msg_readAuthority_19 : decode prog_7_method_8_code 19 = .ok (.iconst 2, 1) := by decide +kernel
theorem d_Msg_readAuthority_20 : decode prog_7_method_8_code 20 = .ok (.invokevirtual 45, 3) := by decide +kernel
theorem d_Msg_readAuthority_23 : decode prog_7_method_8_code 23 = .ok (.istore_n 2, 1) := by decide +kernel
theorem d_Msg_readAuthority_24 : decode prog_7_method_8_code 24 = .ok (.aload_n 1, 1) := by decide +kernel
theorem d_Msg_readAuthority_25 : decode prog_7_method_8_code 25 = .ok (.iload_n 2, 1) := by decide +kernel
theorem d_Msg_readAuthority_26 : decode prog_7_method_8_code 26 = .ok (.iconst 1, 1) := by decide +kernel
theorem d_Msg_readAuthority_27 : decode prog_7_method_8_code 27 = .ok (.if_icmp .gt (7), 3) := by decide +kernel
theorem d_Msg_readAuthority_30 : decode prog_7_method_8_code 30 = .ok (.iconst 1, 1) := by decide +kernel
theorem d_Msg_readAuthority_31 : decode prog_7_method_8_code 31 = .ok (.goto (4), 3) := by decide +kernel
theorem d_Msg_readAuthority_34 : decode prog_7_method_8_code 34 = .ok (.iconst 0, 1) := by decide +kernel
theorem d_Msg_readAuthority_35 : decode prog_7_method_8_code 35 = .ok (.bipush (6), 2) := by decide +kernel
theorem d_Msg_readAuthority_37 : decode prog_7_method_8_code 37 = .ok (.invokevirtual 52, 3) := by decide +kernel
theorem d_Msg_readAuthority_40 : decode prog_7_method_8_code 40 = .ok (.aload_n 0, 1) := by decide +kernel
theorem d_Msg_readAuthority_41 : decode prog_7_method_8_code 41 = .ok (.iload_n 2, 1) := by decide +kernel
theorem d_Msg_readAuthority_42 : decode prog_7_method_8_code 42 = .ok (.ifCond .ne (7), 3) := by decide +kernel
theorem d_Msg_readAuthority_45 : decode prog_7_method_8_code 45 = .ok (.iconst 2, 1) := by decide +kernel
theorem d_Msg_readAuthority_46 : decode prog_7_method_8_code 46 = .ok (.goto (4), 3) := by decide +kernel
theorem d_Msg_readAuthority_49 : decode prog_7_method_8_code 49 = .ok (.iconst 3, 1) := by decide +kernel
theorem d_Msg_readAuthority_50 : decode prog_7_method_8_code 50 = .ok (.putfield 118, 3) := by decide +kernel
theorem d_Msg_readAuthority_53 : decode prog_7_method_8_code 53 = .ok (.return_, 1) := by decide +kernel
theorem d_Msg_readSteps_0 : decode prog_7_method_9_code 0 = .ok (.aload_n 2, 1) := by decide +kernel
theorem d_Msg_readSteps_1 : decode prog_7_method_9_code 1 = .ok (.invokevirtual 121, 3) := by decide +kernel
theorem d_Msg_readSteps_4 : decode prog_7_method_9_code 4 = .ok (.aload_n 1, 1) := by decide +kernel
theorem d_Msg_readSteps_5 : decode prog_7_method_9_code 5 = .ok (.iconst 3, 1) := by decide +kernel
theorem d_Msg_readSteps_6 : decode prog_7_method_9_code 6 = .ok (.invokevirtual 45, 3) := by decide +kernel
theorem d_Msg_readSteps_9 : decode prog_7_method_9_code 9 = .ok (.istore 4, 2) := by decide +kernel
theorem d_Msg_readSteps_11 : decode prog_7_method_9_code 11 = .ok (.aload_n 1, 1) := by decide +kernel
theorem d_Msg_readSteps_12 : decode prog_7_method_9_code 12 = .ok (.iload 4, 2) := by decide +kernel
theorem d_Msg_readSteps_14 : decode prog_7_method_9_code 14 = .ok (.ifCond .ne (7), 3) := by decide +kernel
theorem d_Msg_readSteps_17 : decode prog_7_method_9_code 17 = .ok (.iload_n 3, 1) := by decide +kernel
theorem d_Msg_readSteps_18 : decode prog_7_method_9_code 18 = .ok (.ifCond .ne (7), 3) := by decide +kernel
theorem d_Msg_readSteps_21 : decode prog_7_method_9_code 21 = .ok (.iconst 1, 1) := by decide +kernel
theorem d_Msg_readSteps_22 : decode prog_7_method_9_code 22 = .ok (.goto (4), 3) := by decide +kernel
theorem d_Msg_readSteps_25 : decode prog_7_method_9_code 25 = .ok (.iconst 0, 1) := by decide +kernel
theorem d_Msg_readSteps_26 : decode prog_7_method_9_code 26 = .ok (.bipush (6), 2) := by decide +kernel
theorem d_Msg_readSteps_28 : decode prog_7_method_9_code 28 = .ok (.invokevirtual 52, 3) := by decide +kernel
theorem d_Msg_readSteps_31 : decode prog_7_method_9_code 31 = .ok (.iconst (-1), 1) := by decide +kernel
theorem d_Msg_readSteps_32 : decode prog_7_method_9_code 32 = .ok (.istore 5, 2) := by decide +kernel
theorem d_Msg_readSteps_34 : decode prog_7_method_9_code 34 = .ok (.iconst 0, 1) := by decide +kernel
theorem d_Msg_readSteps_35 : decode prog_7_method_9_code 35 = .ok (.istore 6, 2) := by decide +kernel
theorem d_Msg_readSteps_37 : decode prog_7_method_9_code 37 = .ok (.iload 6, 2) := by decide +kernel
theorem d_Msg_readSteps_39 : decode prog_7_method_9_code 39 = .ok (.iload 4, 2) := by decide +kernel
theorem d_Msg_readSteps_41 : decode prog_7_method_9_code 41 = .ok (.if_icmp .ge (47), 3) := by decide +kernel
theorem d_Msg_readSteps_44 : decode prog_7_method_9_code 44 = .ok (.aload_n 1, 1) := by decide +kernel
theorem d_Msg_readSteps_45 : decode prog_7_method_9_code 45 = .ok (.invokevirtual 69, 3) := by decide +kernel
theorem d_Msg_readSteps_48 : decode prog_7_method_9_code 48 = .ok (.ifCond .eq (40), 3) := by decide +kernel
theorem d_Msg_readSteps_51 : decode prog_7_method_9_code 51 = .ok (.aload_n 1, 1) := by decide +kernel
theorem d_Msg_readSteps_52 : decode prog_7_method_9_code 52 = .ok (.iload 5, 2) := by decide +kernel
theorem d_Msg_readSteps_54 : decode prog_7_method_9_code 54 = .ok (.invokestatic 107, 3) := by decide +kernel
theorem d_Msg_readSteps_57 : decode prog_7_method_9_code 57 = .ok (.istore 5, 2) := by decide +kernel
theorem d_Msg_readSteps_59 : decode prog_7_method_9_code 59 = .ok (.aload_n 2, 1) := by decide +kernel
theorem d_Msg_readSteps_60 : decode prog_7_method_9_code 60 = .ok (.iload 5, 2) := by decide +kernel
theorem d_Msg_readSteps_62 : decode prog_7_method_9_code 62 = .ok (.iload_n 3, 1) := by decide +kernel
theorem d_Msg_readSteps_63 : decode prog_7_method_9_code 63 = .ok (.ifCond .eq (10), 3) := by decide +kernel
theorem d_Msg_readSteps_66 : decode prog_7_method_9_code 66 = .ok (.aload_n 1, 1) := by decide +kernel
theorem d_Msg_readSteps_67 : decode prog_7_method_9_code 67 = .ok (.invokestatic 122, 3) := by decide +kernel
theorem d_Msg_readSteps_70 : decode prog_7_method_9_code 70 = .ok (.goto (9), 3) := by decide +kernel
theorem d_Msg_readSteps_73 : decode prog_7_method_9_code 73 = .ok (.aload_n 1, 1) := by decide +kernel
theorem d_Msg_readSteps_74 : decode prog_7_method_9_code 74 = .ok (.bipush (6), 2) := by decide +kernel
theorem d_Msg_readSteps_76 : decode prog_7_method_9_code 76 = .ok (.invokevirtual 45, 3) := by decide +kernel
theorem d_Msg_readSteps_79 : decode prog_7_method_9_code 79 = .ok (.invokevirtual 125, 3) := by decide +kernel
theorem d_Msg_readSteps_82 : decode prog_7_method_9_code 82 = .ok (.iinc 6 (1), 3) := by decide +kernel
theorem d_Msg_readSteps_85 : decode prog_7_method_9_code 85 = .ok (.goto (-48), 3) := by decide +kernel
theorem d_Msg_readSteps_88 : decode prog_7_method_9_code 88 = .ok (.return_, 1) := by decide +kernel
theorem d_Msg_readRestriction_0 : decode prog_7_method_10_code 0 = .ok (.aload_n 0, 1) := by decide +kernel
theorem d_Msg_readRestriction_1 : decode prog_7_method_10_code 1 = .ok (.aload_n 1, 1) := by decide +kernel
theorem d_Msg_readRestriction_2 : decode prog_7_method_10_code 2 = .ok (.bipush (8), 2) := by decide +kernel
theorem d_Msg_readRestriction_4 : decode prog_7_method_10_code 4 = .ok (.invokevirtual 45, 3) := by decide +kernel
theorem d_Msg_readRestriction_7 : decode prog_7_method_10_code 7 = .ok (.putfield 129, 3) := by decide +kernel
theorem d_Msg_readRestriction_10 : decode prog_7_method_10_code 10 = .ok (.aload_n 0, 1) := by decide +kernel
theorem d_Msg_readRestriction_11 : decode prog_7_method_10_code 11 = .ok (.aload_n 1, 1) := by decide +kernel
theorem d_Msg_readRestriction_12 : decode prog_7_method_10_code 12 = .ok (.invokestatic 62, 3) := by decide +kernel
theorem d_Msg_readRestriction_15 : decode prog_7_method_10_code 15 = .ok (.putfield 132, 3) := by decide +kernel
theorem d_Msg_readRestriction_18 : decode prog_7_method_10_code 18 = .ok (.aload_n 0, 1) := by decide +kernel
theorem d_Msg_readRestriction_19 : decode prog_7_method_10_code 19 = .ok (.aload_n 1, 1) := by decide +kernel
theorem d_Msg_readRestriction_20 : decode prog_7_method_10_code 20 = .ok (.invokestatic 62, 3) := by decide +kernel
theorem d_Msg_readRestriction_23 : decode prog_7_method_10_code 23 = .ok (.putfield 135, 3) := by decide +kernel
theorem d_Msg_readRestriction_26 : decode prog_7_method_10_code 26 = .ok (.aload_n 1, 1) := by decide +kernel
theorem d_Msg_readRestriction_27 : decode prog_7_method_10_code 27 = .ok (.aload_n 0, 1) := by decide +kernel
theorem d_Msg_readRestriction_28 : decode prog_7_method_10_code 28 = .ok (.getfield 135, 3) := by decide +kernel
theorem d_Msg_readRestriction_31 : decode prog_7_method_10_code 31 = .ok (.ifCond .eq (7), 3) := by decide +kernel
theorem d_Msg_readRestriction_34 : decode prog_7_method_10_code 34 = .ok (.iconst 1, 1) := by decide +kernel
theorem d_Msg_readRestriction_35 : decode prog_7_method_10_code 35 = .ok (.goto (4), 3) := by decide +kernel
theorem d_Msg_readRestriction_38 : decode prog_7_method_10_code 38 = .ok (.iconst 0, 1) := by decide +kernel
theorem d_Msg_readRestriction_39 : decode prog_7_method_10_code 39 = .ok (.bipush (6), 2) := by decide +kernel
theorem d_Msg_readRestriction_41 : decode prog_7_method_10_code 41 = .ok (.invokevirtual 52, 3) := by decide +kernel
theorem d_Msg_readRestriction_44 : decode prog_7_method_10_code 44 = .ok (.aload_n 0, 1) := by decide +kernel
theorem d_Msg_readRestriction_45 : decode prog_7_method_10_code 45 = .ok (.aload_n 1, 1) := by decide +kernel
theorem d_Msg_readRestriction_46 : decode prog_7_method_10_code 46 = .ok (.invokestatic 122, 3) := by decide +kernel
theorem d_Msg_readRestriction_49 : decode prog_7_method_10_code 49 = .ok (.putfield 138, 3) := by decide +kernel
theorem d_Msg_readRestriction_52 : decode prog_7_method_10_code 52 = .ok (.return_, 1) := by decide +kernel
theorem d_Msg_takePlace_0 : decode prog_7_method_11_code 0 = .ok (.bipush (10), 2) := by decide +kernel
theorem d_Msg_takePlace_2 : decode prog_7_method_11_code 2 = .ok (.aload_n 0, 1) := by decide +kernel
theorem d_Msg_takePlace_3 : decode prog_7_method_11_code 3 = .ok (.bipush (15), 2) := by decide +kernel
theorem d_Msg_takePlace_5 : decode prog_7_method_11_code 5 = .ok (.invokevirtual 45, 3) := by decide +kernel
theorem d_Msg_takePlace_8 : decode prog_7_method_11_code 8 = .ok (.imul, 1) := by decide +kernel
theorem d_Msg_takePlace_9 : decode prog_7_method_11_code 9 = .ok (.ireturn, 1) := by decide +kernel
theorem d_Msg_takePlaceBehind_0 : decode prog_7_method_12_code 0 = .ok (.bipush (10), 2) := by decide +kernel
theorem d_Msg_takePlaceBehind_2 : decode prog_7_method_12_code 2 = .ok (.aload_n 0, 1) := by decide +kernel
theorem d_Msg_takePlaceBehind_3 : decode prog_7_method_12_code 3 = .ok (.bipush (15), 2) := by decide +kernel
theorem d_Msg_takePlaceBehind_5 : decode prog_7_method_12_code 5 = .ok (.invokevirtual 45, 3) := by decide +kernel
theorem d_Msg_takePlaceBehind_8 : decode prog_7_method_12_code 8 = .ok (.imul, 1) := by decide +kernel
theorem d_Msg_takePlaceBehind_9 : decode prog_7_method_12_code 9 = .ok (.istore_n 2, 1) := by decide +kernel
theorem d_Msg_takePlaceBehind_10 : decode prog_7_method_12_code 10 = .ok (.aload_n 0, 1) := by decide +kernel
theorem d_Msg_takePlaceBehind_11 : decode prog_7_method_12_code 11 = .ok (.iload_n 2, 1) := by decide +kernel
theorem d_Msg_takePlaceBehind_12 : decode prog_7_method_12_code 12 = .ok (.iload_n 1, 1) := by decide +kernel
theorem d_Msg_takePlaceBehind_13 : decode prog_7_method_12_code 13 = .ok (.if_icmp .le (7), 3) := by decide +kernel
theorem d_Msg_takePlaceBehind_16 : decode prog_7_method_12_code 16 = .ok (.iconst 1, 1) := by decide +kernel
theorem d_Msg_takePlaceBehind_17 : decode prog_7_method_12_code 17 = .ok (.goto (4), 3) := by decide +kernel
theorem d_Msg_takePlaceBehind_20 : decode prog_7_method_12_code 20 = .ok (.iconst 0, 1) := by decide +kernel
theorem d_Msg_takePlaceBehind_21 : decode prog_7_method_12_code 21 = .ok (.bipush (6), 2) := by decide +kernel
theorem d_Msg_takePlaceBehind_23 : decode prog_7_method_12_code 23 = .ok (.invokevirtual 52, 3) := by decide +kernel
theorem d_Msg_takePlaceBehind_26 : decode prog_7_method_12_code 26 = .ok (.iload_n 2, 1) := by decide +kernel
theorem d_Msg_takePlaceBehind_27 : decode prog_7_method_12_code 27 = .ok (.ireturn, 1) := by decide +kernel
theorem d_Msg_takeLimit_0 : decode prog_7_method_13_code 0 = .ok (.iconst 5, 1) := by decide +kernel
theorem d_Msg_takeLimit_1 : decode prog_7_method_13_code 1 = .ok (.aload_n 0, 1) := by decide +kernel
theorem d_Msg_takeLimit_2 : decode prog_7_method_13_code 2 = .ok (.bipush (7), 2) := by decide +kernel
theorem d_Msg_takeLimit_4 : decode prog_7_method_13_code 4 = .ok (.invokevirtual 45, 3) := by decide +kernel
theorem d_Msg_takeLimit_7 : decode prog_7_method_13_code 7 = .ok (.imul, 1) := by decide +kernel
theorem d_Msg_takeLimit_8 : decode prog_7_method_13_code 8 = .ok (.sipush (600), 3) := by decide +kernel
theorem d_Msg_takeLimit_11 : decode prog_7_method_13_code 11 = .ok (.invokestatic 141, 3) := by decide +kernel
theorem d_Msg_takeLimit_14 : decode prog_7_method_13_code 14 = .ok (.ireturn, 1) := by decide +kernel
theorem d_Not_init_0 : decode prog_8_method_1_code 0 = .ok (.aload_n 0, 1) := by decide +kernel
theorem d_Not_init_1 : decode prog_8_method_1_code 1 = .ok (.invokespecial 3, 3) := by decide +kernel
theorem d_Not_init_4 : decode prog_8_method_1_code 4 = .ok (.aload_n 0, 1) := by decide +kernel
theorem d_Not_init_5 : decode prog_8_method_1_code 5 = .ok (.bipush (16), 2) := by decide +kernel
theorem d_Not_init_7 : decode prog_8_method_1_code 7 = .ok (.newarray .int, 2) := by decide +kernel
theorem d_Not_init_9 : decode prog_8_method_1_code 9 = .ok (.putfield 9, 3) := by decide +kernel
theorem d_Not_init_12 : decode prog_8_method_1_code 12 = .ok (.return_, 1) := by decide +kernel
theorem d_Not_add_0 : decode prog_8_method_2_code 0 = .ok (.aload_n 0, 1) := by decide +kernel
theorem d_Not_add_1 : decode prog_8_method_2_code 1 = .ok (.getfield 9, 3) := by decide +kernel
theorem d_Not_add_4 : decode prog_8_method_2_code 4 = .ok (.aload_n 0, 1) := by decide +kernel
theorem d_Not_add_5 : decode prog_8_method_2_code 5 = .ok (.getfield 15, 3) := by decide +kernel
theorem d_Not_add_8 : decode prog_8_method_2_code 8 = .ok (.iload_n 1, 1) := by decide +kernel
theorem d_Not_add_9 : decode prog_8_method_2_code 9 = .ok (.iastore, 1) := by decide +kernel
theorem d_Not_add_10 : decode prog_8_method_2_code 10 = .ok (.aload_n 0, 1) := by decide +kernel
theorem d_Not_add_11 : decode prog_8_method_2_code 11 = .ok (.aload_n 0, 1) := by decide +kernel
theorem d_Not_add_12 : decode prog_8_method_2_code 12 = .ok (.getfield 15, 3) := by decide +kernel
theorem d_Not_add_15 : decode prog_8_method_2_code 15 = .ok (.iconst 1, 1) := by decide +kernel
theorem d_Not_add_16 : decode prog_8_method_2_code 16 = .ok (.iadd, 1) := by decide +kernel
theorem d_Not_add_17 : decode prog_8_method_2_code 17 = .ok (.bipush (16), 2) := by decide +kernel
theorem d_Not_add_19 : decode prog_8_method_2_code 19 = .ok (.irem, 1) := by decide +kernel
theorem d_Not_add_20 : decode prog_8_method_2_code 20 = .ok (.putfield 15, 3) := by decide +kernel
theorem d_Not_add_23 : decode prog_8_method_2_code 23 = .ok (.aload_n 0, 1) := by decide +kernel
theorem d_Not_add_24 : decode prog_8_method_2_code 24 = .ok (.getfield 19, 3) := by decide +kernel
theorem d_Not_add_27 : decode prog_8_method_2_code 27 = .ok (.bipush (16), 2) := by decide +kernel
theorem d_Not_add_29 : decode prog_8_method_2_code 29 = .ok (.if_icmp .ge (13), 3) := by decide +kernel
theorem d_Not_add_32 : decode prog_8_method_2_code 32 = .ok (.aload_n 0, 1) := by decide +kernel
theorem d_Not_add_33 : decode prog_8_method_2_code 33 = .ok (.dup, 1) := by decide +kernel
theorem d_Not_add_34 : decode prog_8_method_2_code 34 = .ok (.getfield 19, 3) := by decide +kernel
theorem d_Not_add_37 : decode prog_8_method_2_code 37 = .ok (.iconst 1, 1) := by decide +kernel
theorem d_Not_add_38 : decode prog_8_method_2_code 38 = .ok (.iadd, 1) := by decide +kernel
theorem d_Not_add_39 : decode prog_8_method_2_code 39 = .ok (.putfield 19, 3) := by decide +kernel
theorem d_Not_add_42 : decode prog_8_method_2_code 42 = .ok (.return_, 1) := by decide +kernel
theorem d_Not_get_0 : decode prog_8_method_3_code 0 = .ok (.iload_n 1, 1) := by decide +kernel
theorem d_Not_get_1 : decode prog_8_method_3_code 1 = .ok (.ifCond .lt (11), 3) := by decide +kernel
theorem d_Not_get_4 : decode prog_8_method_3_code 4 = .ok (.iload_n 1, 1) := by decide +kernel
theorem d_Not_get_5 : decode prog_8_method_3_code 5 = .ok (.aload_n 0, 1) := by decide +kernel
theorem d_Not_get_6 : decode prog_8_method_3_code 6 = .ok (.getfield 19, 3) := by decide +kernel
theorem d_Not_get_9 : decode prog_8_method_3_code 9 = .ok (.if_icmp .lt (5), 3) := by decide +kernel
theorem d_Not_get_12 : decode prog_8_method_3_code 12 = .ok (.iconst (-1), 1) := by decide +kernel
theorem d_Not_get_13 : decode prog_8_method_3_code 13 = .ok (.ireturn, 1) := by decide +kernel
theorem d_Not_get_14 : decode prog_8_method_3_code 14 = .ok (.aload_n 0, 1) := by decide +kernel
theorem d_Not_get_15 : decode prog_8_method_3_code 15 = .ok (.getfield 9, 3) := by decide +kernel
theorem d_Not_get_18 : decode prog_8_method_3_code 18 = .ok (.aload_n 0, 1) := by decide +kernel
theorem d_Not_get_19 : decode prog_8_method_3_code 19 = .ok (.getfield 15, 3) := by decide +kernel
theorem d_Not_get_22 : decode prog_8_method_3_code 22 = .ok (.iconst 1, 1) := by decide +kernel
theorem d_Not_get_23 : decode prog_8_method_3_code 23 = .ok (.isub, 1) := by decide +kernel
theorem d_Not_get_24 : decode prog_8_method_3_code 24 = .ok (.iload_n 1, 1) := by decide +kernel
theorem d_Not_get_25 : decode prog_8_method_3_code 25 = .ok (.isub, 1) := by decide +kernel
theorem d_Not_get_26 : decode prog_8_method_3_code 26 = .ok (.bipush (16), 2) := by decide +kernel
theorem d_Not_get_28 : decode prog_8_method_3_code 28 = .ok (.iadd, 1) := by decide +kernel
theorem d_Not_get_29 : decode prog_8_method_3_code 29 = .ok (.bipush (16), 2) := by decide +kernel
theorem d_Not_get_31 : decode prog_8_method_3_code 31 = .ok (.irem, 1) := by decide +kernel
theorem d_Not_get_32 : decode prog_8_method_3_code 32 = .ok (.iaload, 1) := by decide +kernel
theorem d_Not_get_33 : decode prog_8_method_3_code 33 = .ok (.ireturn, 1) := by decide +kernel
theorem d_Res_init_0 : decode prog_9_method_1_code 0 = .ok (.aload_n 0, 1) := by decide +kernel
theorem d_Res_init_1 : decode prog_9_method_1_code 1 = .ok (.invokespecial 3, 3) := by decide +kernel
theorem d_Res_init_4 : decode prog_9_method_1_code 4 = .ok (.aload_n 0, 1) := by decide +kernel
theorem d_Res_init_5 : decode prog_9_method_1_code 5 = .ok (.bipush (6), 2) := by decide +kernel
theorem d_Res_init_7 : decode prog_9_method_1_code 7 = .ok (.newarray .int, 2) := by decide +kernel
theorem d_Res_init_9 : decode prog_9_method_1_code 9 = .ok (.putfield 9, 3) := by decide +kernel
theorem d_Res_init_12 : decode prog_9_method_1_code 12 = .ok (.aload_n 0, 1) := by decide +kernel
theorem d_Res_init_13 : decode prog_9_method_1_code 13 = .ok (.new 15, 3) := by decide +kernel
theorem d_Res_init_16 : decode prog_9_method_1_code 16 = .ok (.dup, 1) := by decide +kernel
theorem d_Res_init_17 : decode prog_9_method_1_code 17 = .ok (.invokespecial 17, 3) := by decide +kernel
theorem d_Res_init_20 : decode prog_9_method_1_code 20 = .ok (.putfield 18, 3) := by decide +kernel
theorem d_Res_init_23 : decode prog_9_method_1_code 23 = .ok (.return_, 1) := by decide +kernel
theorem d_Res_hasRoom_0 : decode prog_9_method_2_code 0 = .ok (.aload_n 0, 1) := by decide +kernel
theorem d_Res_hasRoom_1 : decode prog_9_method_2_code 1 = .ok (.getfield 18, 3) := by decide +kernel
theorem d_Res_hasRoom_4 : decode prog_9_method_2_code 4 = .ok (.getfield 22, 3) := by decide +kernel
theorem d_Res_hasRoom_7 : decode prog_9_method_2_code 7 = .ok (.bipush (6), 2) := by decide +kernel
theorem d_Res_hasRoom_9 : decode prog_9_method_2_code 9 = .ok (.if_icmp .lt (19), 3) := by decide +kernel
theorem d_Res_hasRoom_12 : decode prog_9_method_2_code 12 = .ok (.aload_n 0, 1) := by decide +kernel
theorem d_Res_hasRoom_13 : decode prog_9_method_2_code 13 = .ok (.iload_n 1, 1) := by decide +kernel
theorem d_Res_hasRoom_14 : decode prog_9_method_2_code 14 = .ok (.invokevirtual 26, 3) := by decide +kernel
theorem d_Res_hasRoom_17 : decode prog_9_method_2_code 17 = .ok (.ifCond .ge (11), 3) := by decide +kernel
theorem d_Res_hasRoom_20 : decode prog_9_method_2_code 20 = .ok (.aload_n 0, 1) := by decide +kernel
theorem d_Res_hasRoom_21 : decode prog_9_method_2_code 21 = .ok (.iload_n 2, 1) := by decide +kernel
theorem d_Res_hasRoom_22 : decode prog_9_method_2_code 22 = .ok (.invokevirtual 26, 3) := by decide +kernel
theorem d_Res_hasRoom_25 : decode prog_9_method_2_code 25 = .ok (.ifCond .lt (7), 3) := by decide +kernel
theorem d_Res_hasRoom_28 : decode prog_9_method_2_code 28 = .ok (.iconst 1, 1) := by decide +kernel
theorem d_Res_hasRoom_29 : decode prog_9_method_2_code 29 = .ok (.goto (4), 3) := by decide +kernel
theorem d_Res_hasRoom_32 : decode prog_9_method_2_code 32 = .ok (.iconst 0, 1) := by decide +kernel
theorem d_Res_hasRoom_33 : decode prog_9_method_2_code 33 = .ok (.ireturn, 1) := by decide +kernel
theorem d_Res_remove_0 : decode prog_9_method_3_code 0 = .ok (.aload_n 0, 1) := by decide +kernel
theorem d_Res_remove_1 : decode prog_9_method_3_code 1 = .ok (.iload_n 1, 1) := by decide +kernel
theorem d_Res_remove_2 : decode prog_9_method_3_code 2 = .ok (.invokevirtual 26, 3) := by decide +kernel
theorem d_Res_remove_5 : decode prog_9_method_3_code 5 = .ok (.istore_n 2, 1) := by decide +kernel
theorem d_Res_remove_6 : decode prog_9_method_3_code 6 = .ok (.iload_n 2, 1) := by decide +kernel
theorem d_Res_remove_7 : decode prog_9_method_3_code 7 = .ok (.ifCond .lt (29), 3) := by decide +kernel
theorem d_Res_remove_10 : decode prog_9_method_3_code 10 = .ok (.aload_n 0, 1) := by decide +kernel
theorem d_Res_remove_11 : decode prog_9_method_3_code 11 = .ok (.getfield 18, 3) := by decide +kernel
theorem d_Res_remove_14 : decode prog_9_method_3_code 14 = .ok (.iload_n 2, 1) := by decide +kernel
theorem d_Res_remove_15 : decode prog_9_method_3_code 15 = .ok (.invokevirtual 30, 3) := by decide +kernel
theorem d_Res_remove_18 : decode prog_9_method_3_code 18 = .ok (.aload_n 0, 1) := by decide +kernel
theorem d_Res_remove_19 : decode prog_9_method_3_code 19 = .ok (.getfield 9, 3) := by decide +kernel
theorem d_Res_remove_22 : decode prog_9_method_3_code 22 = .ok (.iload_n 2, 1) := by decide +kernel
theorem d_Res_remove_23 : decode prog_9_method_3_code 23 = .ok (.aload_n 0, 1) := by decide +kernel
theorem d_Res_remove_24 : decode prog_9_method_3_code 24 = .ok (.getfield 9, 3) := by decide +kernel
theorem d_Res_remove_27 : decode prog_9_method_3_code 27 = .ok (.aload_n 0, 1) := by decide +kernel
theorem d_Res_remove_28 : decode prog_9_method_3_code 28 = .ok (.getfield 18, 3) := by decide +kernel
theorem d_Res_remove_31 : decode prog_9_method_3_code 31 = .ok (.getfield 22, 3) := by decide +kernel
theorem d_Res_remove_34 : decode prog_9_method_3_code 34 = .ok (.iaload, 1) := by decide +kernel
theorem d_Res_remove_35 : decode prog_9_method_3_code 35 = .ok (.iastore, 1) := by decide +kernel
theorem d_Res_remove_36 : decode prog_9_method_3_code 36 = .ok (.return_, 1) := by decide +kernel
theorem d_Res_put_0 : decode prog_9_method_4_code 0 = .ok (.aload_n 0, 1) := by decide +kernel
theorem d_Res_put_1 : decode prog_9_method_4_code 1 = .ok (.iload_n 1, 1) := by decide +kernel
theorem d_Res_put_2 : decode prog_9_method_4_code 2 = .ok (.invokevirtual 34, 3) := by decide +kernel
theorem d_Res_put_5 : decode prog_9_method_4_code 5 = .ok (.aload_n 0, 1) := by decide +kernel
theorem d_Res_put_6 : decode prog_9_method_4_code 6 = .ok (.getfield 18, 3) := by decide +kernel
theorem d_Res_put_9 : decode prog_9_method_4_code 9 = .ok (.getfield 22, 3) := by decide +kernel
theorem d_Res_put_12 : decode prog_9_method_4_code 12 = .ok (.bipush (6), 2) := by decide +kernel
theorem d_Res_put_14 : decode prog_9_method_4_code 14 = .ok (.if_icmp .ge (31), 3) := by decide +kernel
theorem d_Res_put_17 : decode prog_9_method_4_code 17 = .ok (.aload_n 0, 1) := by decide +kernel
theorem d_Res_put_18 : decode prog_9_method_4_code 18 = .ok (.getfield 9, 3) := by decide +kernel
theorem d_Res_put_21 : decode prog_9_method_4_code 21 = .ok (.aload_n 0, 1) := by decide +kernel
theorem d_Res_put_22 : decode prog_9_method_4_code 22 = .ok (.getfield 18, 3) := by decide +kernel
theorem d_Res_put_25 : decode prog_9_method_4_code 25 = .ok (.getfield 22, 3) := by decide +kernel
theorem d_Res_put_28 : decode prog_9_method_4_code 28 = .ok (.iload_n 1, 1) := by decide +kernel
theorem d_Res_put_29 : decode prog_9_method_4_code 29 = .ok (.iastore, 1) := by decide +kernel
theorem d_Res_put_30 : decode prog_9_method_4_code 30 = .ok (.aload_n 0, 1) := by decide +kernel
theorem d_Res_put_31 : decode prog_9_method_4_code 31 = .ok (.getfield 18, 3) := by decide +kernel
theorem d_Res_put_34 : decode prog_9_method_4_code 34 = .ok (.iload_n 2, 1) := by decide +kernel
theorem d_Res_put_35 : decode prog_9_method_4_code 35 = .ok (.iload_n 2, 1) := by decide +kernel
theorem d_Res_put_36 : decode prog_9_method_4_code 36 = .ok (.iload_n 3, 1) := by decide +kernel
theorem d_Res_put_37 : decode prog_9_method_4_code 37 = .ok (.iadd, 1) := by decide +kernel
theorem d_Res_put_38 : decode prog_9_method_4_code 38 = .ok (.iconst 1, 1) := by decide +kernel
theorem d_Res_put_39 : decode prog_9_method_4_code 39 = .ok (.isub, 1) := by decide +kernel
theorem d_Res_put_40 : decode prog_9_method_4_code 40 = .ok (.iload 4, 2) := by decide +kernel
theorem d_Res_put_42 : decode prog_9_method_4_code 42 = .ok (.invokevirtual 37, 3) := by decide +kernel
theorem d_Res_put_45 : decode prog_9_method_4_code 45 = .ok (.return_, 1) := by decide +kernel
theorem d_Res_indexOf_0 : decode prog_9_method_5_code 0 = .ok (.iconst 0, 1) := by decide +kernel
theorem d_Res_indexOf_1 : decode prog_9_method_5_code 1 = .ok (.istore_n 2, 1) := by decide +kernel
theorem d_Res_indexOf_2 : decode prog_9_method_5_code 2 = .ok (.iload_n 2, 1) := by decide +kernel
theorem d_Res_indexOf_3 : decode prog_9_method_5_code 3 = .ok (.bipush (6), 2) := by decide +kernel
theorem d_Res_indexOf_5 : decode prog_9_method_5_code 5 = .ok (.if_icmp .ge (32), 3) := by decide +kernel
theorem d_Res_indexOf_8 : decode prog_9_method_5_code 8 = .ok (.iload_n 2, 1) := by decide +kernel
theorem d_Res_indexOf_9 : decode prog_9_method_5_code 9 = .ok (.aload_n 0, 1) := by decide +kernel
theorem d_Res_indexOf_10 : decode prog_9_method_5_code 10 = .ok (.getfield 18, 3) := by decide +kernel
theorem d_Res_indexOf_13 : decode prog_9_method_5_code 13 = .ok (.getfield 22, 3) := by decide +kernel
theorem d_Res_indexOf_16 : decode prog_9_method_5_code 16 = .ok (.if_icmp .ge (21), 3) := by decide +kernel
theorem d_Res_indexOf_19 : decode prog_9_method_5_code 19 = .ok (.aload_n 0, 1) := by decide +kernel
theorem d_Res_indexOf_20 : decode prog_9_method_5_code 20 = .ok (.getfield 9, 3) := by decide +kernel
theorem d_Res_indexOf_23 : decode prog_9_method_5_code 23 = .ok (.iload_n 2, 1) := by decide +kernel
theorem d_Res_indexOf_24 : decode prog_9_method_5_code 24 = .ok (.iaload, 1) := by decide +kernel
theorem d_Res_indexOf_25 : decode prog_9_method_5_code 25 = .ok (.iload_n 1, 1) := by decide +kernel
theorem d_Res_indexOf_26 : decode prog_9_method_5_code 26 = .ok (.if_icmp .ne (5), 3) := by decide +kernel
theorem d_Res_indexOf_29 : decode prog_9_method_5_code 29 = .ok (.iload_n 2, 1) := by decide +kernel
theorem d_Res_indexOf_30 : decode prog_9_method_5_code 30 = .ok (.ireturn, 1) := by decide +kernel
theorem d_Res_indexOf_31 : decode prog_9_method_5_code 31 = .ok (.iinc 2 (1), 3) := by decide +kernel
theorem d_Res_indexOf_34 : decode prog_9_method_5_code 34 = .ok (.goto (-32), 3) := by decide +kernel
theorem d_Res_indexOf_37 : decode prog_9_method_5_code 37 = .ok (.iconst (-1), 1) := by decide +kernel
theorem d_Res_indexOf_38 : decode prog_9_method_5_code 38 = .ok (.ireturn, 1) := by decide +kernel
theorem d_Spn_init_0 : decode prog_10_method_1_code 0 = .ok (.aload_n 0, 1) := by decide +kernel
theorem d_Spn_init_1 : decode prog_10_method_1_code 1 = .ok (.invokespecial 3, 3) := by decide +kernel
theorem d_Spn_init_4 : decode prog_10_method_1_code 4 = .ok (.aload_n 0, 1) := by decide +kernel
theorem d_Spn_init_5 : decode prog_10_method_1_code 5 = .ok (.bipush (7), 2) := by decide +kernel
theorem d_Spn_init_7 : decode prog_10_method_1_code 7 = .ok (.newarray .int, 2) := by decide +kernel
theorem d_Spn_init_9 : decode prog_10_method_1_code 9 = .ok (.putfield 9, 3) := by decide +kernel
theorem d_Spn_init_12 : decode prog_10_method_1_code 12 = .ok (.aload_n 0, 1) := by decide +kernel
theorem d_Spn_init_13 : decode prog_10_method_1_code 13 = .ok (.bipush (7), 2) := by decide +kernel
theorem d_Spn_init_15 : decode prog_10_method_1_code 15 = .ok (.newarray .int, 2) := by decide +kernel
theorem d_Spn_init_17 : decode prog_10_method_1_code 17 = .ok (.putfield 15, 3) := by decide +kernel
theorem d_Spn_init_20 : decode prog_10_method_1_code 20 = .ok (.aload_n 0, 1) := by decide +kernel
theorem d_Spn_init_21 : decode prog_10_method_1_code 21 = .ok (.bipush (7), 2) := by decide +kernel
theorem d_Spn_init_23 : decode prog_10_method_1_code 23 = .ok (.newarray .int, 2) := by decide +kernel
theorem d_Spn_init_25 : decode prog_10_method_1_code 25 = .ok (.putfield 18, 3) := by decide +kernel
theorem d_Spn_init_28 : decode prog_10_method_1_code 28 = .ok (.return_, 1) := by decide +kernel
theorem d_Spn_isEmpty_0 : decode prog_10_method_2_code 0 = .ok (.aload_n 0, 1) := by decide +kernel
theorem d_Spn_isEmpty_1 : decode prog_10_method_2_code 1 = .ok (.getfield 21, 3) := by decide +kernel
theorem d_Spn_isEmpty_4 : decode prog_10_method_2_code 4 = .ok (.ifCond .ne (7), 3) := by decide +kernel
theorem d_Spn_isEmpty_7 : decode prog_10_method_2_code 7 = .ok (.iconst 1, 1) := by decide +kernel
theorem d_Spn_isEmpty_8 : decode prog_10_method_2_code 8 = .ok (.goto (4), 3) := by decide +kernel
theorem d_Spn_isEmpty_11 : decode prog_10_method_2_code 11 = .ok (.iconst 0, 1) := by decide +kernel
theorem d_Spn_isEmpty_12 : decode prog_10_method_2_code 12 = .ok (.ireturn, 1) := by decide +kernel
theorem d_Spn_clear_0 : decode prog_10_method_3_code 0 = .ok (.aload_n 0, 1) := by decide +kernel
theorem d_Spn_clear_1 : decode prog_10_method_3_code 1 = .ok (.iconst 0, 1) := by decide +kernel
theorem d_Spn_clear_2 : decode prog_10_method_3_code 2 = .ok (.putfield 21, 3) := by decide +kernel
theorem d_Spn_clear_5 : decode prog_10_method_3_code 5 = .ok (.return_, 1) := by decide +kernel
theorem d_Spn_add_0 : decode prog_10_method_4_code 0 = .ok (.aload_n 0, 1) := by decide +kernel
theorem d_Spn_add_1 : decode prog_10_method_4_code 1 = .ok (.getfield 21, 3) := by decide +kernel
theorem d_Spn_add_4 : decode prog_10_method_4_code 4 = .ok (.bipush (7), 2) := by decide +kernel
theorem d_Spn_add_6 : decode prog_10_method_4_code 6 = .ok (.if_icmp .ge (43), 3) := by decide +kernel
theorem d_Spn_add_9 : decode prog_10_method_4_code 9 = .ok (.aload_n 0, 1) := by decide +kernel
theorem d_Spn_add_10 : decode prog_10_method_4_code 10 = .ok (.getfield 9, 3) := by decide +kernel
theorem d_Spn_add_13 : decode prog_10_method_4_code 13 = .ok (.aload_n 0, 1) := by decide +kernel
theorem d_Spn_add_14 : decode prog_10_method_4_code 14 = .ok (.getfield 21, 3) := by decide +kernel
theorem d_Spn_add_17 : decode prog_10_method_4_code 17 = .ok (.iload_n 1, 1) := by decide +kernel
theorem d_Spn_add_18 : decode prog_10_method_4_code 18 = .ok (.iastore, 1) := by decide +kernel
theorem d_Spn_add_19 : decode prog_10_method_4_code 19 = .ok (.aload_n 0, 1) := by decide +kernel
theorem d_Spn_add_20 : decode prog_10_method_4_code 20 = .ok (.getfield 15, 3) := by decide +kernel
theorem d_Spn_add_23 : decode prog_10_method_4_code 23 = .ok (.aload_n 0, 1) := by decide +kernel
theorem d_Spn_add_24 : decode prog_10_method_4_code 24 = .ok (.getfield 21, 3) := by decide +kernel
theorem d_Spn_add_27 : decode prog_10_method_4_code 27 = .ok (.iload_n 2, 1) := by decide +kernel
theorem d_Spn_add_28 : decode prog_10_method_4_code 28 = .ok (.iastore, 1) := by decide +kernel
theorem d_Spn_add_29 : decode prog_10_method_4_code 29 = .ok (.aload_n 0, 1) := by decide +kernel
theorem d_Spn_add_30 : decode prog_10_method_4_code 30 = .ok (.getfield 18, 3) := by decide +kernel
theorem d_Spn_add_33 : decode prog_10_method_4_code 33 = .ok (.aload_n 0, 1) := by decide +kernel
theorem d_Spn_add_34 : decode prog_10_method_4_code 34 = .ok (.getfield 21, 3) := by decide +kernel
theorem d_Spn_add_37 : decode prog_10_method_4_code 37 = .ok (.iload_n 3, 1) := by decide +kernel
theorem d_Spn_add_38 : decode prog_10_method_4_code 38 = .ok (.iastore, 1) := by decide +kernel
theorem d_Spn_add_39 : decode prog_10_method_4_code 39 = .ok (.aload_n 0, 1) := by decide +kernel
theorem d_Spn_add_40 : decode prog_10_method_4_code 40 = .ok (.dup, 1) := by decide +kernel
theorem d_Spn_add_41 : decode prog_10_method_4_code 41 = .ok (.getfield 21, 3) := by decide +kernel
theorem d_Spn_add_44 : decode prog_10_method_4_code 44 = .ok (.iconst 1, 1) := by decide +kernel
theorem d_Spn_add_45 : decode prog_10_method_4_code 45 = .ok (.iadd, 1) := by decide +kernel
theorem d_Spn_add_46 : decode prog_10_method_4_code 46 = .ok (.putfield 21, 3) := by decide +kernel
theorem d_Spn_add_49 : decode prog_10_method_4_code 49 = .ok (.return_, 1) := by decide +kernel
theorem d_Spn_addStep_0 : decode prog_10_method_5_code 0 = .ok (.aload_n 0, 1) := by decide +kernel
theorem d_Spn_addStep_1 : decode prog_10_method_5_code 1 = .ok (.getfield 21, 3) := by decide +kernel
theorem d_Spn_addStep_4 : decode prog_10_method_5_code 4 = .ok (.ifCond .le (17), 3) := by decide +kernel
theorem d_Spn_addStep_7 : decode prog_10_method_5_code 7 = .ok (.aload_n 0, 1) := by decide +kernel
theorem d_Spn_addStep_8 : decode prog_10_method_5_code 8 = .ok (.getfield 15, 3) := by decide +kernel
theorem d_Spn_addStep_11 : decode prog_10_method_5_code 11 = .ok (.aload_n 0, 1) := by decide +kernel
theorem d_Spn_addStep_12 : decode prog_10_method_5_code 12 = .ok (.getfield 21, 3) := by decide +kernel
theorem d_Spn_addStep_15 : decode prog_10_method_5_code 15 = .ok (.iconst 1, 1) := by decide +kernel
theorem d_Spn_addStep_16 : decode prog_10_method_5_code 16 = .ok (.isub, 1) := by decide +kernel
theorem d_Spn_addStep_17 : decode prog_10_method_5_code 17 = .ok (.iload_n 1, 1) := by decide +kernel
theorem d_Spn_addStep_18 : decode prog_10_method_5_code 18 = .ok (.iconst 1, 1) := by decide +kernel
theorem d_Spn_addStep_19 : decode prog_10_method_5_code 19 = .ok (.isub, 1) := by decide +kernel
theorem d_Spn_addStep_20 : decode prog_10_method_5_code 20 = .ok (.iastore, 1) := by decide +kernel
theorem d_Spn_addStep_21 : decode prog_10_method_5_code 21 = .ok (.aload_n 0, 1) := by decide +kernel
theorem d_Spn_addStep_22 : decode prog_10_method_5_code 22 = .ok (.iload_n 1, 1) := by decide +kernel
theorem d_Spn_addStep_23 : decode prog_10_method_5_code 23 = .ok (.ldc 25, 2) := by decide +kernel
theorem d_Spn_addStep_25 : decode prog_10_method_5_code 25 = .ok (.iload_n 2, 1) := by decide +kernel
theorem d_Spn_addStep_26 : decode prog_10_method_5_code 26 = .ok (.invokevirtual 26, 3) := by decide +kernel
theorem d_Spn_addStep_29 : decode prog_10_method_5_code 29 = .ok (.return_, 1) := by decide +kernel
theorem d_Spn_copyFrom_0 : decode prog_10_method_6_code 0 = .ok (.aload_n 0, 1) := by decide +kernel
theorem d_Spn_copyFrom_1 : decode prog_10_method_6_code 1 = .ok (.invokevirtual 30, 3) := by decide +kernel
theorem d_Spn_copyFrom_4 : decode prog_10_method_6_code 4 = .ok (.iconst 0, 1) := by decide +kernel
theorem d_Spn_copyFrom_5 : decode prog_10_method_6_code 5 = .ok (.istore_n 2, 1) := by decide +kernel
theorem d_Spn_copyFrom_6 : decode prog_10_method_6_code 6 = .ok (.iload_n 2, 1) := by decide +kernel
theorem d_Spn_copyFrom_7 : decode prog_10_method_6_code 7 = .ok (.aload_n 1, 1) := by decide +kernel
theorem d_Spn_copyFrom_8 : decode prog_10_method_6_code 8 = .ok (.getfield 21, 3) := by decide +kernel
theorem d_Spn_copyFrom_11 : decode prog_10_method_6_code 11 = .ok (.if_icmp .ge (31), 3) := by decide +kernel
theorem d_Spn_copyFrom_14 : decode prog_10_method_6_code 14 = .ok (.aload_n 0, 1) := by decide +kernel
theorem d_Spn_copyFrom_15 : decode prog_10_method_6_code 15 = .ok (.aload_n 1, 1) := by decide +kernel
theorem d_Spn_copyFrom_16 : decode prog_10_method_6_code 16 = .ok (.getfield 9, 3) := by decide +kernel
theorem d_Spn_copyFrom_19 : decode prog_10_method_6_code 19 = .ok (.iload_n 2, 1) := by decide +kernel
theorem d_Spn_copyFrom_20 : decode prog_10_method_6_code 20 = .ok (.iaload, 1) := by decide +kernel
theorem d_Spn_copyFrom_21 : decode prog_10_method_6_code 21 = .ok (.aload_n 1, 1) := by decide +kernel
theorem d_Spn_copyFrom_22 : decode prog_10_method_6_code 22 = .ok (.getfield 15, 3) := by decide +kernel
theorem d_Spn_copyFrom_25 : decode prog_10_method_6_code 25 = .ok (.iload_n 2, 1) := by decide +kernel
theorem d_Spn_copyFrom_26 : decode prog_10_method_6_code 26 = .ok (.iaload, 1) := by decide +kernel
theorem d_Spn_copyFrom_27 : decode prog_10_method_6_code 27 = .ok (.aload_n 1, 1) := by decide +kernel
theorem d_Spn_copyFrom_28 : decode prog_10_method_6_code 28 = .ok (.getfield 18, 3) := by decide +kernel
theorem d_Spn_copyFrom_31 : decode prog_10_method_6_code 31 = .ok (.iload_n 2, 1) := by decide +kernel
theorem d_Spn_copyFrom_32 : decode prog_10_method_6_code 32 = .ok (.iaload, 1) := by decide +kernel
theorem d_Spn_copyFrom_33 : decode prog_10_method_6_code 33 = .ok (.invokevirtual 26, 3) := by decide +kernel
theorem d_Spn_copyFrom_36 : decode prog_10_method_6_code 36 = .ok (.iinc 2 (1), 3) := by decide +kernel
theorem d_Spn_copyFrom_39 : decode prog_10_method_6_code 39 = .ok (.goto (-33), 3) := by decide +kernel
theorem d_Spn_copyFrom_42 : decode prog_10_method_6_code 42 = .ok (.return_, 1) := by decide +kernel
theorem d_Spn_fillFromLast_0 : decode prog_10_method_7_code 0 = .ok (.iload_n 1, 1) := by decide +kernel
theorem d_Spn_fillFromLast_1 : decode prog_10_method_7_code 1 = .ok (.ifCond .lt (66), 3) := by decide +kernel
theorem d_Spn_fillFromLast_4 : decode prog_10_method_7_code 4 = .ok (.iload_n 1, 1) := by decide +kernel
theorem d_Spn_fillFromLast_5 : decode prog_10_method_7_code 5 = .ok (.aload_n 0, 1) := by decide +kernel
theorem d_Spn_fillFromLast_6 : decode prog_10_method_7_code 6 = .ok (.getfield 21, 3) := by decide +kernel
theorem d_Spn_fillFromLast_9 : decode prog_10_method_7_code 9 = .ok (.if_icmp .ge (58), 3) := by decide +kernel
theorem d_Spn_fillFromLast_12 : decode prog_10_method_7_code 12 = .ok (.aload_n 0, 1) := by decide +kernel
theorem d_Spn_fillFromLast_13 : decode prog_10_method_7_code 13 = .ok (.dup, 1) := by decide +kernel
theorem d_Spn_fillFromLast_14 : decode prog_10_method_7_code 14 = .ok (.getfield 21, 3) := by decide +kernel
theorem d_Spn_fillFromLast_17 : decode prog_10_method_7_code 17 = .ok (.iconst 1, 1) := by decide +kernel
theorem d_Spn_fillFromLast_18 : decode prog_10_method_7_code 18 = .ok (.isub, 1) := by decide +kernel
theorem d_Spn_fillFromLast_19 : decode prog_10_method_7_code 19 = .ok (.putfield 21, 3) := by decide +kernel
theorem d_Spn_fillFromLast_22 : decode prog_10_method_7_code 22 = .ok (.aload_n 0, 1) := by decide +kernel
theorem d_Spn_fillFromLast_23 : decode prog_10_method_7_code 23 = .ok (.getfield 9, 3) := by decide +kernel
theorem d_Spn_fillFromLast_26 : decode prog_10_method_7_code 26 = .ok (.iload_n 1, 1) := by decide +kernel
theorem d_Spn_fillFromLast_27 : decode prog_10_method_7_code 27 = .ok (.aload_n 0, 1) := by decide +kernel
theorem d_Spn_fillFromLast_28 : decode prog_10_method_7_code 28 = .ok (.getfield 9, 3) := by decide +kernel
theorem d_Spn_fillFromLast_31 : decode prog_10_method_7_code 31 = .ok (.aload_n 0, 1) := by decide +kernel
theorem d_Spn_fillFromLast_32 : decode prog_10_method_7_code 32 = .ok (.getfield 21, 3) := by decide +kernel
theorem d_Spn_fillFromLast_35 : decode prog_10_method_7_code 35 = .ok (.iaload, 1) := by decide +kernel
theorem d_Spn_fillFromLast_36 : decode prog_10_method_7_code 36 = .ok (.iastore, 1) := by decide +kernel
theorem d_Spn_fillFromLast_37 : decode prog_10_method_7_code 37 = .ok (.aload_n 0, 1) := by decide +kernel
theorem d_Spn_fillFromLast_38 : decode prog_10_method_7_code 38 = .ok (.getfield 15, 3) := by decide +kernel
theorem d_Spn_fillFromLast_41 : decode prog_10_method_7_code 41 = .ok (.iload_n 1, 1) := by decide +kernel
theorem d_Spn_fillFromLast_42 : decode prog_10_method_7_code 42 = .ok (.aload_n 0, 1) := by decide +kernel
theorem d_Spn_fillFromLast_43 : decode prog_10_method_7_code 43 = .ok (.getfield 15, 3) := by decide +kernel
theorem d_Spn_fillFromLast_46 : decode prog_10_method_7_code 46 = .ok (.aload_n 0, 1) := by decide +kernel
theorem d_Spn_fillFromLast_47 : decode prog_10_method_7_code 47 = .ok (.getfield 21, 3) := by decide +kernel
theorem d_Spn_fillFromLast_50 : decode prog_10_method_7_code 50 = .ok (.iaload, 1) := by decide +kernel
theorem d_Spn_fillFromLast_51 : decode prog_10_method_7_code 51 = .ok (.iastore, 1) := by decide +kernel
theorem d_Spn_fillFromLast_52 : decode prog_10_method_7_code 52 = .ok (.aload_n 0, 1) := by decide +kernel
theorem d_Spn_fillFromLast_53 : decode prog_10_method_7_code 53 = .ok (.getfield 18, 3) := by decide +kernel
theorem d_Spn_fillFromLast_56 : decode prog_10_method_7_code 56 = .ok (.iload_n 1, 1) := by decide +kernel
theorem d_Spn_fillFromLast_57 : decode prog_10_method_7_code 57 = .ok (.aload_n 0, 1) := by decide +kernel
theorem d_Spn_fillFromLast_58 : decode prog_10_method_7_code 58 = .ok (.getfield 18, 3) := by decide +kernel
theorem d_Spn_fillFromLast_61 : decode prog_10_method_7_code 61 = .ok (.aload_n 0, 1) := by decide +kernel
theorem d_Spn_fillFromLast_62 : decode prog_10_method_7_code 62 = .ok (.getfield 21, 3) := by decide +kernel
theorem d_Spn_fillFromLast_65 : decode prog_10_method_7_code 65 = .ok (.iaload, 1) := by decide +kernel
theorem d_Spn_fillFromLast_66 : decode prog_10_method_7_code 66 = .ok (.iastore, 1) := by decide +kernel
theorem d_Spn_fillFromLast_67 : decode prog_10_method_7_code 67 = .ok (.return_, 1) := by decide +kernel
theorem d_Spn_least_0 : decode prog_10_method_8_code 0 = .ok (.sipush (600), 3) := by decide +kernel
theorem d_Spn_least_3 : decode prog_10_method_8_code 3 = .ok (.istore_n 3, 1) := by decide +kernel
theorem d_Spn_least_4 : decode prog_10_method_8_code 4 = .ok (.iconst 0, 1) := by decide +kernel
theorem d_Spn_least_5 : decode prog_10_method_8_code 5 = .ok (.istore 4, 2) := by decide +kernel
theorem d_Spn_least_7 : decode prog_10_method_8_code 7 = .ok (.iload 4, 2) := by decide +kernel
theorem d_Spn_least_9 : decode prog_10_method_8_code 9 = .ok (.aload_n 0, 1) := by decide +kernel
theorem d_Spn_least_10 : decode prog_10_method_8_code 10 = .ok (.getfield 21, 3) := by decide +kernel
theorem d_Spn_least_13 : decode prog_10_method_8_code 13 = .ok (.if_icmp .ge (50), 3) := by decide +kernel
theorem d_Spn_least_16 : decode prog_10_method_8_code 16 = .ok (.aload_n 0, 1) := by decide +kernel
theorem d_Spn_least_17 : decode prog_10_method_8_code 17 = .ok (.getfield 9, 3) := by decide +kernel
theorem d_Spn_least_20 : decode prog_10_method_8_code 20 = .ok (.iload 4, 2) := by decide +kernel
theorem d_Spn_least_22 : decode prog_10_method_8_code 22 = .ok (.iaload, 1) := by decide +kernel
theorem d_Spn_least_23 : decode prog_10_method_8_code 23 = .ok (.iload_n 2, 1) := by decide +kernel
theorem d_Spn_least_24 : decode prog_10_method_8_code 24 = .ok (.if_icmp .gt (33), 3) := by decide +kernel
theorem d_Spn_least_27 : decode prog_10_method_8_code 27 = .ok (.aload_n 0, 1) := by decide +kernel
theorem d_Spn_least_28 : decode prog_10_method_8_code 28 = .ok (.getfield 15, 3) := by decide +kernel
theorem d_Spn_least_31 : decode prog_10_method_8_code 31 = .ok (.iload 4, 2) := by decide +kernel
theorem d_Spn_least_33 : decode prog_10_method_8_code 33 = .ok (.iaload, 1) := by decide +kernel
theorem d_Spn_least_34 : decode prog_10_method_8_code 34 = .ok (.iload_n 1, 1) := by decide +kernel
theorem d_Spn_least_35 : decode prog_10_method_8_code 35 = .ok (.if_icmp .lt (22), 3) := by decide +kernel
theorem d_Spn_least_38 : decode prog_10_method_8_code 38 = .ok (.aload_n 0, 1) := by decide +kernel
theorem d_Spn_least_39 : decode prog_10_method_8_code 39 = .ok (.getfield 18, 3) := by decide +kernel
theorem d_Spn_least_42 : decode prog_10_method_8_code 42 = .ok (.iload 4, 2) := by decide +kernel
theorem d_Spn_least_44 : decode prog_10_method_8_code 44 = .ok (.iaload, 1) := by decide +kernel
theorem d_Spn_least_45 : decode prog_10_method_8_code 45 = .ok (.iload_n 3, 1) := by decide +kernel
theorem d_Spn_least_46 : decode prog_10_method_8_code 46 = .ok (.if_icmp .ge (11), 3) := by decide +kernel
theorem d_Spn_least_49 : decode prog_10_method_8_code 49 = .ok (.aload_n 0, 1) := by decide +kernel
theorem d_Spn_least_50 : decode prog_10_method_8_code 50 = .ok (.getfield 18, 3) := by decide +kernel
theorem d_Spn_least_53 : decode prog_10_method_8_code 53 = .ok (.iload 4, 2) := by decide +kernel
theorem d_Spn_least_55 : decode prog_10_method_8_code 55 = .ok (.iaload, 1) := by decide +kernel
theorem d_Spn_least_56 : decode prog_10_method_8_code 56 = .ok (.istore_n 3, 1) := by decide +kernel
theorem d_Spn_least_57 : decode prog_10_method_8_code 57 = .ok (.iinc 4 (1), 3) := by decide +kernel
theorem d_Spn_least_60 : decode prog_10_method_8_code 60 = .ok (.goto (-53), 3) := by decide +kernel
theorem d_Spn_least_63 : decode prog_10_method_8_code 63 = .ok (.iload_n 3, 1) := by decide +kernel
theorem d_Spn_least_64 : decode prog_10_method_8_code 64 = .ok (.ireturn, 1) := by decide +kernel
theorem d_Spn_greatest_0 : decode prog_10_method_9_code 0 = .ok (.iload_n 1, 1) := by decide +kernel
theorem d_Spn_greatest_1 : decode prog_10_method_9_code 1 = .ok (.iload_n 2, 1) := by decide +kernel
theorem d_Spn_greatest_2 : decode prog_10_method_9_code 2 = .ok (.if_icmp .le (5), 3) := by decide +kernel
theorem d_Spn_greatest_5 : decode prog_10_method_9_code 5 = .ok (.iconst 0, 1) := by decide +kernel
theorem d_Spn_greatest_6 : decode prog_10_method_9_code 6 = .ok (.ireturn, 1) := by decide +kernel
theorem d_Spn_greatest_7 : decode prog_10_method_9_code 7 = .ok (.iconst 0, 1) := by decide +kernel
theorem d_Spn_greatest_8 : decode prog_10_method_9_code 8 = .ok (.istore_n 3, 1) := by decide +kernel
theorem d_Spn_greatest_9 : decode prog_10_method_9_code 9 = .ok (.iconst 0, 1) := by decide +kernel
theorem d_Spn_greatest_10 : decode prog_10_method_9_code 10 = .ok (.istore 4, 2) := by decide +kernel
theorem d_Spn_greatest_12 : decode prog_10_method_9_code 12 = .ok (.iload 4, 2) := by decide +kernel
theorem d_Spn_greatest_14 : decode prog_10_method_9_code 14 = .ok (.aload_n 0, 1) := by decide +kernel
theorem d_Spn_greatest_15 : decode prog_10_method_9_code 15 = .ok (.getfield 21, 3) := by decide +kernel
theorem d_Spn_greatest_18 : decode prog_10_method_9_code 18 = .ok (.if_icmp .ge (50), 3) := by decide +kernel
theorem d_Spn_greatest_21 : decode prog_10_method_9_code 21 = .ok (.aload_n 0, 1) := by decide +kernel
theorem d_Spn_greatest_22 : decode prog_10_method_9_code 22 = .ok (.getfield 9, 3) := by decide +kernel
theorem d_Spn_greatest_25 : decode prog_10_method_9_code 25 = .ok (.iload 4, 2) := by decide +kernel
theorem d_Spn_greatest_27 : decode prog_10_method_9_code 27 = .ok (.iaload, 1) := by decide +kernel
theorem d_Spn_greatest_28 : decode prog_10_method_9_code 28 = .ok (.iload_n 2, 1) := by decide +kernel
theorem d_Spn_greatest_29 : decode prog_10_method_9_code 29 = .ok (.if_icmp .gt (33), 3) := by decide +kernel
theorem d_Spn_greatest_32 : decode prog_10_method_9_code 32 = .ok (.aload_n 0, 1) := by decide +kernel
theorem d_Spn_greatest_33 : decode prog_10_method_9_code 33 = .ok (.getfield 15, 3) := by decide +kernel
theorem d_Spn_greatest_36 : decode prog_10_method_9_code 36 = .ok (.iload 4, 2) := by decide +kernel
theorem d_Spn_greatest_38 : decode prog_10_method_9_code 38 = .ok (.iaload, 1) := by decide +kernel
theorem d_Spn_greatest_39 : decode prog_10_method_9_code 39 = .ok (.iload_n 1, 1) := by decide +kernel
theorem d_Spn_greatest_40 : decode prog_10_method_9_code 40 = .ok (.if_icmp .lt (22), 3) := by decide +kernel
theorem d_Spn_greatest_43 : decode prog_10_method_9_code 43 = .ok (.aload_n 0, 1) := by decide +kernel
theorem d_Spn_greatest_44 : decode prog_10_method_9_code 44 = .ok (.getfield 18, 3) := by decide +kernel
theorem d_Spn_greatest_47 : decode prog_10_method_9_code 47 = .ok (.iload 4, 2) := by decide +kernel
theorem d_Spn_greatest_49 : decode prog_10_method_9_code 49 = .ok (.iaload, 1) := by decide +kernel
theorem d_Spn_greatest_50 : decode prog_10_method_9_code 50 = .ok (.iload_n 3, 1) := by decide +kernel
theorem d_Spn_greatest_51 : decode prog_10_method_9_code 51 = .ok (.if_icmp .le (11), 3) := by decide +kernel
theorem d_Spn_greatest_54 : decode prog_10_method_9_code 54 = .ok (.aload_n 0, 1) := by decide +kernel
theorem d_Spn_greatest_55 : decode prog_10_method_9_code 55 = .ok (.getfield 18, 3) := by decide +kernel
theorem d_Spn_greatest_58 : decode prog_10_method_9_code 58 = .ok (.iload 4, 2) := by decide +kernel
theorem d_Spn_greatest_60 : decode prog_10_method_9_code 60 = .ok (.iaload, 1) := by decide +kernel
theorem d_Spn_greatest_61 : decode prog_10_method_9_code 61 = .ok (.istore_n 3, 1) := by decide +kernel
theorem d_Spn_greatest_62 : decode prog_10_method_9_code 62 = .ok (.iinc 4 (1), 3) := by decide +kernel
theorem d_Spn_greatest_65 : decode prog_10_method_9_code 65 = .ok (.goto (-53), 3) := by decide +kernel
theorem d_Spn_greatest_68 : decode prog_10_method_9_code 68 = .ok (.iload_n 3, 1) := by decide +kernel
theorem d_Spn_greatest_69 : decode prog_10_method_9_code 69 = .ok (.ireturn, 1) := by decide +kernel
theorem d_Trk_init_0 : decode prog_11_method_1_code 0 = .ok (.aload_n 0, 1) := by decide +kernel
theorem d_Trk_init_1 : decode prog_11_method_1_code 1 = .ok (.invokespecial 3, 3) := by decide +kernel
theorem d_Trk_init_4 : decode prog_11_method_1_code 4 = .ok (.aload_n 0, 1) := by decide +kernel
theorem d_Trk_init_5 : decode prog_11_method_1_code 5 = .ok (.new 9, 3) := by decide +kernel
theorem d_Trk_init_8 : decode prog_11_method_1_code 8 = .ok (.dup, 1) := by decide +kernel
theorem d_Trk_init_9 : decode prog_11_method_1_code 9 = .ok (.invokespecial 11, 3) := by decide +kernel
theorem d_Trk_init_12 : decode prog_11_method_1_code 12 = .ok (.putfield 12, 3) := by decide +kernel
theorem d_Trk_init_15 : decode prog_11_method_1_code 15 = .ok (.aload_n 0, 1) := by decide +kernel
theorem d_Trk_init_16 : decode prog_11_method_1_code 16 = .ok (.new 9, 3) := by decide +kernel
theorem d_Trk_init_19 : decode prog_11_method_1_code 19 = .ok (.dup, 1) := by decide +kernel
theorem d_Trk_init_20 : decode prog_11_method_1_code 20 = .ok (.invokespecial 11, 3) := by decide +kernel
theorem d_Trk_init_23 : decode prog_11_method_1_code 23 = .ok (.putfield 18, 3) := by decide +kernel
theorem d_Trk_init_26 : decode prog_11_method_1_code 26 = .ok (.aload_n 0, 1) := by decide +kernel
theorem d_Trk_init_27 : decode prog_11_method_1_code 27 = .ok (.new 21, 3) := by decide +kernel
theorem d_Trk_init_30 : decode prog_11_method_1_code 30 = .ok (.dup, 1) := by decide +kernel
theorem d_Trk_init_31 : decode prog_11_method_1_code 31 = .ok (.invokespecial 23, 3) := by decide +kernel
theorem d_Trk_init_34 : decode prog_11_method_1_code 34 = .ok (.putfield 24, 3) := by decide +kernel
theorem d_Trk_init_37 : decode prog_11_method_1_code 37 = .ok (.aload_n 0, 1) := by decide +kernel
theorem d_Trk_init_38 : decode prog_11_method_1_code 38 = .ok (.new 28, 3) := by decide +kernel
theorem d_Trk_init_41 : decode prog_11_method_1_code 41 = .ok (.dup, 1) := by decide +kernel
theorem d_Trk_init_42 : decode prog_11_method_1_code 42 = .ok (.invokespecial 30, 3) := by decide +kernel
theorem d_Trk_init_45 : decode prog_11_method_1_code 45 = .ok (.putfield 31, 3) := by decide +kernel
theorem d_Trk_init_48 : decode prog_11_method_1_code 48 = .ok (.aload_n 0, 1) := by decide +kernel
theorem d_Trk_init_49 : decode prog_11_method_1_code 49 = .ok (.iconst 2, 1) := by decide +kernel
theorem d_Trk_init_50 : decode prog_11_method_1_code 50 = .ok (.putfield 35, 3) := by decide +kernel
theorem d_Trk_init_53 : decode prog_11_method_1_code 53 = .ok (.return_, 1) := by decide +kernel
theorem d_Trk_forget_0 : decode prog_11_method_2_code 0 = .ok (.aload_n 0, 1) := by decide +kernel
theorem d_Trk_forget_1 : decode prog_11_method_2_code 1 = .ok (.iconst 0, 1) := by decide +kernel
theorem d_Trk_forget_2 : decode prog_11_method_2_code 2 = .ok (.putfield 39, 3) := by decide +kernel
theorem d_Trk_forget_5 : decode prog_11_method_2_code 5 = .ok (.aload_n 0, 1) := by decide +kernel
theorem d_Trk_forget_6 : decode prog_11_method_2_code 6 = .ok (.getfield 12, 3) := by decide +kernel
theorem d_Trk_forget_9 : decode prog_11_method_2_code 9 = .ok (.invokevirtual 43, 3) := by decide +kernel
theorem d_Trk_forget_12 : decode prog_11_method_2_code 12 = .ok (.aload_n 0, 1) := by decide +kernel
theorem d_Trk_forget_13 : decode prog_11_method_2_code 13 = .ok (.getfield 18, 3) := by decide +kernel
theorem d_Trk_forget_16 : decode prog_11_method_2_code 16 = .ok (.invokevirtual 43, 3) := by decide +kernel
theorem d_Trk_forget_19 : decode prog_11_method_2_code 19 = .ok (.aload_n 0, 1) := by decide +kernel
theorem d_Trk_forget_20 : decode prog_11_method_2_code 20 = .ok (.getfield 31, 3) := by decide +kernel
theorem d_Trk_forget_23 : decode prog_11_method_2_code 23 = .ok (.invokevirtual 46, 3) := by decide +kernel
theorem d_Trk_forget_26 : decode prog_11_method_2_code 26 = .ok (.return_, 1) := by decide +kernel
theorem d_Trk_leastLimit_0 : decode prog_11_method_3_code 0 = .ok (.aload_n 0, 1) := by decide +kernel
theorem d_Trk_leastLimit_1 : decode prog_11_method_3_code 1 = .ok (.getfield 12, 3) := by decide +kernel
theorem d_Trk_leastLimit_4 : decode prog_11_method_3_code 4 = .ok (.iload_n 1, 1) := by decide +kernel
theorem d_Trk_leastLimit_5 : decode prog_11_method_3_code 5 = .ok (.iload_n 2, 1) := by decide +kernel
theorem d_Trk_leastLimit_6 : decode prog_11_method_3_code 6 = .ok (.invokevirtual 47, 3) := by decide +kernel
theorem d_Trk_leastLimit_9 : decode prog_11_method_3_code 9 = .ok (.aload_n 0, 1) := by decide +kernel
theorem d_Trk_leastLimit_10 : decode prog_11_method_3_code 10 = .ok (.getfield 24, 3) := by decide +kernel
theorem d_Trk_leastLimit_13 : decode prog_11_method_3_code 13 = .ok (.getfield 51, 3) := by decide +kernel
theorem d_Trk_leastLimit_16 : decode prog_11_method_3_code 16 = .ok (.iload_n 1, 1) := by decide +kernel
theorem d_Trk_leastLimit_17 : decode prog_11_method_3_code 17 = .ok (.iload_n 2, 1) := by decide +kernel
theorem d_Trk_leastLimit_18 : decode prog_11_method_3_code 18 = .ok (.invokevirtual 47, 3) := by decide +kernel
theorem d_Trk_leastLimit_21 : decode prog_11_method_3_code 21 = .ok (.invokestatic 54, 3) := by decide +kernel
theorem d_Trk_leastLimit_24 : decode prog_11_method_3_code 24 = .ok (.ireturn, 1) := by decide +kernel
theorem d_Trk_put_0 : decode prog_11_method_4_code 0 = .ok (.aload_n 1, 1) := by decide +kernel
theorem d_Trk_put_1 : decode prog_11_method_4_code 1 = .ok (.getfield 59, 3) := by decide +kernel
theorem d_Trk_put_4 : decode prog_11_method_4_code 4 = .ok (.iconst 5, 1) := by decide +kernel
theorem d_Trk_put_5 : decode prog_11_method_4_code 5 = .ok (.baload, 1) := by decide +kernel
theorem d_Trk_put_6 : decode prog_11_method_4_code 6 = .ok (.ifCond .eq (14), 3) := by decide +kernel
theorem d_Trk_put_9 : decode prog_11_method_4_code 9 = .ok (.aload_n 0, 1) := by decide +kernel
theorem d_Trk_put_10 : decode prog_11_method_4_code 10 = .ok (.getfield 24, 3) := by decide +kernel
theorem d_Trk_put_13 : decode prog_11_method_4_code 13 = .ok (.aload_n 1, 1) := by decide +kernel
theorem d_Trk_put_14 : decode prog_11_method_4_code 14 = .ok (.getfield 65, 3) := by decide +kernel
theorem d_Trk_put_17 : decode prog_11_method_4_code 17 = .ok (.invokevirtual 68, 3) := by decide +kernel
theorem d_Trk_put_20 : decode prog_11_method_4_code 20 = .ok (.aload_n 1, 1) := by decide +kernel
theorem d_Trk_put_21 : decode prog_11_method_4_code 21 = .ok (.getfield 59, 3) := by decide +kernel
theorem d_Trk_put_24 : decode prog_11_method_4_code 24 = .ok (.iconst 4, 1) := by decide +kernel
theorem d_Trk_put_25 : decode prog_11_method_4_code 25 = .ok (.baload, 1) := by decide +kernel
theorem d_Trk_put_26 : decode prog_11_method_4_code 26 = .ok (.ifCond .eq (26), 3) := by decide +kernel
theorem d_Trk_put_29 : decode prog_11_method_4_code 29 = .ok (.aload_n 0, 1) := by decide +kernel
theorem d_Trk_put_30 : decode prog_11_method_4_code 30 = .ok (.getfield 24, 3) := by decide +kernel
theorem d_Trk_put_33 : decode prog_11_method_4_code 33 = .ok (.aload_n 1, 1) := by decide +kernel
theorem d_Trk_put_34 : decode prog_11_method_4_code 34 = .ok (.getfield 72, 3) := by decide +kernel
theorem d_Trk_put_37 : decode prog_11_method_4_code 37 = .ok (.aload_n 1, 1) := by decide +kernel
theorem d_Trk_put_38 : decode prog_11_method_4_code 38 = .ok (.getfield 75, 3) := by decide +kernel
theorem d_Trk_put_41 : decode prog_11_method_4_code 41 = .ok (.aload_n 1, 1) := by decide +kernel
theorem d_Trk_put_42 : decode prog_11_method_4_code 42 = .ok (.getfield 78, 3) := by decide +kernel
theorem d_Trk_put_45 : decode prog_11_method_4_code 45 = .ok (.aload_n 1, 1) := by decide +kernel
theorem d_Trk_put_46 : decode prog_11_method_4_code 46 = .ok (.getfield 81, 3) := by decide +kernel
theorem d_Trk_put_49 : decode prog_11_method_4_code 49 = .ok (.invokevirtual 84, 3) := by decide +kernel
theorem d_Trk_put_52 : decode prog_11_method_4_code 52 = .ok (.aload_n 1, 1) := by decide +kernel
theorem d_Trk_put_53 : decode prog_11_method_4_code 53 = .ok (.getfield 59, 3) := by decide +kernel
theorem d_Trk_put_56 : decode prog_11_method_4_code 56 = .ok (.iconst 1, 1) := by decide +kernel
theorem d_Trk_put_57 : decode prog_11_method_4_code 57 = .ok (.baload, 1) := by decide +kernel
theorem d_Trk_put_58 : decode prog_11_method_4_code 58 = .ok (.ifCond .eq (32), 3) := by decide +kernel
theorem d_Trk_put_61 : decode prog_11_method_4_code 61 = .ok (.aload_n 0, 1) := by decide +kernel
theorem d_Trk_put_62 : decode prog_11_method_4_code 62 = .ok (.iconst 1, 1) := by decide +kernel
theorem d_Trk_put_63 : decode prog_11_method_4_code 63 = .ok (.putfield 39, 3) := by decide +kernel
theorem d_Trk_put_66 : decode prog_11_method_4_code 66 = .ok (.aload_n 0, 1) := by decide +kernel
theorem d_Trk_put_67 : decode prog_11_method_4_code 67 = .ok (.aload_n 1, 1) := by decide +kernel
theorem d_Trk_put_68 : decode prog_11_method_4_code 68 = .ok (.getfield 88, 3) := by decide +kernel
theorem d_Trk_put_71 : decode prog_11_method_4_code 71 = .ok (.putfield 91, 3) := by decide +kernel
theorem d_Trk_put_74 : decode prog_11_method_4_code 74 = .ok (.aload_n 0, 1) := by decide +kernel
theorem d_Trk_put_75 : decode prog_11_method_4_code 75 = .ok (.aload_n 1, 1) := by decide +kernel
theorem d_Trk_put_76 : decode prog_11_method_4_code 76 = .ok (.getfield 92, 3) := by decide +kernel
theorem d_Trk_put_79 : decode prog_11_method_4_code 79 = .ok (.putfield 95, 3) := by decide +kernel
theorem d_Trk_put_82 : decode prog_11_method_4_code 82 = .ok (.aload_n 0, 1) := by decide +kernel
theorem d_Trk_put_83 : decode prog_11_method_4_code 83 = .ok (.aload_n 1, 1) := by decide +kernel
theorem d_Trk_put_84 : decode prog_11_method_4_code 84 = .ok (.getfield 96, 3) := by decide +kernel
theorem d_Trk_put_87 : decode prog_11_method_4_code 87 = .ok (.putfield 35, 3) := by decide +kernel
theorem d_Trk_put_90 : decode prog_11_method_4_code 90 = .ok (.aload_n 1, 1) := by decide +kernel
theorem d_Trk_put_91 : decode prog_11_method_4_code 91 = .ok (.getfield 59, 3) := by decide +kernel
theorem d_Trk_put_94 : decode prog_11_method_4_code 94 = .ok (.iconst 3, 1) := by decide +kernel
theorem d_Trk_put_95 : decode prog_11_method_4_code 95 = .ok (.baload, 1) := by decide +kernel
theorem d_Trk_put_96 : decode prog_11_method_4_code 96 = .ok (.ifCond .eq (14), 3) := by decide +kernel
theorem d_Trk_put_99 : decode prog_11_method_4_code 99 = .ok (.aload_n 0, 1) := by decide +kernel
theorem d_Trk_put_100 : decode prog_11_method_4_code 100 = .ok (.getfield 12, 3) := by decide +kernel
theorem d_Trk_put_103 : decode prog_11_method_4_code 103 = .ok (.aload_n 1, 1) := by decide +kernel
theorem d_Trk_put_104 : decode prog_11_method_4_code 104 = .ok (.getfield 97, 3) := by decide +kernel
theorem d_Trk_put_107 : decode prog_11_method_4_code 107 = .ok (.invokevirtual 98, 3) := by decide +kernel
theorem d_Trk_put_110 : decode prog_11_method_4_code 110 = .ok (.aload_n 1, 1) := by decide +kernel
theorem d_Trk_put_111 : decode prog_11_method_4_code 111 = .ok (.getfield 59, 3) := by decide +kernel
theorem d_Trk_put_114 : decode prog_11_method_4_code 114 = .ok (.iconst 2, 1) := by decide +kernel
theorem d_Trk_put_115 : decode prog_11_method_4_code 115 = .ok (.baload, 1) := by decide +kernel
theorem d_Trk_put_116 : decode prog_11_method_4_code 116 = .ok (.ifCond .eq (14), 3) := by decide +kernel
theorem d_Trk_put_119 : decode prog_11_method_4_code 119 = .ok (.aload_n 0, 1) := by decide +kernel
theorem d_Trk_put_120 : decode prog_11_method_4_code 120 = .ok (.getfield 18, 3) := by decide +kernel
theorem d_Trk_put_123 : decode prog_11_method_4_code 123 = .ok (.aload_n 1, 1) := by decide +kernel
theorem d_Trk_put_124 : decode prog_11_method_4_code 124 = .ok (.getfield 102, 3) := by decide +kernel
theorem d_Trk_put_127 : decode prog_11_method_4_code 127 = .ok (.invokevirtual 98, 3) := by decide +kernel
theorem d_Trk_put_130 : decode prog_11_method_4_code 130 = .ok (.aload_n 1, 1) := by decide +kernel
theorem d_Trk_put_131 : decode prog_11_method_4_code 131 = .ok (.getfield 59, 3) := by decide +kernel
theorem d_Trk_put_134 : decode prog_11_method_4_code 134 = .ok (.iconst 0, 1) := by decide +kernel
theorem d_Trk_put_135 : decode prog_11_method_4_code 135 = .ok (.baload, 1) := by decide +kernel
theorem d_Trk_put_136 : decode prog_11_method_4_code 136 = .ok (.ifCond .eq (23), 3) := by decide +kernel
theorem d_Trk_put_139 : decode prog_11_method_4_code 139 = .ok (.aload_n 0, 1) := by decide +kernel
theorem d_Trk_put_140 : decode prog_11_method_4_code 140 = .ok (.getfield 31, 3) := by decide +kernel
theorem d_Trk_put_143 : decode prog_11_method_4_code 143 = .ok (.aload_n 1, 1) := by decide +kernel
theorem d_Trk_put_144 : decode prog_11_method_4_code 144 = .ok (.getfield 103, 3) := by decide +kernel
theorem d_Trk_put_147 : decode prog_11_method_4_code 147 = .ok (.invokevirtual 104, 3) := by decide +kernel
theorem d_Trk_put_150 : decode prog_11_method_4_code 150 = .ok (.aload_n 0, 1) := by decide +kernel
theorem d_Trk_put_151 : decode prog_11_method_4_code 151 = .ok (.getfield 31, 3) := by decide +kernel
theorem d_Trk_put_154 : decode prog_11_method_4_code 154 = .ok (.iload_n 2, 1) := by decide +kernel
theorem d_Trk_put_155 : decode prog_11_method_4_code 155 = .ok (.invokevirtual 107, 3) := by decide +kernel
theorem d_Trk_put_158 : decode prog_11_method_4_code 158 = .ok (.pop, 1) := by decide +kernel
theorem d_Trk_put_159 : decode prog_11_method_4_code 159 = .ok (.return_, 1) := by decide +kernel
theorem d_Law_cell_0 : decode method_2_code 0 = .ok (.iload_n 1, 1) := by decide +kernel
theorem d_Law_cell_1 : decode method_2_code 1 = .ok (.aload_n 0, 1) := by decide +kernel
theorem d_Law_cell_2 : decode method_2_code 2 = .ok (.arraylength, 1) := by decide +kernel
theorem d_Law_cell_3 : decode method_2_code 3 = .ok (.if_icmp .ge (9), 3) := by decide +kernel
theorem d_Law_cell_6 : decode method_2_code 6 = .ok (.aload_n 0, 1) := by decide +kernel
theorem d_Law_cell_7 : decode method_2_code 7 = .ok (.iload_n 1, 1) := by decide +kernel
theorem d_Law_cell_8 : decode method_2_code 8 = .ok (.iaload, 1) := by decide +kernel
theorem d_Law_cell_9 : decode method_2_code 9 = .ok (.goto (4), 3) := by decide +kernel
theorem d_Law_cell_12 : decode method_2_code 12 = .ok (.iconst 0, 1) := by decide +kernel
theorem d_Law_cell_13 : decode method_2_code 13 = .ok (.ireturn, 1) := by decide +kernel
end
section
theorem d_Law_law_0 : decode code 0 = .ok (.new 7, 3) := by decide +kernel
theorem d_Law_law_3 : decode code 3 = .ok (.dup, 1) := by decide +kernel
theorem d_Law_law_4 : decode code 4 = .ok (.aload_n 0, 1) := by decide +kernel
theorem d_Law_law_5 : decode code 5 = .ok (.iconst 0, 1) := by decide +kernel
theorem d_Law_law_6 : decode code 6 = .ok (.invokestatic 9, 3) := by decide +kernel
theorem d_Law_law_9 : decode code 9 = .ok (.aload_n 0, 1) := by decide +kernel
theorem d_Law_law_10 : decode code 10 = .ok (.iconst 1, 1) := by decide +kernel
theorem d_Law_law_11 : decode code 11 = .ok (.invokestatic 9, 3) := by decide +kernel
theorem d_Law_law_14 : decode code 14 = .ok (.aload_n 0, 1) := by decide +kernel
theorem d_Law_law_15 : decode code 15 = .ok (.iconst 2, 1) := by decide +kernel
theorem d_Law_law_16 : decode code 16 = .ok (.invokestatic 9, 3) := by decide +kernel
theorem d_Law_law_19 : decode code 19 = .ok (.invokespecial 15, 3) := by decide +kernel
theorem d_Law_law_22 : decode code 22 = .ok (.astore_n 1, 1) := by decide +kernel
theorem d_Law_law_23 : decode code 23 = .ok (.new 18, 3) := by decide +kernel
theorem d_Law_law_26 : decode code 26 = .ok (.dup, 1) := by decide +kernel
theorem d_Law_law_27 : decode code 27 = .ok (.aload_n 0, 1) := by decide +kernel
theorem d_Law_law_28 : decode code 28 = .ok (.iconst 0, 1) := by decide +kernel
theorem d_Law_law_29 : decode code 29 = .ok (.invokestatic 9, 3) := by decide +kernel
theorem d_Law_law_32 : decode code 32 = .ok (.aload_n 0, 1) := by decide +kernel
theorem d_Law_law_33 : decode code 33 = .ok (.iconst 1, 1) := by decide +kernel
theorem d_Law_law_34 : decode code 34 = .ok (.invokestatic 9, 3) := by decide +kernel
theorem d_Law_law_37 : decode code 37 = .ok (.aload_n 0, 1) := by decide +kernel
theorem d_Law_law_38 : decode code 38 = .ok (.iconst 2, 1) := by decide +kernel
theorem d_Law_law_39 : decode code 39 = .ok (.invokestatic 9, 3) := by decide +kernel
theorem d_Law_law_42 : decode code 42 = .ok (.invokespecial 20, 3) := by decide +kernel
theorem d_Law_law_45 : decode code 45 = .ok (.astore_n 2, 1) := by decide +kernel
theorem d_Law_law_46 : decode code 46 = .ok (.iconst 3, 1) := by decide +kernel
theorem d_Law_law_47 : decode code 47 = .ok (.istore_n 3, 1) := by decide +kernel
theorem d_Law_law_48 : decode code 48 = .ok (.iload_n 3, 1) := by decide +kernel
theorem d_Law_law_49 : decode code 49 = .ok (.aload_n 0, 1) := by decide +kernel
theorem d_Law_law_50 : decode code 50 = .ok (.arraylength, 1) := by decide +kernel
theorem d_Law_law_51 : decode code 51 = .ok (.iconst 4, 1) := by decide +kernel
theorem d_Law_law_52 : decode code 52 = .ok (.isub, 1) := by decide +kernel
theorem d_Law_law_53 : decode code 53 = .ok (.if_icmp .gt (363), 3) := by decide +kernel
theorem d_Law_law_56 : decode code 56 = .ok (.aload_n 0, 1) := by decide +kernel
theorem d_Law_law_57 : decode code 57 = .ok (.iload_n 3, 1) := by decide +kernel
theorem d_Law_law_58 : decode code 58 = .ok (.iaload, 1) := by decide +kernel
theorem d_Law_law_59 : decode code 59 = .ok (.bipush (15), 2) := by decide +kernel
theorem d_Law_law_61 : decode code 61 = .ok (.iand, 1) := by decide +kernel
theorem d_Law_law_62 : decode code 62 = .ok (.tableswitch (348) (0) (11) #[62, 95, 108, 131, 154, 177, 190, 213, 236, 259, 302, 325], 62) := by decide +kernel
theorem d_Law_law_124 : decode code 124 = .ok (.aload_n 1, 1) := by decide +kernel
theorem d_Law_law_125 : decode code 125 = .ok (.aload_n 0, 1) := by decide +kernel
theorem d_Law_law_126 : decode code 126 = .ok (.iload_n 3, 1) := by decide +kernel
theorem d_Law_law_127 : decode code 127 = .ok (.iconst 1, 1) := by decide +kernel
theorem d_Law_law_128 : decode code 128 = .ok (.iadd, 1) := by decide +kernel
theorem d_Law_law_129 : decode code 129 = .ok (.iaload, 1) := by decide +kernel
theorem d_Law_law_130 : decode code 130 = .ok (.aload_n 0, 1) := by decide +kernel
theorem d_Law_law_131 : decode code 131 = .ok (.iload_n 3, 1) := by decide +kernel
theorem d_Law_law_132 : decode code 132 = .ok (.iconst 2, 1) := by decide +kernel
theorem d_Law_law_133 : decode code 133 = .ok (.iadd, 1) := by decide +kernel
theorem d_Law_law_134 : decode code 134 = .ok (.iaload, 1) := by decide +kernel
theorem d_Law_law_135 : decode code 135 = .ok (.invokevirtual 21, 3) := by decide +kernel
theorem d_Law_law_138 : decode code 138 = .ok (.aload_n 2, 1) := by decide +kernel
theorem d_Law_law_139 : decode code 139 = .ok (.aload_n 0, 1) := by decide +kernel
theorem d_Law_law_140 : decode code 140 = .ok (.iload_n 3, 1) := by decide +kernel
theorem d_Law_law_141 : decode code 141 = .ok (.iconst 1, 1) := by decide +kernel
theorem d_Law_law_142 : decode code 142 = .ok (.iadd, 1) := by decide +kernel
theorem d_Law_law_143 : decode code 143 = .ok (.iaload, 1) := by decide +kernel
theorem d_Law_law_144 : decode code 144 = .ok (.aload_n 0, 1) := by decide +kernel
theorem d_Law_law_145 : decode code 145 = .ok (.iload_n 3, 1) := by decide +kernel
theorem d_Law_law_146 : decode code 146 = .ok (.iconst 2, 1) := by decide +kernel
theorem d_Law_law_147 : decode code 147 = .ok (.iadd, 1) := by decide +kernel
theorem d_Law_law_148 : decode code 148 = .ok (.iaload, 1) := by decide +kernel
theorem d_Law_law_149 : decode code 149 = .ok (.invokevirtual 25, 3) := by decide +kernel
theorem d_Law_law_152 : decode code 152 = .ok (.if_icmp .eq (258), 3) := by decide +kernel
theorem d_Law_law_155 : decode code 155 = .ok (.iconst 0, 1) := by decide +kernel
theorem d_Law_law_156 : decode code 156 = .ok (.ireturn, 1) := by decide +kernel
theorem d_Law_law_157 : decode code 157 = .ok (.aload_n 1, 1) := by decide +kernel
theorem d_Law_law_158 : decode code 158 = .ok (.invokevirtual 26, 3) := by decide +kernel
theorem d_Law_law_161 : decode code 161 = .ok (.aload_n 2, 1) := by decide +kernel
theorem d_Law_law_162 : decode code 162 = .ok (.invokevirtual 30, 3) := by decide +kernel
theorem d_Law_law_165 : decode code 165 = .ok (.if_icmp .eq (245), 3) := by decide +kernel
theorem d_Law_law_168 : decode code 168 = .ok (.iconst 0, 1) := by decide +kernel
theorem d_Law_law_169 : decode code 169 = .ok (.ireturn, 1) := by decide +kernel
theorem d_Law_law_170 : decode code 170 = .ok (.aload_n 1, 1) := by decide +kernel
theorem d_Law_law_171 : decode code 171 = .ok (.aload_n 0, 1) := by decide +kernel
theorem d_Law_law_172 : decode code 172 = .ok (.iload_n 3, 1) := by decide +kernel
theorem d_Law_law_173 : decode code 173 = .ok (.iconst 1, 1) := by decide +kernel
theorem d_Law_law_174 : decode code 174 = .ok (.iadd, 1) := by decide +kernel
theorem d_Law_law_175 : decode code 175 = .ok (.iaload, 1) := by decide +kernel
theorem d_Law_law_176 : decode code 176 = .ok (.invokevirtual 31, 3) := by decide +kernel
theorem d_Law_law_179 : decode code 179 = .ok (.aload_n 2, 1) := by decide +kernel
theorem d_Law_law_180 : decode code 180 = .ok (.aload_n 0, 1) := by decide +kernel
theorem d_Law_law_181 : decode code 181 = .ok (.iload_n 3, 1) := by decide +kernel
theorem d_Law_law_182 : decode code 182 = .ok (.iconst 1, 1) := by decide +kernel
theorem d_Law_law_183 : decode code 183 = .ok (.iadd, 1) := by decide +kernel
theorem d_Law_law_184 : decode code 184 = .ok (.iaload, 1) := by decide +kernel
theorem d_Law_law_185 : decode code 185 = .ok (.invokevirtual 35, 3) := by decide +kernel
theorem d_Law_law_188 : decode code 188 = .ok (.if_icmp .eq (222), 3) := by decide +kernel
theorem d_Law_law_191 : decode code 191 = .ok (.iconst 0, 1) := by decide +kernel
theorem d_Law_law_192 : decode code 192 = .ok (.ireturn, 1) := by decide +kernel
theorem d_Law_law_193 : decode code 193 = .ok (.aload_n 1, 1) := by decide +kernel
theorem d_Law_law_194 : decode code 194 = .ok (.aload_n 0, 1) := by decide +kernel
theorem d_Law_law_195 : decode code 195 = .ok (.iload_n 3, 1) := by decide +kernel
theorem d_Law_law_196 : decode code 196 = .ok (.iconst 1, 1) := by decide +kernel
theorem d_Law_law_197 : decode code 197 = .ok (.iadd, 1) := by decide +kernel
theorem d_Law_law_198 : decode code 198 = .ok (.iaload, 1) := by decide +kernel
theorem d_Law_law_199 : decode code 199 = .ok (.invokevirtual 36, 3) := by decide +kernel
theorem d_Law_law_202 : decode code 202 = .ok (.aload_n 2, 1) := by decide +kernel
theorem d_Law_law_203 : decode code 203 = .ok (.aload_n 0, 1) := by decide +kernel
theorem d_Law_law_204 : decode code 204 = .ok (.iload_n 3, 1) := by decide +kernel
theorem d_Law_law_205 : decode code 205 = .ok (.iconst 1, 1) := by decide +kernel
theorem d_Law_law_206 : decode code 206 = .ok (.iadd, 1) := by decide +kernel
theorem d_Law_law_207 : decode code 207 = .ok (.iaload, 1) := by decide +kernel
theorem d_Law_law_208 : decode code 208 = .ok (.invokevirtual 40, 3) := by decide +kernel
theorem d_Law_law_211 : decode code 211 = .ok (.if_icmp .eq (199), 3) := by decide +kernel
theorem d_Law_law_214 : decode code 214 = .ok (.iconst 0, 1) := by decide +kernel
theorem d_Law_law_215 : decode code 215 = .ok (.ireturn, 1) := by decide +kernel
theorem d_Law_law_216 : decode code 216 = .ok (.aload_n 1, 1) := by decide +kernel
theorem d_Law_law_217 : decode code 217 = .ok (.aload_n 0, 1) := by decide +kernel
theorem d_Law_law_218 : decode code 218 = .ok (.iload_n 3, 1) := by decide +kernel
theorem d_Law_law_219 : decode code 219 = .ok (.iconst 1, 1) := by decide +kernel
theorem d_Law_law_220 : decode code 220 = .ok (.iadd, 1) := by decide +kernel
theorem d_Law_law_221 : decode code 221 = .ok (.iaload, 1) := by decide +kernel
theorem d_Law_law_222 : decode code 222 = .ok (.invokevirtual 41, 3) := by decide +kernel
theorem d_Law_law_225 : decode code 225 = .ok (.aload_n 2, 1) := by decide +kernel
theorem d_Law_law_226 : decode code 226 = .ok (.aload_n 0, 1) := by decide +kernel
theorem d_Law_law_227 : decode code 227 = .ok (.iload_n 3, 1) := by decide +kernel
theorem d_Law_law_228 : decode code 228 = .ok (.iconst 1, 1) := by decide +kernel
theorem d_Law_law_229 : decode code 229 = .ok (.iadd, 1) := by decide +kernel
theorem d_Law_law_230 : decode code 230 = .ok (.iaload, 1) := by decide +kernel
theorem d_Law_law_231 : decode code 231 = .ok (.invokevirtual 44, 3) := by decide +kernel
theorem d_Law_law_234 : decode code 234 = .ok (.if_icmp .eq (176), 3) := by decide +kernel
theorem d_Law_law_237 : decode code 237 = .ok (.iconst 0, 1) := by decide +kernel
theorem d_Law_law_238 : decode code 238 = .ok (.ireturn, 1) := by decide +kernel
theorem d_Law_law_239 : decode code 239 = .ok (.aload_n 1, 1) := by decide +kernel
theorem d_Law_law_240 : decode code 240 = .ok (.invokevirtual 45, 3) := by decide +kernel
theorem d_Law_law_243 : decode code 243 = .ok (.aload_n 2, 1) := by decide +kernel
theorem d_Law_law_244 : decode code 244 = .ok (.invokevirtual 48, 3) := by decide +kernel
theorem d_Law_law_247 : decode code 247 = .ok (.if_icmp .eq (163), 3) := by decide +kernel
theorem d_Law_law_250 : decode code 250 = .ok (.iconst 0, 1) := by decide +kernel
theorem d_Law_law_251 : decode code 251 = .ok (.ireturn, 1) := by decide +kernel
theorem d_Law_law_252 : decode code 252 = .ok (.aload_n 1, 1) := by decide +kernel
theorem d_Law_law_253 : decode code 253 = .ok (.aload_n 0, 1) := by decide +kernel
theorem d_Law_law_254 : decode code 254 = .ok (.iload_n 3, 1) := by decide +kernel
theorem d_Law_law_255 : decode code 255 = .ok (.iconst 1, 1) := by decide +kernel
theorem d_Law_law_256 : decode code 256 = .ok (.iadd, 1) := by decide +kernel
theorem d_Law_law_257 : decode code 257 = .ok (.iaload, 1) := by decide +kernel
theorem d_Law_law_258 : decode code 258 = .ok (.invokevirtual 49, 3) := by decide +kernel
theorem d_Law_law_261 : decode code 261 = .ok (.aload_n 2, 1) := by decide +kernel
theorem d_Law_law_262 : decode code 262 = .ok (.aload_n 0, 1) := by decide +kernel
theorem d_Law_law_263 : decode code 263 = .ok (.iload_n 3, 1) := by decide +kernel
theorem d_Law_law_264 : decode code 264 = .ok (.iconst 1, 1) := by decide +kernel
theorem d_Law_law_265 : decode code 265 = .ok (.iadd, 1) := by decide +kernel
theorem d_Law_law_266 : decode code 266 = .ok (.iaload, 1) := by decide +kernel
theorem d_Law_law_267 : decode code 267 = .ok (.invokevirtual 52, 3) := by decide +kernel
theorem d_Law_law_270 : decode code 270 = .ok (.if_icmp .eq (140), 3) := by decide +kernel
theorem d_Law_law_273 : decode code 273 = .ok (.iconst 0, 1) := by decide +kernel
theorem d_Law_law_274 : decode code 274 = .ok (.ireturn, 1) := by decide +kernel
theorem d_Law_law_275 : decode code 275 = .ok (.aload_n 1, 1) := by decide +kernel
theorem d_Law_law_276 : decode code 276 = .ok (.aload_n 0, 1) := by decide +kernel
theorem d_Law_law_277 : decode code 277 = .ok (.iload_n 3, 1) := by decide +kernel
theorem d_Law_law_278 : decode code 278 = .ok (.iconst 1, 1) := by decide +kernel
theorem d_Law_law_279 : decode code 279 = .ok (.iadd, 1) := by decide +kernel
theorem d_Law_law_280 : decode code 280 = .ok (.iaload, 1) := by decide +kernel
theorem d_Law_law_281 : decode code 281 = .ok (.invokevirtual 53, 3) := by decide +kernel
theorem d_Law_law_284 : decode code 284 = .ok (.aload_n 2, 1) := by decide +kernel
theorem d_Law_law_285 : decode code 285 = .ok (.aload_n 0, 1) := by decide +kernel
theorem d_Law_law_286 : decode code 286 = .ok (.iload_n 3, 1) := by decide +kernel
theorem d_Law_law_287 : decode code 287 = .ok (.iconst 1, 1) := by decide +kernel
theorem d_Law_law_288 : decode code 288 = .ok (.iadd, 1) := by decide +kernel
theorem d_Law_law_289 : decode code 289 = .ok (.iaload, 1) := by decide +kernel
theorem d_Law_law_290 : decode code 290 = .ok (.invokevirtual 56, 3) := by decide +kernel
theorem d_Law_law_293 : decode code 293 = .ok (.if_icmp .eq (117), 3) := by decide +kernel
theorem d_Law_law_296 : decode code 296 = .ok (.iconst 0, 1) := by decide +kernel
theorem d_Law_law_297 : decode code 297 = .ok (.ireturn, 1) := by decide +kernel
theorem d_Law_law_298 : decode code 298 = .ok (.aload_n 1, 1) := by decide +kernel
theorem d_Law_law_299 : decode code 299 = .ok (.aload_n 0, 1) := by decide +kernel
theorem d_Law_law_300 : decode code 300 = .ok (.iload_n 3, 1) := by decide +kernel
theorem d_Law_law_301 : decode code 301 = .ok (.iconst 1, 1) := by decide +kernel
theorem d_Law_law_302 : decode code 302 = .ok (.iadd, 1) := by decide +kernel
theorem d_Law_law_303 : decode code 303 = .ok (.iaload, 1) := by decide +kernel
theorem d_Law_law_304 : decode code 304 = .ok (.invokevirtual 57, 3) := by decide +kernel
theorem d_Law_law_307 : decode code 307 = .ok (.aload_n 2, 1) := by decide +kernel
theorem d_Law_law_308 : decode code 308 = .ok (.aload_n 0, 1) := by decide +kernel
theorem d_Law_law_309 : decode code 309 = .ok (.iload_n 3, 1) := by decide +kernel
theorem d_Law_law_310 : decode code 310 = .ok (.iconst 1, 1) := by decide +kernel
theorem d_Law_law_311 : decode code 311 = .ok (.iadd, 1) := by decide +kernel
theorem d_Law_law_312 : decode code 312 = .ok (.iaload, 1) := by decide +kernel
theorem d_Law_law_313 : decode code 313 = .ok (.invokevirtual 60, 3) := by decide +kernel
theorem d_Law_law_316 : decode code 316 = .ok (.if_icmp .eq (94), 3) := by decide +kernel
theorem d_Law_law_319 : decode code 319 = .ok (.iconst 0, 1) := by decide +kernel
theorem d_Law_law_320 : decode code 320 = .ok (.ireturn, 1) := by decide +kernel
theorem d_Law_law_321 : decode code 321 = .ok (.aload_n 1, 1) := by decide +kernel
theorem d_Law_law_322 : decode code 322 = .ok (.aload_n 0, 1) := by decide +kernel
theorem d_Law_law_323 : decode code 323 = .ok (.iload_n 3, 1) := by decide +kernel
theorem d_Law_law_324 : decode code 324 = .ok (.iconst 1, 1) := by decide +kernel
theorem d_Law_law_325 : decode code 325 = .ok (.iadd, 1) := by decide +kernel
theorem d_Law_law_326 : decode code 326 = .ok (.iaload, 1) := by decide +kernel
theorem d_Law_law_327 : decode code 327 = .ok (.aload_n 0, 1) := by decide +kernel
theorem d_Law_law_328 : decode code 328 = .ok (.iload_n 3, 1) := by decide +kernel
theorem d_Law_law_329 : decode code 329 = .ok (.iconst 2, 1) := by decide +kernel
theorem d_Law_law_330 : decode code 330 = .ok (.iadd, 1) := by decide +kernel
theorem d_Law_law_331 : decode code 331 = .ok (.iaload, 1) := by decide +kernel
theorem d_Law_law_332 : decode code 332 = .ok (.aload_n 0, 1) := by decide +kernel
theorem d_Law_law_333 : decode code 333 = .ok (.iload_n 3, 1) := by decide +kernel
theorem d_Law_law_334 : decode code 334 = .ok (.iconst 3, 1) := by decide +kernel
theorem d_Law_law_335 : decode code 335 = .ok (.iadd, 1) := by decide +kernel
theorem d_Law_law_336 : decode code 336 = .ok (.iaload, 1) := by decide +kernel
theorem d_Law_law_337 : decode code 337 = .ok (.invokevirtual 61, 3) := by decide +kernel
theorem d_Law_law_340 : decode code 340 = .ok (.aload_n 2, 1) := by decide +kernel
theorem d_Law_law_341 : decode code 341 = .ok (.aload_n 0, 1) := by decide +kernel
theorem d_Law_law_342 : decode code 342 = .ok (.iload_n 3, 1) := by decide +kernel
theorem d_Law_law_343 : decode code 343 = .ok (.iconst 1, 1) := by decide +kernel
theorem d_Law_law_344 : decode code 344 = .ok (.iadd, 1) := by decide +kernel
theorem d_Law_law_345 : decode code 345 = .ok (.iaload, 1) := by decide +kernel
theorem d_Law_law_346 : decode code 346 = .ok (.aload_n 0, 1) := by decide +kernel
theorem d_Law_law_347 : decode code 347 = .ok (.iload_n 3, 1) := by decide +kernel
theorem d_Law_law_348 : decode code 348 = .ok (.iconst 2, 1) := by decide +kernel
theorem d_Law_law_349 : decode code 349 = .ok (.iadd, 1) := by decide +kernel
theorem d_Law_law_350 : decode code 350 = .ok (.iaload, 1) := by decide +kernel
theorem d_Law_law_351 : decode code 351 = .ok (.aload_n 0, 1) := by decide +kernel
theorem d_Law_law_352 : decode code 352 = .ok (.iload_n 3, 1) := by decide +kernel
theorem d_Law_law_353 : decode code 353 = .ok (.iconst 3, 1) := by decide +kernel
theorem d_Law_law_354 : decode code 354 = .ok (.iadd, 1) := by decide +kernel
theorem d_Law_law_355 : decode code 355 = .ok (.iaload, 1) := by decide +kernel
theorem d_Law_law_356 : decode code 356 = .ok (.invokevirtual 65, 3) := by decide +kernel
theorem d_Law_law_359 : decode code 359 = .ok (.if_icmp .eq (51), 3) := by decide +kernel
theorem d_Law_law_362 : decode code 362 = .ok (.iconst 0, 1) := by decide +kernel
theorem d_Law_law_363 : decode code 363 = .ok (.ireturn, 1) := by decide +kernel
theorem d_Law_law_364 : decode code 364 = .ok (.aload_n 1, 1) := by decide +kernel
theorem d_Law_law_365 : decode code 365 = .ok (.aload_n 0, 1) := by decide +kernel
theorem d_Law_law_366 : decode code 366 = .ok (.iload_n 3, 1) := by decide +kernel
theorem d_Law_law_367 : decode code 367 = .ok (.iconst 1, 1) := by decide +kernel
theorem d_Law_law_368 : decode code 368 = .ok (.iadd, 1) := by decide +kernel
theorem d_Law_law_369 : decode code 369 = .ok (.iaload, 1) := by decide +kernel
theorem d_Law_law_370 : decode code 370 = .ok (.invokevirtual 66, 3) := by decide +kernel
theorem d_Law_law_373 : decode code 373 = .ok (.aload_n 2, 1) := by decide +kernel
theorem d_Law_law_374 : decode code 374 = .ok (.aload_n 0, 1) := by decide +kernel
theorem d_Law_law_375 : decode code 375 = .ok (.iload_n 3, 1) := by decide +kernel
theorem d_Law_law_376 : decode code 376 = .ok (.iconst 1, 1) := by decide +kernel
theorem d_Law_law_377 : decode code 377 = .ok (.iadd, 1) := by decide +kernel
theorem d_Law_law_378 : decode code 378 = .ok (.iaload, 1) := by decide +kernel
theorem d_Law_law_379 : decode code 379 = .ok (.invokevirtual 69, 3) := by decide +kernel
theorem d_Law_law_382 : decode code 382 = .ok (.if_icmp .eq (28), 3) := by decide +kernel
theorem d_Law_law_385 : decode code 385 = .ok (.iconst 0, 1) := by decide +kernel
theorem d_Law_law_386 : decode code 386 = .ok (.ireturn, 1) := by decide +kernel
theorem d_Law_law_387 : decode code 387 = .ok (.aload_n 1, 1) := by decide +kernel
theorem d_Law_law_388 : decode code 388 = .ok (.aload_n 0, 1) := by decide +kernel
theorem d_Law_law_389 : decode code 389 = .ok (.iload_n 3, 1) := by decide +kernel
theorem d_Law_law_390 : decode code 390 = .ok (.iconst 1, 1) := by decide +kernel
theorem d_Law_law_391 : decode code 391 = .ok (.iadd, 1) := by decide +kernel
theorem d_Law_law_392 : decode code 392 = .ok (.iaload, 1) := by decide +kernel
theorem d_Law_law_393 : decode code 393 = .ok (.invokevirtual 70, 3) := by decide +kernel
theorem d_Law_law_396 : decode code 396 = .ok (.aload_n 2, 1) := by decide +kernel
theorem d_Law_law_397 : decode code 397 = .ok (.aload_n 0, 1) := by decide +kernel
theorem d_Law_law_398 : decode code 398 = .ok (.iload_n 3, 1) := by decide +kernel
theorem d_Law_law_399 : decode code 399 = .ok (.iconst 1, 1) := by decide +kernel
theorem d_Law_law_400 : decode code 400 = .ok (.iadd, 1) := by decide +kernel
theorem d_Law_law_401 : decode code 401 = .ok (.iaload, 1) := by decide +kernel
theorem d_Law_law_402 : decode code 402 = .ok (.invokevirtual 73, 3) := by decide +kernel
theorem d_Law_law_405 : decode code 405 = .ok (.if_icmp .eq (5), 3) := by decide +kernel
theorem d_Law_law_408 : decode code 408 = .ok (.iconst 0, 1) := by decide +kernel
theorem d_Law_law_409 : decode code 409 = .ok (.ireturn, 1) := by decide +kernel
theorem d_Law_law_410 : decode code 410 = .ok (.iinc 3 (4), 3) := by decide +kernel
theorem d_Law_law_413 : decode code 413 = .ok (.goto (-365), 3) := by decide +kernel
theorem d_Law_law_416 : decode code 416 = .ok (.iconst 1, 1) := by decide +kernel
theorem d_Law_law_417 : decode code 417 = .ok (.ireturn, 1) := by decide +kernel
theorem d_Mth_max_0 : decode prog_14_method_65_code 0 = .ok (.iload_n 0, 1) := by decide +kernel
theorem d_Mth_max_1 : decode prog_14_method_65_code 1 = .ok (.iload_n 1, 1) := by decide +kernel
theorem d_Mth_max_2 : decode prog_14_method_65_code 2 = .ok (.if_icmp .lt (7), 3) := by decide +kernel
theorem d_Mth_max_5 : decode prog_14_method_65_code 5 = .ok (.iload_n 0, 1) := by decide +kernel
theorem d_Mth_max_6 : decode prog_14_method_65_code 6 = .ok (.goto (4), 3) := by decide +kernel
theorem d_Mth_max_9 : decode prog_14_method_65_code 9 = .ok (.iload_n 1, 1) := by decide +kernel
theorem d_Mth_max_10 : decode prog_14_method_65_code 10 = .ok (.ireturn, 1) := by decide +kernel
theorem d_Mth_min_0 : decode prog_14_method_69_code 0 = .ok (.iload_n 0, 1) := by decide +kernel
theorem d_Mth_min_1 : decode prog_14_method_69_code 1 = .ok (.iload_n 1, 1) := by decide +kernel
theorem d_Mth_min_2 : decode prog_14_method_69_code 2 = .ok (.if_icmp .gt (7), 3) := by decide +kernel
theorem d_Mth_min_5 : decode prog_14_method_69_code 5 = .ok (.iload_n 0, 1) := by decide +kernel
theorem d_Mth_min_6 : decode prog_14_method_69_code 6 = .ok (.goto (4), 3) := by decide +kernel
theorem d_Mth_min_9 : decode prog_14_method_69_code 9 = .ok (.iload_n 1, 1) := by decide +kernel
theorem d_Mth_min_10 : decode prog_14_method_69_code 10 = .ok (.ireturn, 1) := by decide +kernel
end
section
/-! EV: what a frame of ours comes to, in words of places. A place is a number: 0, 1, 2 .. the cells that the law makes, in their order; 1000 the script; 1001 the row of ids. A heap: ints by place and slot, references by place and slot, what each place is. -/
abbrev x_H : Type := (Nat → Nat → Int32) × (Nat → Nat → Option Nat) × List (Nat ⊕ (Nat × Nat))
abbrev x_E : Type := va_G × (Nat × Nat × Nat) × (ClassId × ClassId × ClassId) × Nat × (Nat → Int32)
def x_ids (j : Nat) : Int32 := match j with | 0 => 5 | 1 => 15 | 2 => 21 | 3 => 27 | 4 => 65 | _ => 66
def x_A (E : x_E) : Nat → Prop := fun q => E.2.1.1 ≤ q
def x_ad (E : x_E) (p : Nat) : Nat := if p < 1000 then E.2.1.1 + p else if p = 1000 then E.2.1.2.1 else E.2.1.2.2
def x_cv (E : x_E) (v : Value) : Value := match v with
  | .ref p => .ref (x_ad E p)
  | w => w
def x_tys (E : x_E) : List (ClassId × FieldType) := [(E.2.2.1.1, .int), (E.2.2.1.2.1, .byte), (E.2.2.1.2.2, .boolean)]
def x_ca (E : x_E) (ty : Nat) : ClassId := match ty with | 0 => E.2.2.1.1 | 1 => E.2.2.1.2.1 | _ => E.2.2.1.2.2
def x_nf (ci : Nat) : Nat := match x_cls[ci]? with | some q => q.2.2 | none => 0
def x_fv (E : x_E) (h : x_H) (ci p k : Nat) : Value := if x_isR ci k = true then va_rf ((h.2.1 p k).map (x_ad E)) else .int (h.1 p k)
def x_cell (E : x_E) (h : x_H) (p : Nat) : va_E := match h.2.2[p]? with
  | some (.inl ci) => .inr (ci, (List.range (x_nf ci)).map (x_fv E h ci p))
  | some (.inr a) => .inl (x_ca E a.1, a.2, .inl (h.1 p))
  | none => .inr (0, [])
def x_ws (E : x_E) (h : x_H) : va_W := (List.range h.2.2.length).map (fun p => (E.2.1.1 + p, x_cell E h p))
/-- what lies outside the world, and is only read -/
def x_O (E : x_E) (U : State) (H : Heap) : Prop := (∀ w ∈ x_N, va_Nw w U) ∧ va_Z "TrainGuard$Message" "IDS" "[I" (.ref E.2.1.2.2) (x_A E) U H ∧ va_T .int E.2.1.2.2 6 (fun j => .int (x_ids j)) (x_A E) U H ∧ va_X E.2.1.2.1 E.2.2.2.1 E.2.2.2.2 U H ∧ E.2.1.2.1 < E.2.1.1 ∧ E.2.1.1 ≤ H.size
def x_F (E : x_E) (h : x_H) (s : State) (H : Heap) (locs : List Loc) : Prop := va_K E.1 x_cls (x_tys E) s ∧ va_P E.1 x_cls (x_ws E h) H ∧ H.size = E.2.1.1 + h.2.2.length ∧ va_S (x_A E) s.heap H locs
def x_C (E : x_E) (M : x_M) (p : Program) (s : State) (mid : MethodId) (args : Array Value) (meth : Method) (c : Code) (R : Room) : Prop :=
  p.tables.exec = Jvm.exec ∧ c.code = M.2.1 ∧ c.maxLocals = M.2.2.1 ∧ s.vm.findClass M.1.cls = some mid.cls ∧ (∀ w ∈ x_W, w.before args s = true) ∧ (M.1.name = "<init>" → meth.name = "<init>") ∧ M.2.2.2.2.1 ≤ R.frames ∧ M.2.2.2.2.2 ≤ R.locals ∧ x_O E s s.heap
def x_lv (E : x_E) (L : List (Option Value)) : List (Nat × Value) := L.zipIdx.filterMap (fun q => q.1.map (fun v => (q.2, x_cv E v)))
def x_L (E : x_E) (n : Nat) (L : List (Option Value)) (ls : Array Slot) : Prop := lv_has ls n (x_lv E L) ∧ ∀ (i : Nat) (v : Value), L[i]? = some (some v) → v.category = 1
def x_ret (M : x_M) (r : Int32) (pc : Nat) (st : List Value) : Prop :=
  (M.2.2.2.1 = none ∧ r = 0 ∧ st = [] ∧ decode M.2.1 pc = .ok (.return_, 1)) ∨ (st = [.int r] ∧ decode M.2.1 pc = .ok (.ireturn, 1) ∧ (M.2.2.2.1 = some .int ∨ (M.2.2.2.1 = some .boolean ∧ (r = 0 ∨ r = 1))))
/-- from pc with these locals, this stack and this heap the method comes to a return with Q; a cells and b slots may still be made -/
def Ev (M : x_M) (a b pc : Nat) (L : List (Option Value)) (st : List Value) (h : x_H) (Q : Int32 → x_H → Prop) : Prop :=
  ∀ (E : x_E) (p : Program) (l : Launch) (e : Env) (R : Room) (s : State) (mid : MethodId) (args : Array Value) (below : List Frame) (meth : Method) (c : Code) (H : Heap) (locs : List Loc) (cells slots : Nat) (ls : Array Slot) (QQ : State → Prop),
    x_C E M p s mid args meth c R → x_F E h s H locs → cells + a ≤ R.cells → slots + b ≤ R.slots → x_L E M.2.2.1 L ls →
    (∀ (r : Int32) (h' : x_H) (H' : Heap) (locs' : List Loc) (cells' slots' pc' : Nat) (ls' : Array Slot) (st' : List Value), Q r h' → x_F E h' s H' locs' → cells' ≤ R.cells → slots' ≤ R.slots → x_ret M r pc' st' →
      W p l e R s mid args below meth c H' locs' cells' slots' QQ (F0 mid pc' ls' st')) →
    W p l e R s mid args below meth c H locs cells slots QQ (F0 mid pc ls (st.map (x_cv E)))
def x_wsM (M : x_M) : List Cond := Cond.code M.1 M.2.1 M.2.2.1 M.2.2.2.1 :: x_W
def x_rm (M : x_M) (a b : Nat) : Room := { frames := M.2.2.2.2.1, cells := a, slots := b, locals := M.2.2.2.2.2 }
def x_D (E : x_E) (h : x_H) (U : State) : Prop := va_K E.1 x_cls (x_tys E) U ∧ va_P E.1 x_cls (x_ws E h) U.heap ∧ U.heap.size = E.2.1.1 + h.2.2.length ∧ x_O E U U.heap
def x_Q (E : x_E) (M : x_M) (Q : Int32 → x_H → Prop) : Array Value → State → Outcome → State → Prop := match M.2.2.2.1 with
  | none => va_Qv (fun h' : x_H => Q 0 h') (fun h' t => x_D E h' t) (x_A E)
  | some _ => va_Qi (fun (r : Int32) (h' : x_H) => Q r h') (fun h' t => x_D E h' t) (x_A E)
/-- the method, called with these arguments at this heap, comes back with Q; it makes at most a cells of b slots -/
def Call (M : x_M) (a b : Nat) (args : List Value) (h : x_H) (Q : Int32 → x_H → Prop) : Prop :=
  ∀ (l : Launch) (E : x_E), Met l M.1 (x_wsM M) (x_rm M a b) (va_Pc (args.map (x_cv E)) (fun U => x_D E h U)) (x_Q E M Q) a b (x_A E)

/-! the world's rows -/
theorem x_ws_get (E : x_E) (h : x_H) {P : Nat} (hP : P < h.2.2.length) : (x_ws E h)[P]? = some (E.2.1.1 + P, x_cell E h P) := by
  unfold x_ws
  rw [List.getElem?_map, List.getElem?_range hP]
  rfl
theorem x_ws_D (E : x_E) (h : x_H) : va_D (x_A E) (x_ws E h) := by
  have key : ∀ (k : Nat) (q : Nat × va_E), (x_ws E h)[k]? = some q → q.1 = E.2.1.1 + k := by
    intro k q hk
    have hl : k < h.2.2.length := by
      have := (List.getElem?_eq_some_iff.mp hk).1
      simpa [x_ws] using this
    rw [x_ws_get E h hl] at hk
    cases hk
    rfl
  refine ⟨fun i j x y hi hj hxy => ?_, fun k q hk => ?_⟩
  · have h1 := key i x hi
    have h2 := key j y hj
    omega
  · show E.2.1.1 ≤ q.1
    have h1 := key k q hk
    omega
theorem x_sh_lt {h : x_H} {P : Nat} {z : Nat ⊕ (Nat × Nat)} (hs : h.2.2[P]? = some z) : P < h.2.2.length := (List.getElem?_eq_some_iff.mp hs).1
theorem x_ws_obj (E : x_E) (h : x_H) {P ci : Nat} (hs : h.2.2[P]? = some (.inl ci)) : (x_ws E h)[P]? = some (E.2.1.1 + P, .inr (ci, (List.range (x_nf ci)).map (x_fv E h ci P))) := by
  rw [x_ws_get E h (x_sh_lt hs)]
  unfold x_cell
  rw [hs]
theorem x_ws_arr (E : x_E) (h : x_H) {P n ty : Nat} (hs : h.2.2[P]? = some (.inr (ty, n))) : (x_ws E h)[P]? = some (E.2.1.1 + P, .inl (x_ca E ty, n, .inl (h.1 P))) := by
  rw [x_ws_get E h (x_sh_lt hs)]
  unfold x_cell
  rw [hs]
theorem x_ad_lt (E : x_E) {P : Nat} (hP : P < 1000) : x_ad E P = E.2.1.1 + P := if_pos hP
/-- ints written -/
def x_up (f : Nat → Nat → Int32) (P k : Nat) (x : Int32) : Nat → Nat → Int32 := fun p j => if p = P ∧ j = k then x else f p j
def x_upR (f : Nat → Nat → Option Nat) (P k : Nat) (q : Nat) : Nat → Nat → Option Nat := fun p j => if p = P ∧ j = k then some q else f p j
theorem x_range_set {α : Type} (n k : Nat) (f : Nat → α) (v : α) : ((List.range n).map f).set k v = (List.range n).map (fun j => if j = k then v else f j) := by
  apply List.ext_getElem?
  intro i
  rw [List.getElem?_set]
  by_cases hi : i < n
  · rw [List.getElem?_map, List.getElem?_map, List.getElem?_range hi]
    by_cases hk : k = i
    · subst hk
      simp [hi]
    · simp [hk, Ne.symm hk]
  · have e1 : (List.range n)[i]? = none := List.getElem?_eq_none (by simpa using hi)
    rw [List.getElem?_map, List.getElem?_map, e1]
    by_cases hk : k = i
    · subst hk
      simp [hi]
    · simp [hk]
theorem x_ws_seti (E : x_E) (h : x_H) {P ci k : Nat} (x : Int32) (hs : h.2.2[P]? = some (.inl ci)) (hr : x_isR ci k = false) :
    (x_ws E h).set P (E.2.1.1 + P, .inr (ci, ((List.range (x_nf ci)).map (x_fv E h ci P)).set k (.int x))) = x_ws E (x_up h.1 P k x, h.2.1, h.2.2) := by
  unfold x_ws
  rw [x_range_set]
  apply List.map_congr_left
  intro p hp
  by_cases e : p = P
  · subst e
    rw [if_pos rfl]
    unfold x_cell
    simp only [hs]
    rw [x_range_set]
    congr 3
    apply List.map_congr_left
    intro j _
    by_cases ej : j = k
    · subst ej
      simp [x_fv, hr, x_up]
    · simp [x_fv, x_up, ej]
  · rw [if_neg e]
    congr 1
    have e2 : x_up h.1 P k x p = h.1 p := by funext j; simp [x_up, e]
    unfold x_cell x_fv
    simp only [e2]
theorem x_ws_setr (E : x_E) (h : x_H) {P ci k : Nat} (q : Nat) (hs : h.2.2[P]? = some (.inl ci)) (hr : x_isR ci k = true) :
    (x_ws E h).set P (E.2.1.1 + P, .inr (ci, ((List.range (x_nf ci)).map (x_fv E h ci P)).set k (.ref (x_ad E q)))) = x_ws E (h.1, x_upR h.2.1 P k q, h.2.2) := by
  unfold x_ws
  rw [x_range_set]
  apply List.map_congr_left
  intro p hp
  by_cases e : p = P
  · subst e
    rw [if_pos rfl]
    unfold x_cell
    simp only [hs]
    rw [x_range_set]
    congr 3
    apply List.map_congr_left
    intro j _
    by_cases ej : j = k
    · subst ej
      simp [x_fv, hr, x_upR, va_rf]
    · simp [x_fv, x_upR, ej]
  · rw [if_neg e]
    congr 1
    have e2 : ∀ j, x_upR h.2.1 P k q p j = h.2.1 p j := by intro j; simp [x_upR, e]
    unfold x_cell x_fv
    simp only [e2]
theorem x_ws_seta (E : x_E) (h : x_H) {P n ty k : Nat} (x : Int32) (hs : h.2.2[P]? = some (.inr (ty, n))) :
    (x_ws E h).set P (E.2.1.1 + P, .inl (x_ca E ty, n, .inl (upd (h.1 P) k x))) = x_ws E (x_up h.1 P k x, h.2.1, h.2.2) := by
  unfold x_ws
  rw [x_range_set]
  apply List.map_congr_left
  intro p hp
  by_cases e : p = P
  · subst e
    rw [if_pos rfl]
    unfold x_cell
    simp only [hs]
    congr 4
    refine congrArg Sum.inl (funext fun j => ?_)
    simp [upd, x_up]
  · rw [if_neg e]
    congr 1
    have e2 : x_up h.1 P k x p = h.1 p := by funext j; simp [x_up, e]
    unfold x_cell x_fv
    simp only [e2]
theorem x_ws_push (E : x_E) (h : x_H) (z : Nat ⊕ (Nat × Nat)) : x_ws E (h.1, h.2.1, h.2.2 ++ [z]) = x_ws E h ++ [(E.2.1.1 + h.2.2.length, x_cell E (h.1, h.2.1, h.2.2 ++ [z]) h.2.2.length)] := by
  unfold x_ws
  simp only [List.length_append, List.length_singleton]
  rw [List.range_succ, List.map_append]
  congr 1
  apply List.map_congr_left
  intro p hp
  have hp' : p < h.2.2.length := List.mem_range.mp hp
  congr 1
  unfold x_cell x_fv
  simp only [List.getElem?_append_left hp']
/-! the words -/
theorem x_good {ws : List Cond} (h : ∀ w ∈ ws, w ∈ x_W) : GoodIn x_W ws := fun w hw => ⟨h w hw, good_of_word (List.mem_filter.mp (h w hw)).2⟩
theorem x_isN_on {w : Cond} (h : x_isN w = true) : w.onTables = true := by
  cases w <;> first | (simp [x_isN] at h; done) | rfl
theorem x_N_warm {w : Cond} (hw : w ∈ x_N) {s U : State} (hW : s.WarmedH U.vm) (hZ : va_Nw w s) : va_Nw w U := by
  have h := (List.mem_filter.mp hw).2
  cases w <;> first | (simp [x_isN] at h; done) | exact va_Nw.warmF hW hZ | exact va_Nw.warmM hW hZ
theorem x_N_use {w : Cond} (hw : w ∈ x_N) {A : Array Value} {U : State} (h : va_Nw w U) : w.before A U = true := va_Nw.use (x_isN_on (List.mem_filter.mp hw).2) h
/-- what lies outside, later -/
theorem x_O.to {E : x_E} {s U : State} {H : Heap} {locs : List Loc} (h : x_O E s s.heap) (hS : va_S (x_A E) s.heap H locs) (hW : s.WarmedH U.vm) : x_O E U H := by
  obtain ⟨h1, h2, h3, h4, h5, h6⟩ := h
  have nb : ¬ x_A E E.2.1.2.1 := fun z => by
    have z' : E.2.1.1 ≤ E.2.1.2.1 := z
    omega
  exact ⟨fun w hw => x_N_warm hw hW (h1 w hw), va_Z.moved hW.alike (h2.kept hS.2.1), va_T.moved hW.alike (h3.kept hS.2.1), va_X.moved hW.alike (h4.kept (hS.2.1 _ (by omega) nb)), h5, Nat.le_trans h6 hS.1⟩
theorem x_O.calling {E : x_E} {U : State} {g : JFrame} {mk : MethodId} {a : Array Value} (h : x_O E U U.heap) : x_O E (U.calling g mk a) (U.calling g mk a).heap := by
  obtain ⟨h1, h2, h3, h4, h5, h6⟩ := h
  exact ⟨fun w hw => va_Nw.same (u := U) (U := U.calling g mk a) (x_isN_on (List.mem_filter.mp hw).2) rfl (h1 w hw), va_Z.moved (u := U) (Vm.Alike.refl U.vm) h2, va_T.moved (u := U) (Vm.Alike.refl U.vm) h3, va_X.moved (u := U) (Vm.Alike.refl U.vm) h4, h5, h6⟩
theorem x_D.calling {E : x_E} {h : x_H} {U : State} {g : JFrame} {mk : MethodId} {a : Array Value} (hD : x_D E h U) : x_D E h (U.calling g mk a) :=
  ⟨va_K.moved (u := U) (U := U.calling g mk a) (Vm.Alike.refl U.vm) hD.1, hD.2.1, hD.2.2.1, hD.2.2.2.calling⟩
/-! the locals -/
theorem x_lv_mem {E : x_E} {L : List (Option Value)} {i : Nat} {w : Value} : (i, w) ∈ x_lv E L ↔ ∃ v, L[i]? = some (some v) ∧ x_cv E v = w := by
  unfold x_lv
  rw [List.mem_filterMap]
  constructor
  · rintro ⟨⟨o, j⟩, hm, he⟩
    cases o with
    | none => cases he
    | some v =>
      have he' : (j, x_cv E v) = (i, w) := Option.some.inj he
      cases he'
      exact ⟨v, List.mem_zipIdx_iff_getElem?.mp hm, rfl⟩
  · rintro ⟨v, hv, rfl⟩
    exact ⟨(some v, i), List.mem_zipIdx_iff_getElem?.mpr hv, rfl⟩
theorem x_cv_cat (E : x_E) (v : Value) : (x_cv E v).category = v.category := by cases v <;> rfl
theorem x_L.at {E : x_E} {n : Nat} {L : List (Option Value)} {ls : Array Slot} (h : x_L E n L ls) {i : Nat} {v : Value} (hv : L[i]? = some (some v)) : ls[i]? = some (.val (x_cv E v)) := h.1.2.2 (i, x_cv E v) (x_lv_mem.mpr ⟨v, hv, rfl⟩)
theorem x_L.set {E : x_E} {n : Nat} {L : List (Option Value)} {ls ls' : Array Slot} (h : x_L E n L ls) {i : Nat} {v : Value} (hc : v.category = 1)
    (h' : lv_has ls' n ((i, x_cv E v) :: (x_lv E L).filter (fun q => !(q.1 == i) && !(q.1 + 1 == i && q.2.category == 2)))) : x_L E n (L.set i (some v)) ls' := by
  refine ⟨⟨h'.1, h'.2.1, fun q hq => h'.2.2 q ?_⟩, fun j w hj => ?_⟩
  · obtain ⟨j, w⟩ := q
    obtain ⟨u, hu, rfl⟩ := x_lv_mem.mp hq
    by_cases e : j = i
    · subst e
      rw [List.getElem?_set] at hu
      simp only [if_true] at hu
      split at hu
      · cases hu
        exact List.mem_cons_self
      · cases hu
    · rw [List.getElem?_set_ne (Ne.symm e)] at hu
      refine List.mem_cons_of_mem _ (List.mem_filter.mpr ⟨x_lv_mem.mpr ⟨u, hu, rfl⟩, ?_⟩)
      have hcat := h.2 j u hu
      simp [e, x_cv_cat, hcat]
  · by_cases e : j = i
    · subst e
      rw [List.getElem?_set] at hj
      simp only [if_true] at hj
      split at hj
      · cases hj
        exact hc
      · cases hj
    · rw [List.getElem?_set_ne (Ne.symm e)] at hj
      exact h.2 j w hj
theorem x_args_lv (E : x_E) (vs : List Value) (hc : ∀ v ∈ vs, v.category = 1) : ∀ k, lv_args k (vs.map (x_cv E)) = ((vs.map some).zipIdx k).filterMap (fun q => q.1.map (fun v => (q.2, x_cv E v))) := by
  induction vs with
  | nil => intro k; rfl
  | cons v vs ih =>
    intro k
    have h1 : (x_cv E v).category = 1 := by rw [x_cv_cat]; exact hc v List.mem_cons_self
    have ih' := ih (fun w hw => hc w (List.mem_cons_of_mem _ hw)) (k + 1)
    simp only [List.map_cons, lv_args, h1, List.zipIdx_cons]
    rw [List.filterMap_cons_some (b := (k, x_cv E v)) (by rfl)]
    congr 1
theorem x_sl (vs : List Value) (hc : ∀ v ∈ vs, v.category = 1) : (lg_sl vs).length = vs.length := by
  induction vs with
  | nil => rfl
  | cons v vs ih =>
    have h1 := hc v List.mem_cons_self
    have ih' := ih (fun w hw => hc w (List.mem_cons_of_mem _ hw))
    have e : lg_sl (v :: vs) = .val v :: lg_sl vs := by simp [lg_sl, h1]
    rw [e, List.length_cons, ih', List.length_cons]
end
section
/-! a row an instruction, over EV -/
section
variable {M : x_M} {a b pc : Nat} {L : List (Option Value)} {st : List Value} {h : x_H} {Q : Int32 → x_H → Prop}
theorem Ev.mono {Q' : Int32 → x_H → Prop} (k : Ev M a b pc L st h Q) (hq : ∀ r h', Q r h' → Q' r h') : Ev M a b pc L st h Q' := by
  intro E p l e R s mid args below meth c H locs cells slots ls QQ C F ha hb hl kr
  exact k E p l e R s mid args below meth c H locs cells slots ls QQ C F ha hb hl (fun r h' H' locs' cells' slots' pc' ls' st' hQ => kr r h' H' locs' cells' slots' pc' ls' st' (hq r h' hQ))
theorem Ev.less {a' b' : Nat} (h1 : a ≤ a') (h2 : b ≤ b') (k : Ev M a b pc L st h Q) : Ev M a' b' pc L st h Q := by
  intro E p l e R s mid args below meth c H locs cells slots ls QQ C F ha hb hl kr
  exact k E p l e R s mid args below meth c H locs cells slots ls QQ C F (by omega) (by omega) hl kr
theorem Ev_iconst {n : Int} {v : Int32} (hd : decode M.2.1 pc = .ok (.iconst n, 1)) (hv : Int32.ofInt n = v) (k : Ev M a b (pc + 1) L (.int v :: st) h Q) : Ev M a b pc L st h Q := by
  intro E p l e R s mid args below meth c H locs cells slots ls QQ C F ha hb hl kr
  exact lv_iconst C.1 C.2.1 hd hv (k E p l e R s mid args below meth c H locs cells slots ls QQ C F ha hb hl kr)
theorem Ev_bipush {n : Int} {v : Int32} (hd : decode M.2.1 pc = .ok (.bipush n, 2)) (hv : (Int8.ofInt n).toInt32 = v) (k : Ev M a b (pc + 2) L (.int v :: st) h Q) : Ev M a b pc L st h Q := by
  intro E p l e R s mid args below meth c H locs cells slots ls QQ C F ha hb hl kr
  exact lv_bipush C.1 C.2.1 hd hv (k E p l e R s mid args below meth c H locs cells slots ls QQ C F ha hb hl kr)
theorem Ev_sipush {n : Int} {v : Int32} (hd : decode M.2.1 pc = .ok (.sipush n, 3)) (hv : (Int16.ofInt n).toInt32 = v) (k : Ev M a b (pc + 3) L (.int v :: st) h Q) : Ev M a b pc L st h Q := by
  intro E p l e R s mid args below meth c H locs cells slots ls QQ C F ha hb hl kr
  exact lv_sipush C.1 C.2.1 hd hv (k E p l e R s mid args below meth c H locs cells slots ls QQ C F ha hb hl kr)
theorem Ev_ldc {index : Nat} {v : Int32} (hw : Cond.constant M.1.cls index v ∈ x_W) (hd : decode M.2.1 pc = .ok (.ldc index, 2)) (k : Ev M a b (pc + 2) L (.int v :: st) h Q) : Ev M a b pc L st h Q := by
  intro E p l e R s mid args below meth c H locs cells slots ls QQ C F ha hb hl kr
  exact lv_ldc C.1 C.2.1 C.2.2.2.1 (C.2.2.2.2.1 _ hw) hd (k E p l e R s mid args below meth c H locs cells slots ls QQ C F ha hb hl kr)
theorem Ev_iload_n {i : Fin 4} {x : Int32} (hd : decode M.2.1 pc = .ok (.iload_n i, 1)) (hi : L[(i : Nat)]? = some (some (.int x))) (k : Ev M a b (pc + 1) L (.int x :: st) h Q) : Ev M a b pc L st h Q := by
  intro E p l e R s mid args below meth c H locs cells slots ls QQ C F ha hb hl kr
  exact lv_iload_n C.1 C.2.1 hd rfl (hl.at hi) (k E p l e R s mid args below meth c H locs cells slots ls QQ C F ha hb hl kr)
theorem Ev_iload {i : Nat} {x : Int32} (hd : decode M.2.1 pc = .ok (.iload i, 2)) (hi : L[i]? = some (some (.int x))) (k : Ev M a b (pc + 2) L (.int x :: st) h Q) : Ev M a b pc L st h Q := by
  intro E p l e R s mid args below meth c H locs cells slots ls QQ C F ha hb hl kr
  exact lv_iload C.1 C.2.1 hd (hl.at hi) (k E p l e R s mid args below meth c H locs cells slots ls QQ C F ha hb hl kr)
theorem Ev_aload_n {i : Fin 4} {x : Nat} (hd : decode M.2.1 pc = .ok (.aload_n i, 1)) (hi : L[(i : Nat)]? = some (some (.ref x))) (k : Ev M a b (pc + 1) L (.ref x :: st) h Q) : Ev M a b pc L st h Q := by
  intro E p l e R s mid args below meth c H locs cells slots ls QQ C F ha hb hl kr
  exact lv_aload_n C.1 C.2.1 hd rfl (hl.at hi) (k E p l e R s mid args below meth c H locs cells slots ls QQ C F ha hb hl kr)
theorem Ev_istore_n {i : Fin 4} {x : Int32} {L' : List (Option Value)} (hd : decode M.2.1 pc = .ok (.istore_n i, 1)) (hn : (i : Nat) < M.2.2.1) (hL : L.set i (some (.int x)) = L') (k : Ev M a b (pc + 1) L' st h Q) : Ev M a b pc L (.int x :: st) h Q := by
  subst hL
  intro E p l e R s mid args below meth c H locs cells slots ls QQ C F ha hb hl kr
  exact lv_istore_n C.1 C.2.1 hd rfl hl.1 hn rfl (fun ls' h' => k E p l e R s mid args below meth c H locs cells slots ls' QQ C F ha hb (hl.set (v := .int x) rfl h') kr)
theorem Ev_istore {i : Nat} {x : Int32} {L' : List (Option Value)} (hd : decode M.2.1 pc = .ok (.istore i, 2)) (hn : i < M.2.2.1) (hL : L.set i (some (.int x)) = L') (k : Ev M a b (pc + 2) L' st h Q) : Ev M a b pc L (.int x :: st) h Q := by
  subst hL
  intro E p l e R s mid args below meth c H locs cells slots ls QQ C F ha hb hl kr
  exact lv_istore C.1 C.2.1 hd hl.1 hn rfl (fun ls' h' => k E p l e R s mid args below meth c H locs cells slots ls' QQ C F ha hb (hl.set (v := .int x) rfl h') kr)
theorem Ev_astore_n {i : Fin 4} {x : Nat} {L' : List (Option Value)} (hd : decode M.2.1 pc = .ok (.astore_n i, 1)) (hn : (i : Nat) < M.2.2.1) (hL : L.set i (some (.ref x)) = L') (k : Ev M a b (pc + 1) L' st h Q) : Ev M a b pc L (.ref x :: st) h Q := by
  subst hL
  intro E p l e R s mid args below meth c H locs cells slots ls QQ C F ha hb hl kr
  exact lv_astore_n C.1 C.2.1 hd rfl hl.1 hn rfl (fun ls' h' => k E p l e R s mid args below meth c H locs cells slots ls' QQ C F ha hb (hl.set (v := .ref x) rfl h') kr)
theorem Ev_iinc {i : Nat} {n : Int} {x v : Int32} {L' : List (Option Value)} (hd : decode M.2.1 pc = .ok (.iinc i n, 3)) (hi : L[i]? = some (some (.int x))) (hv : x + Int32.ofInt n = v) (hn : i < M.2.2.1) (hL : L.set i (some (.int v)) = L') (k : Ev M a b (pc + 3) L' st h Q) : Ev M a b pc L st h Q := by
  subst hL
  intro E p l e R s mid args below meth c H locs cells slots ls QQ C F ha hb hl kr
  obtain ⟨j, hj⟩ := List.getElem?_of_mem (x_lv_mem.mpr ⟨.int x, hi, rfl⟩ : (i, Value.int x) ∈ x_lv E L)
  exact lv_iinc C.1 C.2.1 hd hl.1 hj hv hn rfl (fun ls' h' => k E p l e R s mid args below meth c H locs cells slots ls' QQ C F ha hb (hl.set (v := .int v) rfl h') kr)
theorem Ev_iadd {x y : Int32} (hd : decode M.2.1 pc = .ok (.iadd, 1)) (k : Ev M a b (pc + 1) L (.int (x + y) :: st) h Q) : Ev M a b pc L (.int y :: .int x :: st) h Q := by
  intro E p l e R s mid args below meth c H locs cells slots ls QQ C F ha hb hl kr
  exact lv_iadd C.1 C.2.1 hd (k E p l e R s mid args below meth c H locs cells slots ls QQ C F ha hb hl kr)
theorem Ev_isub {x y : Int32} (hd : decode M.2.1 pc = .ok (.isub, 1)) (k : Ev M a b (pc + 1) L (.int (x - y) :: st) h Q) : Ev M a b pc L (.int y :: .int x :: st) h Q := by
  intro E p l e R s mid args below meth c H locs cells slots ls QQ C F ha hb hl kr
  exact lv_isub C.1 C.2.1 hd (k E p l e R s mid args below meth c H locs cells slots ls QQ C F ha hb hl kr)
theorem Ev_imul {x y : Int32} (hd : decode M.2.1 pc = .ok (.imul, 1)) (k : Ev M a b (pc + 1) L (.int (x * y) :: st) h Q) : Ev M a b pc L (.int y :: .int x :: st) h Q := by
  intro E p l e R s mid args below meth c H locs cells slots ls QQ C F ha hb hl kr
  exact lv_imul C.1 C.2.1 hd (k E p l e R s mid args below meth c H locs cells slots ls QQ C F ha hb hl kr)
theorem Ev_iand {x y : Int32} (hd : decode M.2.1 pc = .ok (.iand, 1)) (k : Ev M a b (pc + 1) L (.int (x &&& y) :: st) h Q) : Ev M a b pc L (.int y :: .int x :: st) h Q := by
  intro E p l e R s mid args below meth c H locs cells slots ls QQ C F ha hb hl kr
  exact lv_iand C.1 C.2.1 hd (k E p l e R s mid args below meth c H locs cells slots ls QQ C F ha hb hl kr)
theorem Ev_ishr {x y : Int32} (hd : decode M.2.1 pc = .ok (.ishr, 1)) (k : Ev M a b (pc + 1) L (.int (x >>> (y &&& 31)) :: st) h Q) : Ev M a b pc L (.int y :: .int x :: st) h Q := by
  intro E p l e R s mid args below meth c H locs cells slots ls QQ C F ha hb hl kr
  exact lv_ishr C.1 C.2.1 hd (k E p l e R s mid args below meth c H locs cells slots ls QQ C F ha hb hl kr)
theorem Ev_idiv {x y : Int32} (hd : decode M.2.1 pc = .ok (.idiv, 1)) (hne : ¬ y = 0) (k : Ev M a b (pc + 1) L (.int (x / y) :: st) h Q) : Ev M a b pc L (.int y :: .int x :: st) h Q := by
  intro E p l e R s mid args below meth c H locs cells slots ls QQ C F ha hb hl kr
  exact lv_idiv C.1 C.2.1 hd hne (k E p l e R s mid args below meth c H locs cells slots ls QQ C F ha hb hl kr)
theorem Ev_irem {x y : Int32} (hd : decode M.2.1 pc = .ok (.irem, 1)) (hne : ¬ y = 0) (k : Ev M a b (pc + 1) L (.int (x - x / y * y) :: st) h Q) : Ev M a b pc L (.int y :: .int x :: st) h Q := by
  intro E p l e R s mid args below meth c H locs cells slots ls QQ C F ha hb hl kr
  exact lv_irem C.1 C.2.1 hd hne (k E p l e R s mid args below meth c H locs cells slots ls QQ C F ha hb hl kr)
theorem Ev_i2b {x : Int32} (hd : decode M.2.1 pc = .ok (.i2b, 1)) (k : Ev M a b (pc + 1) L (.int x.toInt8.toInt32 :: st) h Q) : Ev M a b pc L (.int x :: st) h Q := by
  intro E p l e R s mid args below meth c H locs cells slots ls QQ C F ha hb hl kr
  exact lv_i2b C.1 C.2.1 hd rfl (k E p l e R s mid args below meth c H locs cells slots ls QQ C F ha hb hl kr)
theorem Ev_dup {v : Value} (hd : decode M.2.1 pc = .ok (.dup, 1)) (hc : v.category = 1) (k : Ev M a b (pc + 1) L (v :: v :: st) h Q) : Ev M a b pc L (v :: st) h Q := by
  intro E p l e R s mid args below meth c H locs cells slots ls QQ C F ha hb hl kr
  exact lv_dup C.1 C.2.1 hd (by rw [x_cv_cat]; exact hc) (k E p l e R s mid args below meth c H locs cells slots ls QQ C F ha hb hl kr)
theorem Ev_pop {v : Value} (hd : decode M.2.1 pc = .ok (.pop, 1)) (hc : v.category = 1) (k : Ev M a b (pc + 1) L st h Q) : Ev M a b pc L (v :: st) h Q := by
  intro E p l e R s mid args below meth c H locs cells slots ls QQ C F ha hb hl kr
  exact lv_pop C.1 C.2.1 hd (by rw [x_cv_cat]; exact hc) (k E p l e R s mid args below meth c H locs cells slots ls QQ C F ha hb hl kr)
theorem Ev_goto {off : Int} {tgt : Nat} (hd : decode M.2.1 pc = .ok (.goto off, 3)) (ht : (pc : Int) + off = (tgt : Int)) (k : Ev M a b tgt L st h Q) : Ev M a b pc L st h Q := by
  intro E p l e R s mid args below meth c H locs cells slots ls QQ C F ha hb hl kr
  exact lv_goto C.1 C.2.1 hd ht (k E p l e R s mid args below meth c H locs cells slots ls QQ C F ha hb hl kr)
theorem Ev_icmp_eq {x y : Int32} {off : Int} {tgt : Nat} (hd : decode M.2.1 pc = .ok (.if_icmp .eq off, 3)) (ht : (pc : Int) + off = (tgt : Int)) (kt : x = y → Ev M a b tgt L st h Q) (kf : ¬ x = y → Ev M a b (pc + 3) L st h Q) : Ev M a b pc L (.int y :: .int x :: st) h Q := by
  intro E p l e R s mid args below meth c H locs cells slots ls QQ C F ha hb hl kr
  exact lv_icmp_eq C.1 C.2.1 hd ht (fun z => kt z E p l e R s mid args below meth c H locs cells slots ls QQ C F ha hb hl kr) (fun z => kf z E p l e R s mid args below meth c H locs cells slots ls QQ C F ha hb hl kr)
theorem Ev_if_eq {x : Int32} {off : Int} {tgt : Nat} (hd : decode M.2.1 pc = .ok (.ifCond .eq off, 3)) (ht : (pc : Int) + off = (tgt : Int)) (kt : x = 0 → Ev M a b tgt L st h Q) (kf : ¬ x = 0 → Ev M a b (pc + 3) L st h Q) : Ev M a b pc L (.int x :: st) h Q := by
  intro E p l e R s mid args below meth c H locs cells slots ls QQ C F ha hb hl kr
  exact lv_if_eq C.1 C.2.1 hd ht (fun z => kt z E p l e R s mid args below meth c H locs cells slots ls QQ C F ha hb hl kr) (fun z => kf z E p l e R s mid args below meth c H locs cells slots ls QQ C F ha hb hl kr)
theorem Ev_icmp_ne {x y : Int32} {off : Int} {tgt : Nat} (hd : decode M.2.1 pc = .ok (.if_icmp .ne off, 3)) (ht : (pc : Int) + off = (tgt : Int)) (kt : ¬ x = y → Ev M a b tgt L st h Q) (kf : x = y → Ev M a b (pc + 3) L st h Q) : Ev M a b pc L (.int y :: .int x :: st) h Q := by
  intro E p l e R s mid args below meth c H locs cells slots ls QQ C F ha hb hl kr
  exact lv_icmp_ne C.1 C.2.1 hd ht (fun z => kt z E p l e R s mid args below meth c H locs cells slots ls QQ C F ha hb hl kr) (fun z => kf z E p l e R s mid args below meth c H locs cells slots ls QQ C F ha hb hl kr)
theorem Ev_if_ne {x : Int32} {off : Int} {tgt : Nat} (hd : decode M.2.1 pc = .ok (.ifCond .ne off, 3)) (ht : (pc : Int) + off = (tgt : Int)) (kt : ¬ x = 0 → Ev M a b tgt L st h Q) (kf : x = 0 → Ev M a b (pc + 3) L st h Q) : Ev M a b pc L (.int x :: st) h Q := by
  intro E p l e R s mid args below meth c H locs cells slots ls QQ C F ha hb hl kr
  exact lv_if_ne C.1 C.2.1 hd ht (fun z => kt z E p l e R s mid args below meth c H locs cells slots ls QQ C F ha hb hl kr) (fun z => kf z E p l e R s mid args below meth c H locs cells slots ls QQ C F ha hb hl kr)
theorem Ev_icmp_lt {x y : Int32} {off : Int} {tgt : Nat} (hd : decode M.2.1 pc = .ok (.if_icmp .lt off, 3)) (ht : (pc : Int) + off = (tgt : Int)) (kt : x < y → Ev M a b tgt L st h Q) (kf : ¬ x < y → Ev M a b (pc + 3) L st h Q) : Ev M a b pc L (.int y :: .int x :: st) h Q := by
  intro E p l e R s mid args below meth c H locs cells slots ls QQ C F ha hb hl kr
  exact lv_icmp_lt C.1 C.2.1 hd ht (fun z => kt z E p l e R s mid args below meth c H locs cells slots ls QQ C F ha hb hl kr) (fun z => kf z E p l e R s mid args below meth c H locs cells slots ls QQ C F ha hb hl kr)
theorem Ev_if_lt {x : Int32} {off : Int} {tgt : Nat} (hd : decode M.2.1 pc = .ok (.ifCond .lt off, 3)) (ht : (pc : Int) + off = (tgt : Int)) (kt : x < 0 → Ev M a b tgt L st h Q) (kf : ¬ x < 0 → Ev M a b (pc + 3) L st h Q) : Ev M a b pc L (.int x :: st) h Q := by
  intro E p l e R s mid args below meth c H locs cells slots ls QQ C F ha hb hl kr
  exact lv_if_lt C.1 C.2.1 hd ht (fun z => kt z E p l e R s mid args below meth c H locs cells slots ls QQ C F ha hb hl kr) (fun z => kf z E p l e R s mid args below meth c H locs cells slots ls QQ C F ha hb hl kr)
theorem Ev_icmp_ge {x y : Int32} {off : Int} {tgt : Nat} (hd : decode M.2.1 pc = .ok (.if_icmp .ge off, 3)) (ht : (pc : Int) + off = (tgt : Int)) (kt : y ≤ x → Ev M a b tgt L st h Q) (kf : ¬ y ≤ x → Ev M a b (pc + 3) L st h Q) : Ev M a b pc L (.int y :: .int x :: st) h Q := by
  intro E p l e R s mid args below meth c H locs cells slots ls QQ C F ha hb hl kr
  exact lv_icmp_ge C.1 C.2.1 hd ht (fun z => kt z E p l e R s mid args below meth c H locs cells slots ls QQ C F ha hb hl kr) (fun z => kf z E p l e R s mid args below meth c H locs cells slots ls QQ C F ha hb hl kr)
theorem Ev_if_ge {x : Int32} {off : Int} {tgt : Nat} (hd : decode M.2.1 pc = .ok (.ifCond .ge off, 3)) (ht : (pc : Int) + off = (tgt : Int)) (kt : 0 ≤ x → Ev M a b tgt L st h Q) (kf : ¬ 0 ≤ x → Ev M a b (pc + 3) L st h Q) : Ev M a b pc L (.int x :: st) h Q := by
  intro E p l e R s mid args below meth c H locs cells slots ls QQ C F ha hb hl kr
  exact lv_if_ge C.1 C.2.1 hd ht (fun z => kt z E p l e R s mid args below meth c H locs cells slots ls QQ C F ha hb hl kr) (fun z => kf z E p l e R s mid args below meth c H locs cells slots ls QQ C F ha hb hl kr)
theorem Ev_icmp_gt {x y : Int32} {off : Int} {tgt : Nat} (hd : decode M.2.1 pc = .ok (.if_icmp .gt off, 3)) (ht : (pc : Int) + off = (tgt : Int)) (kt : y < x → Ev M a b tgt L st h Q) (kf : ¬ y < x → Ev M a b (pc + 3) L st h Q) : Ev M a b pc L (.int y :: .int x :: st) h Q := by
  intro E p l e R s mid args below meth c H locs cells slots ls QQ C F ha hb hl kr
  exact lv_icmp_gt C.1 C.2.1 hd ht (fun z => kt z E p l e R s mid args below meth c H locs cells slots ls QQ C F ha hb hl kr) (fun z => kf z E p l e R s mid args below meth c H locs cells slots ls QQ C F ha hb hl kr)
theorem Ev_if_gt {x : Int32} {off : Int} {tgt : Nat} (hd : decode M.2.1 pc = .ok (.ifCond .gt off, 3)) (ht : (pc : Int) + off = (tgt : Int)) (kt : 0 < x → Ev M a b tgt L st h Q) (kf : ¬ 0 < x → Ev M a b (pc + 3) L st h Q) : Ev M a b pc L (.int x :: st) h Q := by
  intro E p l e R s mid args below meth c H locs cells slots ls QQ C F ha hb hl kr
  exact lv_if_gt C.1 C.2.1 hd ht (fun z => kt z E p l e R s mid args below meth c H locs cells slots ls QQ C F ha hb hl kr) (fun z => kf z E p l e R s mid args below meth c H locs cells slots ls QQ C F ha hb hl kr)
theorem Ev_icmp_le {x y : Int32} {off : Int} {tgt : Nat} (hd : decode M.2.1 pc = .ok (.if_icmp .le off, 3)) (ht : (pc : Int) + off = (tgt : Int)) (kt : x ≤ y → Ev M a b tgt L st h Q) (kf : ¬ x ≤ y → Ev M a b (pc + 3) L st h Q) : Ev M a b pc L (.int y :: .int x :: st) h Q := by
  intro E p l e R s mid args below meth c H locs cells slots ls QQ C F ha hb hl kr
  exact lv_icmp_le C.1 C.2.1 hd ht (fun z => kt z E p l e R s mid args below meth c H locs cells slots ls QQ C F ha hb hl kr) (fun z => kf z E p l e R s mid args below meth c H locs cells slots ls QQ C F ha hb hl kr)
theorem Ev_if_le {x : Int32} {off : Int} {tgt : Nat} (hd : decode M.2.1 pc = .ok (.ifCond .le off, 3)) (ht : (pc : Int) + off = (tgt : Int)) (kt : x ≤ 0 → Ev M a b tgt L st h Q) (kf : ¬ x ≤ 0 → Ev M a b (pc + 3) L st h Q) : Ev M a b pc L (.int x :: st) h Q := by
  intro E p l e R s mid args below meth c H locs cells slots ls QQ C F ha hb hl kr
  exact lv_if_le C.1 C.2.1 hd ht (fun z => kt z E p l e R s mid args below meth c H locs cells slots ls QQ C F ha hb hl kr) (fun z => kf z E p l e R s mid args below meth c H locs cells slots ls QQ C F ha hb hl kr)
theorem Ev_tableOut {dflt lo hi : Int} {offs : Array Int} {len : Nat} {x : Int32} {tgt : Nat} (hd : decode M.2.1 pc = .ok (.tableswitch dflt lo hi offs, len)) (hx : x.toInt < lo ∨ hi < x.toInt) (ht : (pc : Int) + dflt = (tgt : Int)) (k : Ev M a b tgt L st h Q) : Ev M a b pc L (.int x :: st) h Q := by
  intro E p l e R s mid args below meth c H locs cells slots ls QQ C F ha hb hl kr
  exact lv_tableOut C.1 C.2.1 hd hx ht (k E p l e R s mid args below meth c H locs cells slots ls QQ C F ha hb hl kr)
theorem Ev_tableIn {dflt lo hi : Int} {offs : Array Int} {len : Nat} {x : Int32} {off : Int} {tgt : Nat} (hd : decode M.2.1 pc = .ok (.tableswitch dflt lo hi offs, len)) (h1 : ¬ x.toInt < lo) (h2 : ¬ hi < x.toInt) (ho : offs[(x.toInt - lo).toNat]? = some off) (ht : (pc : Int) + off = (tgt : Int)) (k : Ev M a b tgt L st h Q) : Ev M a b pc L (.int x :: st) h Q := by
  intro E p l e R s mid args below meth c H locs cells slots ls QQ C F ha hb hl kr
  exact lv_tableIn C.1 C.2.1 hd h1 h2 ho ht (k E p l e R s mid args below meth c H locs cells slots ls QQ C F ha hb hl kr)
theorem Ev_ireturn {x : Int32} (hd : decode M.2.1 pc = .ok (.ireturn, 1)) (hr : M.2.2.2.1 = some .int) (hq : Q x h) : Ev M a b pc L [.int x] h Q := by
  intro E p l e R s mid args below meth c H locs cells slots ls QQ C F ha hb hl kr
  exact kr x h H locs cells slots pc ls [.int x] hq F (by omega) (by omega) (Or.inr ⟨rfl, hd, Or.inl hr⟩)
theorem Ev_zreturn {x : Int32} (hd : decode M.2.1 pc = .ok (.ireturn, 1)) (hr : M.2.2.2.1 = some .boolean) (hx : x = 0 ∨ x = 1) (hq : Q x h) : Ev M a b pc L [.int x] h Q := by
  intro E p l e R s mid args below meth c H locs cells slots ls QQ C F ha hb hl kr
  exact kr x h H locs cells slots pc ls [.int x] hq F (by omega) (by omega) (Or.inr ⟨rfl, hd, Or.inr ⟨hr, hx⟩⟩)
theorem Ev_return (hd : decode M.2.1 pc = .ok (.return_, 1)) (hr : M.2.2.2.1 = none) (hq : Q 0 h) : Ev M a b pc L [] h Q := by
  intro E p l e R s mid args below meth c H locs cells slots ls QQ C F ha hb hl kr
  exact kr 0 h H locs cells slots pc ls [] hq F (by omega) (by omega) (Or.inl ⟨hr, rfl, rfl, hd⟩)
end
end
section
/-! the classes: their fields' words, types and names -/
theorem x_layG : ∀ k, k < 14 → u_lay "TrainGuard" x_TG k ∈ x_W := fun k hk => match k, hk with
  | 0, _ => xw_lG_0
  | 1, _ => xw_lG_1
  | 2, _ => xw_lG_2
  | 3, _ => xw_lG_3
  | 4, _ => xw_lG_4
  | 5, _ => xw_lG_5
  | 6, _ => xw_lG_6
  | 7, _ => xw_lG_7
  | 8, _ => xw_lG_8
  | 9, _ => xw_lG_9
  | 10, _ => xw_lG_10
  | 11, _ => xw_lG_11
  | 12, _ => xw_lG_12
  | 13, _ => xw_lG_13
  | k + 14, h => absurd h (by omega)
theorem x_tokG : ∀ k, k < 14 → parseFieldDescriptor (x_TG k).2.2.1 = some (x_tyG k) := by decide +kernel
theorem x_nmG : ∀ a, a < 14 → ∀ b, b < 14 → a ≠ b → (x_TG a).2.1 ≠ (x_TG b).2.1 := by decide +kernel
theorem x_ownG : ∀ k, k < 14 → (x_TG k).1 = "TrainGuard" := by decide +kernel
theorem x_layFrt : ∀ k, k < 3 → u_lay "TrainGuard$Front" x_TFrt k ∈ x_W := fun k hk => match k, hk with
  | 0, _ => xw_lFrt_0
  | 1, _ => xw_lFrt_1
  | 2, _ => xw_lFrt_2
  | k + 3, h => absurd h (by omega)
theorem x_tokFrt : ∀ k, k < 3 → parseFieldDescriptor (x_TFrt k).2.2.1 = some (x_tyFrt k) := by decide +kernel
theorem x_nmFrt : ∀ a, a < 3 → ∀ b, b < 3 → a ≠ b → (x_TFrt a).2.1 ≠ (x_TFrt b).2.1 := by decide +kernel
theorem x_ownFrt : ∀ k, k < 3 → (x_TFrt k).1 = "TrainGuard$Front" := by decide +kernel
theorem x_layTrk : ∀ k, k < 8 → u_lay "TrainGuard$Track" x_TTrk k ∈ x_W := fun k hk => match k, hk with
  | 0, _ => xw_lTrk_0
  | 1, _ => xw_lTrk_1
  | 2, _ => xw_lTrk_2
  | 3, _ => xw_lTrk_3
  | 4, _ => xw_lTrk_4
  | 5, _ => xw_lTrk_5
  | 6, _ => xw_lTrk_6
  | 7, _ => xw_lTrk_7
  | k + 8, h => absurd h (by omega)
theorem x_tokTrk : ∀ k, k < 8 → parseFieldDescriptor (x_TTrk k).2.2.1 = some (x_tyTrk k) := by decide +kernel
theorem x_nmTrk : ∀ a, a < 8 → ∀ b, b < 8 → a ≠ b → (x_TTrk a).2.1 ≠ (x_TTrk b).2.1 := by decide +kernel
theorem x_ownTrk : ∀ k, k < 8 → (x_TTrk k).1 = "TrainGuard$Track" := by decide +kernel
theorem x_laySpn : ∀ k, k < 4 → u_lay "TrainGuard$SpanRow" x_TSpn k ∈ x_W := fun k hk => match k, hk with
  | 0, _ => xw_lSpn_0
  | 1, _ => xw_lSpn_1
  | 2, _ => xw_lSpn_2
  | 3, _ => xw_lSpn_3
  | k + 4, h => absurd h (by omega)
theorem x_tokSpn : ∀ k, k < 4 → parseFieldDescriptor (x_TSpn k).2.2.1 = some (x_tySpn k) := by decide +kernel
theorem x_nmSpn : ∀ a, a < 4 → ∀ b, b < 4 → a ≠ b → (x_TSpn a).2.1 ≠ (x_TSpn b).2.1 := by decide +kernel
theorem x_ownSpn : ∀ k, k < 4 → (x_TSpn k).1 = "TrainGuard$SpanRow" := by decide +kernel
theorem x_layRes : ∀ k, k < 2 → u_lay "TrainGuard$Restrictions" x_TRes k ∈ x_W := fun k hk => match k, hk with
  | 0, _ => xw_lRes_0
  | 1, _ => xw_lRes_1
  | k + 2, h => absurd h (by omega)
theorem x_tokRes : ∀ k, k < 2 → parseFieldDescriptor (x_TRes k).2.2.1 = some (x_tyRes k) := by decide +kernel
theorem x_nmRes : ∀ a, a < 2 → ∀ b, b < 2 → a ≠ b → (x_TRes a).2.1 ≠ (x_TRes b).2.1 := by decide +kernel
theorem x_ownRes : ∀ k, k < 2 → (x_TRes k).1 = "TrainGuard$Restrictions" := by decide +kernel
theorem x_layMrk : ∀ k, k < 5 → u_lay "TrainGuard$MarkRow" x_TMrk k ∈ x_W := fun k hk => match k, hk with
  | 0, _ => xw_lMrk_0
  | 1, _ => xw_lMrk_1
  | 2, _ => xw_lMrk_2
  | 3, _ => xw_lMrk_3
  | 4, _ => xw_lMrk_4
  | k + 5, h => absurd h (by omega)
theorem x_tokMrk : ∀ k, k < 5 → parseFieldDescriptor (x_TMrk k).2.2.1 = some (x_tyMrk k) := by decide +kernel
theorem x_nmMrk : ∀ a, a < 5 → ∀ b, b < 5 → a ≠ b → (x_TMrk a).2.1 ≠ (x_TMrk b).2.1 := by decide +kernel
theorem x_ownMrk : ∀ k, k < 5 → (x_TMrk k).1 = "TrainGuard$MarkRow" := by decide +kernel
theorem x_layBit : ∀ k, k < 4 → u_lay "TrainGuard$BitRow" x_TBit k ∈ x_W := fun k hk => match k, hk with
  | 0, _ => xw_lBit_0
  | 1, _ => xw_lBit_1
  | 2, _ => xw_lBit_2
  | 3, _ => xw_lBit_3
  | k + 4, h => absurd h (by omega)
theorem x_tokBit : ∀ k, k < 4 → parseFieldDescriptor (x_TBit k).2.2.1 = some (x_tyBit k) := by decide +kernel
theorem x_nmBit : ∀ a, a < 4 → ∀ b, b < 4 → a ≠ b → (x_TBit a).2.1 ≠ (x_TBit b).2.1 := by decide +kernel
theorem x_ownBit : ∀ k, k < 4 → (x_TBit k).1 = "TrainGuard$BitRow" := by decide +kernel
theorem x_layMsg : ∀ k, k < 14 → u_lay "TrainGuard$Message" x_TMsg k ∈ x_W := fun k hk => match k, hk with
  | 0, _ => xw_lMsg_0
  | 1, _ => xw_lMsg_1
  | 2, _ => xw_lMsg_2
  | 3, _ => xw_lMsg_3
  | 4, _ => xw_lMsg_4
  | 5, _ => xw_lMsg_5
  | 6, _ => xw_lMsg_6
  | 7, _ => xw_lMsg_7
  | 8, _ => xw_lMsg_8
  | 9, _ => xw_lMsg_9
  | 10, _ => xw_lMsg_10
  | 11, _ => xw_lMsg_11
  | 12, _ => xw_lMsg_12
  | 13, _ => xw_lMsg_13
  | k + 14, h => absurd h (by omega)
theorem x_tokMsg : ∀ k, k < 14 → parseFieldDescriptor (x_TMsg k).2.2.1 = some (x_tyMsg k) := by decide +kernel
theorem x_nmMsg : ∀ a, a < 14 → ∀ b, b < 14 → a ≠ b → (x_TMsg a).2.1 ≠ (x_TMsg b).2.1 := by decide +kernel
theorem x_ownMsg : ∀ k, k < 14 → (x_TMsg k).1 = "TrainGuard$Message" := by decide +kernel
theorem x_layCur : ∀ k, k < 8 → u_lay "TrainGuard$Curves" x_TCur k ∈ x_W := fun k hk => match k, hk with
  | 0, _ => xw_lCur_0
  | 1, _ => xw_lCur_1
  | 2, _ => xw_lCur_2
  | 3, _ => xw_lCur_3
  | 4, _ => xw_lCur_4
  | 5, _ => xw_lCur_5
  | 6, _ => xw_lCur_6
  | 7, _ => xw_lCur_7
  | k + 8, h => absurd h (by omega)
theorem x_tokCur : ∀ k, k < 8 → parseFieldDescriptor (x_TCur k).2.2.1 = some (x_tyCur k) := by decide +kernel
theorem x_nmCur : ∀ a, a < 8 → ∀ b, b < 8 → a ≠ b → (x_TCur a).2.1 ≠ (x_TCur b).2.1 := by decide +kernel
theorem x_ownCur : ∀ k, k < 8 → (x_TCur k).1 = "TrainGuard$Curves" := by decide +kernel
theorem x_layBrk : ∀ k, k < 3 → u_lay "TrainGuard$Brakes" x_TBrk k ∈ x_W := fun k hk => match k, hk with
  | 0, _ => xw_lBrk_0
  | 1, _ => xw_lBrk_1
  | 2, _ => xw_lBrk_2
  | k + 3, h => absurd h (by omega)
theorem x_tokBrk : ∀ k, k < 3 → parseFieldDescriptor (x_TBrk k).2.2.1 = some (x_tyBrk k) := by decide +kernel
theorem x_nmBrk : ∀ a, a < 3 → ∀ b, b < 3 → a ≠ b → (x_TBrk a).2.1 ≠ (x_TBrk b).2.1 := by decide +kernel
theorem x_ownBrk : ∀ k, k < 3 → (x_TBrk k).1 = "TrainGuard$Brakes" := by decide +kernel
theorem x_layNot : ∀ k, k < 3 → u_lay "TrainGuard$Notes" x_TNot k ∈ x_W := fun k hk => match k, hk with
  | 0, _ => xw_lNot_0
  | 1, _ => xw_lNot_1
  | 2, _ => xw_lNot_2
  | k + 3, h => absurd h (by omega)
theorem x_tokNot : ∀ k, k < 3 → parseFieldDescriptor (x_TNot k).2.2.1 = some (x_tyNot k) := by decide +kernel
theorem x_nmNot : ∀ a, a < 3 → ∀ b, b < 3 → a ≠ b → (x_TNot a).2.1 ≠ (x_TNot b).2.1 := by decide +kernel
theorem x_ownNot : ∀ k, k < 3 → (x_TNot k).1 = "TrainGuard$Notes" := by decide +kernel
theorem x_layMod : ∀ k, k < 44 → u_lay "TrainGuardModel" x_TMod k ∈ x_W := fun k hk => match k, hk with
  | 0, _ => xw_lMod_0
  | 1, _ => xw_lMod_1
  | 2, _ => xw_lMod_2
  | 3, _ => xw_lMod_3
  | 4, _ => xw_lMod_4
  | 5, _ => xw_lMod_5
  | 6, _ => xw_lMod_6
  | 7, _ => xw_lMod_7
  | 8, _ => xw_lMod_8
  | 9, _ => xw_lMod_9
  | 10, _ => xw_lMod_10
  | 11, _ => xw_lMod_11
  | 12, _ => xw_lMod_12
  | 13, _ => xw_lMod_13
  | 14, _ => xw_lMod_14
  | 15, _ => xw_lMod_15
  | 16, _ => xw_lMod_16
  | 17, _ => xw_lMod_17
  | 18, _ => xw_lMod_18
  | 19, _ => xw_lMod_19
  | 20, _ => xw_lMod_20
  | 21, _ => xw_lMod_21
  | 22, _ => xw_lMod_22
  | 23, _ => xw_lMod_23
  | 24, _ => xw_lMod_24
  | 25, _ => xw_lMod_25
  | 26, _ => xw_lMod_26
  | 27, _ => xw_lMod_27
  | 28, _ => xw_lMod_28
  | 29, _ => xw_lMod_29
  | 30, _ => xw_lMod_30
  | 31, _ => xw_lMod_31
  | 32, _ => xw_lMod_32
  | 33, _ => xw_lMod_33
  | 34, _ => xw_lMod_34
  | 35, _ => xw_lMod_35
  | 36, _ => xw_lMod_36
  | 37, _ => xw_lMod_37
  | 38, _ => xw_lMod_38
  | 39, _ => xw_lMod_39
  | 40, _ => xw_lMod_40
  | 41, _ => xw_lMod_41
  | 42, _ => xw_lMod_42
  | 43, _ => xw_lMod_43
  | k + 44, h => absurd h (by omega)
theorem x_tokMod : ∀ k, k < 44 → parseFieldDescriptor (x_TMod k).2.2.1 = some (x_tyMod k) := by decide +kernel
theorem x_nmMod : ∀ a, a < 44 → ∀ b, b < 44 → a ≠ b → (x_TMod a).2.1 ≠ (x_TMod b).2.1 := by decide +kernel
theorem x_ownMod : ∀ k, k < 44 → (x_TMod k).1 = "TrainGuardModel" := by decide +kernel
def x_clOk (ci : Nat) (q : vw_C) : Prop := (∀ w ∈ u_ws q.1 q.2.1 q.2.2, w ∈ x_W) ∧ (∀ k, k < q.2.2 → parseFieldDescriptor (q.2.1 k).2.2.1 = some (x_fty ci k)) ∧ (∀ a, a < q.2.2 → ∀ b, b < q.2.2 → a ≠ b → (q.2.1 a).2.1 ≠ (q.2.1 b).2.1) ∧ (∀ k, k < q.2.2 → (q.2.1 k).1 = q.1) ∧ Cond.instantiable q.1 q.2.2 ∈ x_W ∧ Cond.initialized q.1 ∈ x_W
theorem x_layW {C : String} {T : u_T} {N : Nat} (h : ∀ k, k < N → u_lay C T k ∈ x_W) : ∀ w ∈ u_ws C T N, w ∈ x_W := by
  intro w hw
  obtain ⟨k, hk, rfl⟩ := List.mem_map.mp hw
  exact h k (List.mem_range.mp hk)
theorem x_clok : ∀ (ci : Nat) (q : vw_C), x_cls[ci]? = some q → x_clOk ci q := fun ci q hq => match ci, hq with
  | 0, rfl => ⟨x_layW x_layG, x_tokG, x_nmG, x_ownG, xw_nG, xw_iG⟩
  | 1, rfl => ⟨x_layW x_layFrt, x_tokFrt, x_nmFrt, x_ownFrt, xw_nFrt, xw_iFrt⟩
  | 2, rfl => ⟨x_layW x_layTrk, x_tokTrk, x_nmTrk, x_ownTrk, xw_nTrk, xw_iTrk⟩
  | 3, rfl => ⟨x_layW x_laySpn, x_tokSpn, x_nmSpn, x_ownSpn, xw_nSpn, xw_iSpn⟩
  | 4, rfl => ⟨x_layW x_layRes, x_tokRes, x_nmRes, x_ownRes, xw_nRes, xw_iRes⟩
  | 5, rfl => ⟨x_layW x_layMrk, x_tokMrk, x_nmMrk, x_ownMrk, xw_nMrk, xw_iMrk⟩
  | 6, rfl => ⟨x_layW x_layBit, x_tokBit, x_nmBit, x_ownBit, xw_nBit, xw_iBit⟩
  | 7, rfl => ⟨x_layW x_layMsg, x_tokMsg, x_nmMsg, x_ownMsg, xw_nMsg, xw_iMsg⟩
  | 8, rfl => ⟨x_layW x_layCur, x_tokCur, x_nmCur, x_ownCur, xw_nCur, xw_iCur⟩
  | 9, rfl => ⟨x_layW x_layBrk, x_tokBrk, x_nmBrk, x_ownBrk, xw_nBrk, xw_iBrk⟩
  | 10, rfl => ⟨x_layW x_layNot, x_tokNot, x_nmNot, x_ownNot, xw_nNot, xw_iNot⟩
  | 11, rfl => ⟨x_layW x_layMod, x_tokMod, x_nmMod, x_ownMod, xw_nMod, xw_iMod⟩
  | ci + 12, h => by simp at h
end
section
/-! fields, arrays, statics, what is made: rows over EV -/
theorem x_bool {x : Int32} (hx : x = 0 ∨ x = 1) : narrow .boolean (.int x) = .int x ∧ fits .boolean (.int x) = true := by
  rcases hx with rfl | rfl <;> exact ⟨by decide, by decide⟩
theorem x_bnar {x : Int32} (hx : x = 0 ∨ x = 1) : vp_nar .boolean x = x := by
  rcases hx with rfl | rfl <;> decide
section
variable {M : x_M} {a b pc : Nat} {L : List (Option Value)} {st : List Value} {h : x_H} {Q : Int32 → x_H → Prop}
theorem x_nf_eq {ci : Nat} {q : vw_C} (hc : x_cls[ci]? = some q) : x_nf ci = q.2.2 := by simp only [x_nf, hc]
theorem x_fs_get (E : x_E) {ci P k : Nat} {q : vw_C} (hc : x_cls[ci]? = some q) (hk : k < q.2.2) : ((List.range (x_nf ci)).map (x_fv E h ci P))[k]? = some (x_fv E h ci P k) := by
  rw [x_nf_eq hc, List.getElem?_map, List.getElem?_range hk]
  rfl
theorem Ev_geti {P ci k index : Nat} {C : String} {T : u_T} {N : Nat} (hw : Cond.fieldLink M.1.cls index (T k).1 (T k).2.1 (T k).2.2.1 ∈ x_W) (hd : decode M.2.1 pc = .ok (.getfield index, 3)) (hc : x_cls[ci]? = some (C, T, N)) (hk : k < N) (hr : x_isR ci k = false) (hP : P < 1000) (hs : h.2.2[P]? = some (.inl ci))
    (kk : Ev M a b (pc + 3) L (.int (h.1 P k) :: st) h Q) : Ev M a b pc L (.ref P :: st) h Q := by
  intro E p l e R s mid args below meth c H locs cells slots ls QQ C0 F ha hb hl kr
  show W p l e R s mid args below meth c H locs cells slots QQ (F0 mid pc ls (.ref (x_ad E P) :: st.map (x_cv E)))
  rw [x_ad_lt E hP]
  have hv : ((List.range (x_nf ci)).map (x_fv E h ci P))[k]? = some (.int (h.1 P k)) := by rw [x_fs_get E hc hk]; simp [x_fv, hr]
  exact va_get (D := E.1) (cl := x_cls) (ws := x_ws E h) (tys := x_tys E) C0.1 C0.2.1 C0.2.2.2.2.1 (x_clok ci _ hc).1 C0.2.2.2.1 F.1 F.2.1 P (x_ws_obj E h hs) hc k hk (C0.2.2.2.2.1 _ hw) (fun _ z => z) hv hd (kk E p l e R s mid args below meth c H locs cells slots ls QQ C0 F ha hb hl kr)
theorem Ev_getr {P ci k index q : Nat} {C : String} {T : u_T} {N : Nat} (hw : Cond.fieldLink M.1.cls index (T k).1 (T k).2.1 (T k).2.2.1 ∈ x_W) (hd : decode M.2.1 pc = .ok (.getfield index, 3)) (hc : x_cls[ci]? = some (C, T, N)) (hk : k < N) (hr : x_isR ci k = true) (hP : P < 1000) (hs : h.2.2[P]? = some (.inl ci)) (hq : h.2.1 P k = some q)
    (kk : Ev M a b (pc + 3) L (.ref q :: st) h Q) : Ev M a b pc L (.ref P :: st) h Q := by
  intro E p l e R s mid args below meth c H locs cells slots ls QQ C0 F ha hb hl kr
  show W p l e R s mid args below meth c H locs cells slots QQ (F0 mid pc ls (.ref (x_ad E P) :: st.map (x_cv E)))
  rw [x_ad_lt E hP]
  have hv : ((List.range (x_nf ci)).map (x_fv E h ci P))[k]? = some (.ref (x_ad E q)) := by rw [x_fs_get E hc hk]; simp [x_fv, hr, hq, va_rf]
  exact va_get (D := E.1) (cl := x_cls) (ws := x_ws E h) (tys := x_tys E) C0.1 C0.2.1 C0.2.2.2.2.1 (x_clok ci _ hc).1 C0.2.2.2.1 F.1 F.2.1 P (x_ws_obj E h hs) hc k hk (C0.2.2.2.2.1 _ hw) (fun _ z => z) hv hd (kk E p l e R s mid args below meth c H locs cells slots ls QQ C0 F ha hb hl kr)
theorem Ev_getiN {P ci k index : Nat} {C host : String} {T : u_T} {N : Nat} (hw : Cond.fieldLinkNest M.1.cls index (T k).1 (T k).2.1 (T k).2.2.1 host ∈ x_N) (hd : decode M.2.1 pc = .ok (.getfield index, 3)) (hc : x_cls[ci]? = some (C, T, N)) (hk : k < N) (hr : x_isR ci k = false) (hP : P < 1000) (hs : h.2.2[P]? = some (.inl ci))
    (kk : Ev M a b (pc + 3) L (.int (h.1 P k) :: st) h Q) : Ev M a b pc L (.ref P :: st) h Q := by
  intro E p l e R s mid args below meth c H locs cells slots ls QQ C0 F ha hb hl kr
  show W p l e R s mid args below meth c H locs cells slots QQ (F0 mid pc ls (.ref (x_ad E P) :: st.map (x_cv E)))
  rw [x_ad_lt E hP]
  have hv : ((List.range (x_nf ci)).map (x_fv E h ci P))[k]? = some (.int (h.1 P k)) := by rw [x_fs_get E hc hk]; simp [x_fv, hr]
  exact va_getN (D := E.1) (cl := x_cls) (ws := x_ws E h) (tys := x_tys E) C0.1 C0.2.1 C0.2.2.2.2.1 (x_clok ci _ hc).1 C0.2.2.2.1 F.1 F.2.1 P (x_ws_obj E h hs) hc k hk (x_N_use hw (C0.2.2.2.2.2.2.2.2.1 _ hw)) (fun _ z => z) hv hd (kk E p l e R s mid args below meth c H locs cells slots ls QQ C0 F ha hb hl kr)
theorem Ev_getrN {P ci k index q : Nat} {C host : String} {T : u_T} {N : Nat} (hw : Cond.fieldLinkNest M.1.cls index (T k).1 (T k).2.1 (T k).2.2.1 host ∈ x_N) (hd : decode M.2.1 pc = .ok (.getfield index, 3)) (hc : x_cls[ci]? = some (C, T, N)) (hk : k < N) (hr : x_isR ci k = true) (hP : P < 1000) (hs : h.2.2[P]? = some (.inl ci)) (hq : h.2.1 P k = some q)
    (kk : Ev M a b (pc + 3) L (.ref q :: st) h Q) : Ev M a b pc L (.ref P :: st) h Q := by
  intro E p l e R s mid args below meth c H locs cells slots ls QQ C0 F ha hb hl kr
  show W p l e R s mid args below meth c H locs cells slots QQ (F0 mid pc ls (.ref (x_ad E P) :: st.map (x_cv E)))
  rw [x_ad_lt E hP]
  have hv : ((List.range (x_nf ci)).map (x_fv E h ci P))[k]? = some (.ref (x_ad E q)) := by rw [x_fs_get E hc hk]; simp [x_fv, hr, hq, va_rf]
  exact va_getN (D := E.1) (cl := x_cls) (ws := x_ws E h) (tys := x_tys E) C0.1 C0.2.1 C0.2.2.2.2.1 (x_clok ci _ hc).1 C0.2.2.2.1 F.1 F.2.1 P (x_ws_obj E h hs) hc k hk (x_N_use hw (C0.2.2.2.2.2.2.2.2.1 _ hw)) (fun _ z => z) hv hd (kk E p l e R s mid args below meth c H locs cells slots ls QQ C0 F ha hb hl kr)
/-- an int or a boolean fits -/
def x_okv (ci k : Nat) (x : Int32) : Prop := x_fty ci k = .int ∨ (x_fty ci k = .boolean ∧ (x = 0 ∨ x = 1))
theorem x_okv.R {ci k : Nat} {x : Int32} (h : x_okv ci k x) : x_isR ci k = false := by
  rcases h with h | ⟨h, -⟩ <;> simp [x_isR, h]
theorem x_okv.fit {ci k : Nat} {x : Int32} (h : x_okv ci k x) : narrow (x_fty ci k) (.int x) = .int x ∧ fits (x_fty ci k) (.int x) = true := by
  rcases h with h | ⟨h, hx⟩
  · rw [h]; exact ⟨rfl, rfl⟩
  · rw [h]; exact x_bool hx
theorem Ev_puti {P ci k index : Nat} {x : Int32} {C : String} {T : u_T} {N : Nat} (hw : Cond.fieldLink M.1.cls index (T k).1 (T k).2.1 (T k).2.2.1 ∈ x_W) (hd : decode M.2.1 pc = .ok (.putfield index, 3)) (hc : x_cls[ci]? = some (C, T, N)) (hk : k < N) (hfin : (T k).2.2.2 = false) (hP : P < 1000) (hs : h.2.2[P]? = some (.inl ci)) (hx : x_okv ci k x)
    (kk : Ev M a b (pc + 3) L st (x_up h.1 P k x, h.2.1, h.2.2) Q) : Ev M a b pc L (.int x :: .ref P :: st) h Q := by
  intro E p l e R s mid args below meth c H locs cells slots ls QQ C0 F ha hb hl kr
  show W p l e R s mid args below meth c H locs cells slots QQ (F0 mid pc ls (.int x :: .ref (x_ad E P) :: st.map (x_cv E)))
  rw [x_ad_lt E hP]
  obtain ⟨hin, hty, hnm, -⟩ := x_clok ci _ hc
  have hts := C0.2.2.2.2.1
  have he := x_ws_obj E h hs
  have hap := va_apart (own := M.1.cls) hts hin (x_fty ci) hty hnm F.1 hc
  obtain ⟨r, h1, cell, q1, q2, q3, q4⟩ := F.2.1 P _ he
  have hr : r = (C, T, N) := Option.some.inj (h1.symm.trans hc)
  subst hr
  obtain ⟨hS, hfc, kC, hkC, hkind⟩ := F.1.1 ci _ hc
  obtain ⟨cf, kf, fi, f, hi, hsl⟩ := hS k hk
  have hlay := hts _ (hin _ (u_in_lay hk))
  unfold u_lay at hlay
  rw [if_neg (by rw [hfin]; decide)] at hlay
  have hst := (u_facts hfc hkC (u_lays hts hin hk) hi).1
  have h6 := u_store hfc hkC hkind hlay hi (hty k hk) hx.fit.1 hx.fit.2
  refine W.putK C0.1 C0.2.1 (f := f) ⟨C0.2.2.2.1, hts _ hw, ⟨_, _, _, hi⟩, hst⟩ (by rw [q2]; exact h6) q1 q3 (by rw [hsl]; exact k2_hasslot (q4 k hk)) rfl rfl hd fun H' e1 e2 e3 => ?_
  rw [hsl] at e1 ⊢
  have hl2 : k < ((List.range (x_nf ci)).map (x_fv E h ci P)).length := by rw [List.length_map, List.length_range, x_nf_eq hc]; exact hk
  have hP' := F.2.1.set (x_ws_D E h) he (e := .inr (ci, ((List.range (x_nf ci)).map (x_fv E h ci P)).set k (.int x))) ⟨_, hc, t_OB.to (V := updV (vp_V ((List.range (x_nf ci)).map (x_fv E h ci P))) k (.int x)) ⟨_, e1, q2, q3, t_set q4 hap hk (.int x)⟩ (fun j _ => vp_updV_set hl2 (.int x) j)⟩ e3
  rw [x_ws_seti E h x hs hx.R] at hP'
  exact kk E p l e R s mid args below meth c H' _ cells slots ls QQ C0 ⟨F.1, hP', e2.trans F.2.2.1, F.2.2.2.put e2 e3 (Nat.le_add_right _ _)⟩ ha hb hl kr
theorem Ev_putiN {P ci k index : Nat} {x : Int32} {C host : String} {T : u_T} {N : Nat} (hw : Cond.fieldLinkNest M.1.cls index (T k).1 (T k).2.1 (T k).2.2.1 host ∈ x_N) (hd : decode M.2.1 pc = .ok (.putfield index, 3)) (hc : x_cls[ci]? = some (C, T, N)) (hk : k < N) (hfin : (T k).2.2.2 = false) (hP : P < 1000) (hs : h.2.2[P]? = some (.inl ci)) (hx : x_okv ci k x)
    (kk : Ev M a b (pc + 3) L st (x_up h.1 P k x, h.2.1, h.2.2) Q) : Ev M a b pc L (.int x :: .ref P :: st) h Q := by
  intro E p l e R s mid args below meth c H locs cells slots ls QQ C0 F ha hb hl kr
  show W p l e R s mid args below meth c H locs cells slots QQ (F0 mid pc ls (.int x :: .ref (x_ad E P) :: st.map (x_cv E)))
  rw [x_ad_lt E hP]
  obtain ⟨hin, hty, hnm, -⟩ := x_clok ci _ hc
  have hts := C0.2.2.2.2.1
  have he := x_ws_obj E h hs
  have hap := va_apart (own := M.1.cls) hts hin (x_fty ci) hty hnm F.1 hc
  obtain ⟨r, h1, cell, q1, q2, q3, q4⟩ := F.2.1 P _ he
  have hr : r = (C, T, N) := Option.some.inj (h1.symm.trans hc)
  subst hr
  obtain ⟨hS, hfc, kC, hkC, hkind⟩ := F.1.1 ci _ hc
  obtain ⟨cf, kf, fi, f, hi, hsl⟩ := hS k hk
  have hlay := hts _ (hin _ (u_in_lay hk))
  unfold u_lay at hlay
  rw [if_neg (by rw [hfin]; decide)] at hlay
  have hst := (u_facts hfc hkC (u_lays hts hin hk) hi).1
  have h6 := u_store hfc hkC hkind hlay hi (hty k hk) hx.fit.1 hx.fit.2
  refine va_WputK C0.1 C0.2.1 (f := f) C0.2.2.2.1 (x_N_use hw (C0.2.2.2.2.2.2.2.2.1 _ hw)) hi hst (by rw [q2]; exact h6) q1 q3 (by rw [hsl]; exact k2_hasslot (q4 k hk)) rfl rfl hd fun H' e1 e2 e3 => ?_
  rw [hsl] at e1 ⊢
  have hl2 : k < ((List.range (x_nf ci)).map (x_fv E h ci P)).length := by rw [List.length_map, List.length_range, x_nf_eq hc]; exact hk
  have hP' := F.2.1.set (x_ws_D E h) he (e := .inr (ci, ((List.range (x_nf ci)).map (x_fv E h ci P)).set k (.int x))) ⟨_, hc, t_OB.to (V := updV (vp_V ((List.range (x_nf ci)).map (x_fv E h ci P))) k (.int x)) ⟨_, e1, q2, q3, t_set q4 hap hk (.int x)⟩ (fun j _ => vp_updV_set hl2 (.int x) j)⟩ e3
  rw [x_ws_seti E h x hs hx.R] at hP'
  exact kk E p l e R s mid args below meth c H' _ cells slots ls QQ C0 ⟨F.1, hP', e2.trans F.2.2.1, F.2.2.2.put e2 e3 (Nat.le_add_right _ _)⟩ ha hb hl kr
/-- a final field, in its constructor -/
theorem x_putF {P ci k index : Nat} {v : Value} {C : String} {T : u_T} {N : Nat} {h' : x_H} (hw : Cond.fieldLink M.1.cls index (T k).1 (T k).2.1 (T k).2.2.1 ∈ x_W) (hd : decode M.2.1 pc = .ok (.putfield index, 3)) (hc : x_cls[ci]? = some (C, T, N)) (hk : k < N) (hfin : (T k).2.2.2 = true) (hown : M.1.cls = C) (hini : M.1.name = "<init>") (hP : P < 1000) (hs : h.2.2[P]? = some (.inl ci))
    (hfit : ∀ E : x_E, narrow (x_fty ci k) (x_cv E v) = x_cv E v ∧ fits (x_fty ci k) (x_cv E v) = true) (hlen : h'.2.2.length = h.2.2.length)
    (hset : ∀ E : x_E, (x_ws E h).set P (E.2.1.1 + P, .inr (ci, ((List.range (x_nf ci)).map (x_fv E h ci P)).set k (x_cv E v))) = x_ws E h')
    (kk : Ev M a b (pc + 3) L st h' Q) : Ev M a b pc L (v :: .ref P :: st) h Q := by
  intro E p l e R s mid args below meth c H locs cells slots ls QQ C0 F ha hb hl kr
  show W p l e R s mid args below meth c H locs cells slots QQ (F0 mid pc ls (x_cv E v :: .ref (x_ad E P) :: st.map (x_cv E)))
  rw [x_ad_lt E hP]
  obtain ⟨hin, hty, hnm, hdecl, -⟩ := x_clok ci _ hc
  have hts := C0.2.2.2.2.1
  have he := x_ws_obj E h hs
  have hap := va_apart (own := M.1.cls) hts hin (x_fty ci) hty hnm F.1 hc
  obtain ⟨r, h1, cell, q1, q2, q3, q4⟩ := F.2.1 P _ he
  have hr : r = (C, T, N) := Option.some.inj (h1.symm.trans hc)
  subst hr
  obtain ⟨hS, hfc, kC, hkC, hkind⟩ := F.1.1 ci _ hc
  obtain ⟨cf, kf, fi, f, hi, hsl⟩ := hS k hk
  have hlay := hts _ (hin _ (u_in_lay hk))
  unfold u_lay at hlay
  rw [if_pos hfin] at hlay
  have hst := (u_facts hfc hkC (u_lays hts hin hk) hi).1
  have hcf : mid.cls = cf := by
    obtain ⟨_, _, c', _, _, _, -, -, hf', -, -, -, hown2, -⟩ := Cond.laysFinal_spec hlay
    have e1 : c' = cf := by have := hi.symm.trans hf'; simp at this; exact this.1.symm
    have e2 : (T k).1 = M.1.cls := (hdecl k hk).trans hown.symm
    rw [e2] at hown2
    rw [← e1]; exact Option.some.inj (C0.2.2.2.1.symm.trans hown2)
  have h6 := u_fits hfc hkC hkind (Or.inr hlay) hi (hty k hk) (hfit E).1 (hfit E).2
  refine W.putFinK C0.1 C0.2.1 C0.2.2.2.1 (hts _ hw) hi hst hcf (C0.2.2.2.2.2.1 hini) (by rw [q2]; exact h6) q1 q3 (by rw [hsl]; exact k2_hasslot (q4 k hk)) rfl rfl hd fun H' e1 e2 e3 => ?_
  rw [hsl] at e1 ⊢
  have hl2 : k < ((List.range (x_nf ci)).map (x_fv E h ci P)).length := by rw [List.length_map, List.length_range, x_nf_eq hc]; exact hk
  have hP' := F.2.1.set (x_ws_D E h) he (e := .inr (ci, ((List.range (x_nf ci)).map (x_fv E h ci P)).set k (x_cv E v))) ⟨_, hc, t_OB.to (V := updV (vp_V ((List.range (x_nf ci)).map (x_fv E h ci P))) k (x_cv E v)) ⟨_, e1, q2, q3, t_set q4 hap hk (x_cv E v)⟩ (fun j _ => vp_updV_set hl2 (x_cv E v) j)⟩ e3
  rw [hset E] at hP'
  exact kk E p l e R s mid args below meth c H' _ cells slots ls QQ C0 ⟨F.1, hP', by rw [hlen]; exact e2.trans F.2.2.1, F.2.2.2.put e2 e3 (Nat.le_add_right _ _)⟩ ha hb hl kr
theorem Ev_putiF {P ci k index : Nat} {x : Int32} {C : String} {T : u_T} {N : Nat} (hw : Cond.fieldLink M.1.cls index (T k).1 (T k).2.1 (T k).2.2.1 ∈ x_W) (hd : decode M.2.1 pc = .ok (.putfield index, 3)) (hc : x_cls[ci]? = some (C, T, N)) (hk : k < N) (hfin : (T k).2.2.2 = true) (hown : M.1.cls = C) (hini : M.1.name = "<init>") (hP : P < 1000) (hs : h.2.2[P]? = some (.inl ci)) (hx : x_okv ci k x)
    (kk : Ev M a b (pc + 3) L st (x_up h.1 P k x, h.2.1, h.2.2) Q) : Ev M a b pc L (.int x :: .ref P :: st) h Q :=
  x_putF (h' := (x_up h.1 P k x, h.2.1, h.2.2)) hw hd hc hk hfin hown hini hP hs (fun _ => hx.fit) rfl (fun E => x_ws_seti E h x hs hx.R) kk
theorem Ev_putrF {P ci k index q : Nat} {C : String} {T : u_T} {N : Nat} (hw : Cond.fieldLink M.1.cls index (T k).1 (T k).2.1 (T k).2.2.1 ∈ x_W) (hd : decode M.2.1 pc = .ok (.putfield index, 3)) (hc : x_cls[ci]? = some (C, T, N)) (hk : k < N) (hfin : (T k).2.2.2 = true) (hown : M.1.cls = C) (hini : M.1.name = "<init>") (hP : P < 1000) (hs : h.2.2[P]? = some (.inl ci)) (hr : x_isR ci k = true) (hfit : ∀ z : Nat, narrow (x_fty ci k) (.ref z) = .ref z ∧ fits (x_fty ci k) (.ref z) = true)
    (kk : Ev M a b (pc + 3) L st (h.1, x_upR h.2.1 P k q, h.2.2) Q) : Ev M a b pc L (.ref q :: .ref P :: st) h Q :=
  x_putF (h' := (h.1, x_upR h.2.1 P k q, h.2.2)) hw hd hc hk hfin hown hini hP hs (fun E => hfit (x_ad E q)) rfl (fun E => x_ws_setr E h q hs hr) kk
/-! arrays -/
theorem x_ty_at (E : x_E) : (x_tys E)[0]? = some (x_ca E 0, .int) ∧ (x_tys E)[1]? = some (x_ca E 1, .byte) ∧ (x_tys E)[2]? = some (x_ca E 2, .boolean) := ⟨rfl, rfl, rfl⟩
theorem Ev_iald {P n : Nat} {i : Int32} (hd : decode M.2.1 pc = .ok (.iaload, 1)) (hP : P < 1000) (hs : h.2.2[P]? = some (.inr (0, n))) (hi : vp_in i n) (kk : Ev M a b (pc + 1) L (.int (h.1 P i.toNatClampNeg) :: st) h Q) : Ev M a b pc L (.int i :: .ref P :: st) h Q := by
  intro E p l e R s mid args below meth c H locs cells slots ls QQ C0 F ha hb hl kr
  show W p l e R s mid args below meth c H locs cells slots QQ (F0 mid pc ls (.int i :: .ref (x_ad E P) :: st.map (x_cv E)))
  rw [x_ad_lt E hP]
  exact va_iald (D := E.1) (cl := x_cls) (ws := x_ws E h) (tys := x_tys E) C0.1 C0.2.1 F.1 F.2.1 P 0 (x_ws_arr E h hs) (x_ty_at E).1 hi hd (kk E p l e R s mid args below meth c H locs cells slots ls QQ C0 F ha hb hl kr)
theorem Ev_bald {P n : Nat} {i : Int32} (hd : decode M.2.1 pc = .ok (.baload, 1)) (hP : P < 1000) (hs : h.2.2[P]? = some (.inr (1, n))) (hi : vp_in i n) (kk : Ev M a b (pc + 1) L (.int (h.1 P i.toNatClampNeg) :: st) h Q) : Ev M a b pc L (.int i :: .ref P :: st) h Q := by
  intro E p l e R s mid args below meth c H locs cells slots ls QQ C0 F ha hb hl kr
  show W p l e R s mid args below meth c H locs cells slots QQ (F0 mid pc ls (.int i :: .ref (x_ad E P) :: st.map (x_cv E)))
  rw [x_ad_lt E hP]
  exact va_bald (D := E.1) (cl := x_cls) (ws := x_ws E h) (tys := x_tys E) C0.1 C0.2.1 F.1 F.2.1 P 1 (x_ws_arr E h hs) (x_ty_at E).2.1 hi hd (kk E p l e R s mid args below meth c H locs cells slots ls QQ C0 F ha hb hl kr)
theorem Ev_zald {P n : Nat} {i : Int32} (hd : decode M.2.1 pc = .ok (.baload, 1)) (hP : P < 1000) (hs : h.2.2[P]? = some (.inr (2, n))) (hi : vp_in i n) (kk : Ev M a b (pc + 1) L (.int (h.1 P i.toNatClampNeg) :: st) h Q) : Ev M a b pc L (.int i :: .ref P :: st) h Q := by
  intro E p l e R s mid args below meth c H locs cells slots ls QQ C0 F ha hb hl kr
  show W p l e R s mid args below meth c H locs cells slots QQ (F0 mid pc ls (.int i :: .ref (x_ad E P) :: st.map (x_cv E)))
  rw [x_ad_lt E hP]
  exact va_zald (D := E.1) (cl := x_cls) (ws := x_ws E h) (tys := x_tys E) C0.1 C0.2.1 F.1 F.2.1 P 2 (x_ws_arr E h hs) (x_ty_at E).2.2 hi hd (kk E p l e R s mid args below meth c H locs cells slots ls QQ C0 F ha hb hl kr)
theorem x_arr_set (E : x_E) {P n ty : Nat} {i : Int32} {v : Int32} {H H' : Heap} (F : va_P E.1 x_cls (x_ws E h) H) (hs : h.2.2[P]? = some (.inr (ty, n))) (hi : vp_in i n)
    (e1 : H'[E.2.1.1 + P]? = some ((vp_cell (x_ca E ty) (n, .inl (h.1 P))).setSlot i.toNatClampNeg (.int v))) (e3 : ∀ q, q ≠ E.2.1.1 + P → H'[q]? = H[q]?) : va_P E.1 x_cls (x_ws E (x_up h.1 P i.toNatClampNeg v, h.2.1, h.2.2)) H' := by
  have hP' := F.set (x_ws_D E h) (x_ws_arr E h hs) (e := .inl (x_ca E ty, n, .inl (upd (h.1 P) i.toNatClampNeg v))) (H1 := H') ?_ e3
  · rw [x_ws_seta E h v hs] at hP'
    exact hP'
  · show H'[E.2.1.1 + P]? = some (vp_cell _ _)
    rw [e1]
    rw [vp_cell_i, vp_cell_i, arrV_store]
    congr 2
    funext q
    by_cases hq : q = i.toNatClampNeg
    · subst hq
      simp [updV, upd]
    · simp [updV, upd, hq]
theorem Ev_iast {P n : Nat} {i x : Int32} (hd : decode M.2.1 pc = .ok (.iastore, 1)) (hP : P < 1000) (hs : h.2.2[P]? = some (.inr (0, n))) (hi : vp_in i n) (kk : Ev M a b (pc + 1) L st (x_up h.1 P i.toNatClampNeg x, h.2.1, h.2.2) Q) : Ev M a b pc L (.int x :: .int i :: .ref P :: st) h Q := by
  intro E p l e R s mid args below meth c H locs cells slots ls QQ C0 F ha hb hl kr
  show W p l e R s mid args below meth c H locs cells slots QQ (F0 mid pc ls (.int x :: .int i :: .ref (x_ad E P) :: st.map (x_cv E)))
  rw [x_ad_lt E hP]
  refine W.iast C0.1 C0.2.1 (F.2.1 P _ (x_ws_arr E h hs)) ((F.1.2 0 _ (x_ty_at E).1).1 n (fun j => .int (h.1 P j))) (fun q => by cases q) (by show ¬ (i < 0 ∨ (arrV _ _ _).slots.size ≤ _); rw [arrV_size]; exact hi) rfl rfl hd fun H' e1 e2 e3 => ?_
  exact kk E p l e R s mid args below meth c H' _ cells slots ls QQ C0 ⟨F.1, x_arr_set E F.2.1 hs hi e1 e3, e2.trans F.2.2.1, F.2.2.2.put e2 e3 (Nat.le_add_right _ _)⟩ ha hb hl kr
theorem Ev_bast {P n : Nat} {i x : Int32} (hd : decode M.2.1 pc = .ok (.bastore, 1)) (hP : P < 1000) (hs : h.2.2[P]? = some (.inr (1, n))) (hi : vp_in i n) (kk : Ev M a b (pc + 1) L st (x_up h.1 P i.toNatClampNeg x.toInt8.toInt32, h.2.1, h.2.2) Q) : Ev M a b pc L (.int x :: .int i :: .ref P :: st) h Q := by
  intro E p l e R s mid args below meth c H locs cells slots ls QQ C0 F ha hb hl kr
  show W p l e R s mid args below meth c H locs cells slots QQ (F0 mid pc ls (.int x :: .int i :: .ref (x_ad E P) :: st.map (x_cv E)))
  rw [x_ad_lt E hP]
  refine W.bast C0.1 C0.2.1 (F.2.1 P _ (x_ws_arr E h hs)) ((F.1.2 1 _ (x_ty_at E).2.1).1 n (fun j => .int (h.1 P j))) (fun q => by cases q) (by show ¬ (i < 0 ∨ (arrV _ _ _).slots.size ≤ _); rw [arrV_size]; exact hi) rfl rfl hd fun H' e1 e2 e3 => ?_
  exact kk E p l e R s mid args below meth c H' _ cells slots ls QQ C0 ⟨F.1, x_arr_set E F.2.1 hs hi e1 e3, e2.trans F.2.2.1, F.2.2.2.put e2 e3 (Nat.le_add_right _ _)⟩ ha hb hl kr
theorem Ev_zast {P n : Nat} {i x : Int32} (hd : decode M.2.1 pc = .ok (.bastore, 1)) (hP : P < 1000) (hs : h.2.2[P]? = some (.inr (2, n))) (hi : vp_in i n) (hx : x = 0 ∨ x = 1) (kk : Ev M a b (pc + 1) L st (x_up h.1 P i.toNatClampNeg x, h.2.1, h.2.2) Q) : Ev M a b pc L (.int x :: .int i :: .ref P :: st) h Q := by
  intro E p l e R s mid args below meth c H locs cells slots ls QQ C0 F ha hb hl kr
  show W p l e R s mid args below meth c H locs cells slots QQ (F0 mid pc ls (.int x :: .int i :: .ref (x_ad E P) :: st.map (x_cv E)))
  rw [x_ad_lt E hP]
  refine W.zast C0.1 C0.2.1 (F.2.1 P _ (x_ws_arr E h hs)) ((F.1.2 2 _ (x_ty_at E).2.2).1 n (fun j => .int (h.1 P j))) (fun q => by cases q) (by show ¬ (i < 0 ∨ (arrV _ _ _).slots.size ≤ _); rw [arrV_size]; exact hi) rfl rfl hd fun H' e1 e2 e3 => ?_
  rw [(x_bool hx).1] at e1
  exact kk E p l e R s mid args below meth c H' _ cells slots ls QQ C0 ⟨F.1, x_arr_set E F.2.1 hs hi e1 e3, e2.trans F.2.2.1, F.2.2.2.put e2 e3 (Nat.le_add_right _ _)⟩ ha hb hl kr
theorem Ev_alen {P n ty : Nat} {v : Int32} (hd : decode M.2.1 pc = .ok (.arraylength, 1)) (hP : P < 1000) (hs : h.2.2[P]? = some (.inr (ty, n))) (hv : Int32.ofNat n = v) (kk : Ev M a b (pc + 1) L (.int v :: st) h Q) : Ev M a b pc L (.ref P :: st) h Q := by
  intro E p l e R s mid args below meth c H locs cells slots ls QQ C0 F ha hb hl kr
  show W p l e R s mid args below meth c H locs cells slots QQ (F0 mid pc ls (.ref (x_ad E P) :: st.map (x_cv E)))
  rw [x_ad_lt E hP]
  have hty : ∃ (t0 : Nat) (tt : FieldType), (x_tys E)[t0]? = some (x_ca E ty, tt) := by
    match ty with
    | 0 => exact ⟨0, _, rfl⟩
    | 1 => exact ⟨1, _, rfl⟩
    | k + 2 => exact ⟨2, _, rfl⟩
  obtain ⟨t0, tt, ht⟩ := hty
  exact va_alen (D := E.1) (cl := x_cls) (ws := x_ws E h) (tys := x_tys E) C0.1 C0.2.1 F.1 F.2.1 P t0 (x_ws_arr E h hs) ht hv hd (kk E p l e R s mid args below meth c H locs cells slots ls QQ C0 F ha hb hl kr)
end
end
section
/-! statics, the script, what is made, calls: rows over EV -/
section
variable {M : x_M} {a b pc : Nat} {L : List (Option Value)} {st : List Value} {h : x_H} {Q : Int32 → x_H → Prop}
/-- Message.IDS -/
theorem Ev_ids {index : Nat} (hw : Cond.fieldLink M.1.cls index "TrainGuard$Message" "IDS" "[I" ∈ x_W) (hd : decode M.2.1 pc = .ok (.getstatic index, 3)) (kk : Ev M a b (pc + 3) L (.ref 1001 :: st) h Q) : Ev M a b pc L st h Q := by
  intro E p l e R s mid args below meth c H locs cells slots ls QQ C0 F ha hb hl kr
  exact va_gets C0.1 C0.2.1 C0.2.2.2.2.2.2.2.2.2.1 F.2.2.2 C0.2.2.2.1 (C0.2.2.2.2.1 _ hw) (fun _ z => z) hd (kk E p l e R s mid args below meth c H locs cells slots ls QQ C0 F ha hb hl kr)
theorem Ev_idsld {i : Int32} (hd : decode M.2.1 pc = .ok (.iaload, 1)) (hi : vp_in i 6) (kk : Ev M a b (pc + 1) L (.int (x_ids i.toNatClampNeg) :: st) h Q) : Ev M a b pc L (.int i :: .ref 1001 :: st) h Q := by
  intro E p l e R s mid args below meth c H locs cells slots ls QQ C0 F ha hb hl kr
  obtain ⟨cell, h1, h2, h3, h4, h5, h6, h7⟩ := C0.2.2.2.2.2.2.2.2.2.2.1
  have hlt : i.toNatClampNeg < 6 := Nat.not_le.mp fun q => hi (Or.inr q)
  have hb2 : E.2.1.2.2 < s.heap.size := (Array.getElem?_eq_some_iff.mp h1).1
  exact W.iald (v := .int (x_ids i.toNatClampNeg)) C0.1 C0.2.1 (a := E.2.1.2.2) (by rw [F.2.2.2.2.1 _ hb2 h7]; exact h1) h2 h3 (fun z => z.elim (fun q => hi (Or.inl q)) (fun q => by omega)) (h6 _ hlt) rfl rfl hd (kk E p l e R s mid args below meth c H locs cells slots ls QQ C0 F ha hb hl kr)
theorem Ev_idslen (hd : decode M.2.1 pc = .ok (.arraylength, 1)) (kk : Ev M a b (pc + 1) L (.int 6 :: st) h Q) : Ev M a b pc L (.ref 1001 :: st) h Q := by
  intro E p l e R s mid args below meth c H locs cells slots ls QQ C0 F ha hb hl kr
  obtain ⟨cell, h1, h2, h3, h4, h5, h6, h7⟩ := C0.2.2.2.2.2.2.2.2.2.2.1
  have hb2 : E.2.1.2.2 < s.heap.size := (Array.getElem?_eq_some_iff.mp h1).1
  exact W.alen (n := 6) C0.1 C0.2.1 (a := E.2.1.2.2) (by rw [F.2.2.2.2.1 _ hb2 h7]; exact h1) h2 h5 rfl rfl hd (kk E p l e R s mid args below meth c H locs cells slots ls QQ C0 F ha hb hl kr)
/-! made: an object, an array -/
theorem Ev_new {ci index : Nat} {C : String} {T : u_T} {N : Nat} (hw : Cond.classLink M.1.cls index C ∈ x_W) (hd : decode M.2.1 pc = .ok (.new index, 3)) (hc : x_cls[ci]? = some (C, T, N)) (hP : h.2.2.length < 1000) (hz : ∀ j, h.1 h.2.2.length j = 0) (hr : ∀ j, h.2.1 h.2.2.length j = none) (hdf : ∀ k, k < N → defaultValue (x_fty ci k) = if x_isR ci k = true then .null else .int 0)
    (kk : Ev M a b (pc + 3) L (.ref h.2.2.length :: st) (h.1, h.2.1, h.2.2 ++ [.inl ci]) Q) : Ev M (a + 1) (b + N) pc L st h Q := by
  intro E p l e R s mid args below meth c H locs cells slots ls QQ C0 F ha hb hl kr
  obtain ⟨hin, hty, hnm, hdecl, hinst, hini⟩ := x_clok ci _ hc
  have hts := C0.2.2.2.2.1
  have hKn := F.1.1 ci _ hc
  have hsz := F.2.2.1
  refine W.newcK C0.1 C0.2.1 C0.2.2.2.1 (hts _ hw) (hts _ hinst) (hts _ hini) rfl hd (by omega) (by show slots + N ≤ R.slots; omega) hKn.2.1 hsz fun H1 kC hkC e1 z1 o1 => ?_
  have hk : ∀ (k : Nat) (x : Nat × va_E), (x_ws E h)[k]? = some x → H1[x.1]? = H[x.1]? := fun k x hx => o1 x.1 (by have := (F.2.1 k x hx).lt; omega)
  have hP1 : va_P E.1 x_cls (x_ws E (h.1, h.2.1, h.2.2 ++ [.inl ci])) H1 := by
    rw [x_ws_push]
    refine (F.2.1.kept hk).app (fun k x hx => ?_)
    have hz1 : k < 1 := (List.getElem?_eq_some_iff.mp hx).1
    rw [show k = 0 by omega] at hx
    cases hx
    have hcell : x_cell E (h.1, h.2.1, h.2.2 ++ [.inl ci]) h.2.2.length = .inr (ci, (List.range (x_nf ci)).map (x_fv E (h.1, h.2.1, h.2.2 ++ [.inl ci]) ci h.2.2.length)) := by
      unfold x_cell
      simp
    show va_at _ _ (_, x_cell E _ _) _
    rw [hcell]
    refine ⟨_, hc, (u_born (x_fty ci) hts hin hKn hkC e1 hty).to fun j hj => ?_⟩
    show _ = ((List.range (x_nf ci)).map (x_fv E (h.1, h.2.1, h.2.2 ++ [.inl ci]) ci h.2.2.length)).getD j Value.null
    rw [hdf j hj, x_nf_eq hc, List.getD_eq_getElem?_getD, List.getElem?_map, List.getElem?_range hj]
    simp [x_fv, hz, hr, va_rf]
  have hS1 : va_S (x_A E) s.heap H1 locs := ⟨Nat.le_trans F.2.2.2.1 (by omega), fun x h1 h2 => (o1 x (by have := F.2.2.2.1; omega)).trans (F.2.2.2.2.1 x h1 h2), F.2.2.2.2.2⟩
  have hfin := kk E p l e R s mid args below meth c H1 locs (cells + 1) (slots + N) ls QQ C0 ⟨F.1, hP1, by rw [z1]; show _ = E.2.1.1 + (h.2.2 ++ [Sum.inl ci]).length; simp; omega, hS1⟩ (by omega) (by omega) hl kr
  have he : x_cv E (.ref h.2.2.length) = .ref (E.2.1.1 + h.2.2.length) := by show Value.ref (x_ad E _) = _; rw [x_ad_lt E hP]
  rw [List.map_cons, he] at hfin
  exact hfin
theorem Ev_newa {ty n : Nat} {at0 : ArrayType} {nn : Int32} (hw : Cond.arrayClass (newarray.typeOf at0) ∈ x_W) (hd : decode M.2.1 pc = .ok (.newarray at0, 2)) (hty : (at0 = .int ∧ ty = 0) ∨ (at0 = .byte ∧ ty = 1) ∨ (at0 = .boolean ∧ ty = 2)) (hn0 : ¬ nn < 0) (hn : nn.toNatClampNeg = n) (hn2 : n ≤ 100000) (hP : h.2.2.length < 1000) (hz : ∀ j, h.1 h.2.2.length j = 0)
    (kk : Ev M a b (pc + 2) L (.ref h.2.2.length :: st) (h.1, h.2.1, h.2.2 ++ [.inr (ty, n)]) Q) : Ev M (a + 1) (b + n) pc L (.int nn :: st) h Q := by
  intro E p l e R s mid args below meth c H locs cells slots ls QQ C0 F ha hb hl kr
  have hts := C0.2.2.2.2.1
  have hsz := F.2.2.1
  have hbytes : n * componentBytes (newarray.typeOf at0) ≤ 536870912 := by
    rcases hty with ⟨rfl, -⟩ | ⟨rfl, -⟩ | ⟨rfl, -⟩
    · show n * 4 ≤ _; omega
    · show n * 1 ≤ _; omega
    · show n * 1 ≤ _; omega
  refine va_newaK C0.1 C0.2.1 (hts _ hw) rfl hd rfl hn0 hn hbytes (by omega) (by omega) hsz fun H1 cA e1 z1 o1 hAr hNm => ?_
  have hca : cA = x_ca E ty ∧ defaultValue (newarray.typeOf at0) = .int 0 := by
    rcases hty with ⟨rfl, rfl⟩ | ⟨rfl, rfl⟩ | ⟨rfl, rfl⟩
    · have h0 : s.vm.findClass ("[" ++ FieldType.int.toString) = some (x_ca E 0) := (F.1.2 0 _ (x_ty_at E).1).2
      exact ⟨Option.some.inj (hNm.symm.trans h0), rfl⟩
    · have h0 : s.vm.findClass ("[" ++ FieldType.byte.toString) = some (x_ca E 1) := (F.1.2 1 _ (x_ty_at E).2.1).2
      exact ⟨Option.some.inj (hNm.symm.trans h0), rfl⟩
    · have h0 : s.vm.findClass ("[" ++ FieldType.boolean.toString) = some (x_ca E 2) := (F.1.2 2 _ (x_ty_at E).2.2).2
      exact ⟨Option.some.inj (hNm.symm.trans h0), rfl⟩
  have hk : ∀ (k : Nat) (x : Nat × va_E), (x_ws E h)[k]? = some x → H1[x.1]? = H[x.1]? := fun k x hx => o1 x.1 (by have := (F.2.1 k x hx).lt; omega)
  have hP1 : va_P E.1 x_cls (x_ws E (h.1, h.2.1, h.2.2 ++ [.inr (ty, n)])) H1 := by
    rw [x_ws_push]
    refine (F.2.1.kept hk).app (fun k x hx => ?_)
    have hz1 : k < 1 := (List.getElem?_eq_some_iff.mp hx).1
    rw [show k = 0 by omega] at hx
    cases hx
    have hcell : x_cell E (h.1, h.2.1, h.2.2 ++ [.inr (ty, n)]) h.2.2.length = .inl (x_ca E ty, n, .inl (h.1 h.2.2.length)) := by
      unfold x_cell
      simp
    show va_at _ _ (_, x_cell E _ _) _
    rw [hcell]
    show H1[_]? = some (vp_cell _ _)
    rw [e1, vp_cell_i, hca.1, hca.2]
    congr 2
    funext j
    rw [hz j]
  have hS1 : va_S (x_A E) s.heap H1 locs := ⟨Nat.le_trans F.2.2.2.1 (by omega), fun x h1 h2 => (o1 x (by have := F.2.2.2.1; omega)).trans (F.2.2.2.2.1 x h1 h2), F.2.2.2.2.2⟩
  have hfin := kk E p l e R s mid args below meth c H1 locs (cells + 1) (slots + n) ls QQ C0 ⟨F.1, hP1, by rw [z1]; show _ = E.2.1.1 + (h.2.2 ++ [Sum.inr (ty, n)]).length; simp; omega, hS1⟩ (by omega) (by omega) hl kr
  have he : x_cv E (.ref h.2.2.length) = .ref (E.2.1.1 + h.2.2.length) := by show Value.ref (x_ad E _) = _; rw [x_ad_lt E hP]
  rw [List.map_cons, he] at hfin
  exact hfin
/-- Object() -/
theorem Ev_obj {index q : Nat} (hw : Cond.methodLink M.1.cls index Lib.objectInit ∈ x_W) (hd : decode M.2.1 pc = .ok (.invokespecial index, 3)) (hfr : 1 ≤ M.2.2.2.2.1) (hlo : 12 ≤ M.2.2.2.2.2) (kk : Ev M a b (pc + 3) L [] h Q) : Ev M a b pc L [.ref q] h Q := by
  intro E p l e R s mid args below meth c H locs cells slots ls QQ C0 F ha hb hl kr
  have hts := C0.2.2.2.2.1
  exact W.objInit C0.1 C0.2.1 C0.2.2.2.1 (hts _ hw) (hts _ xw_oi) (hts _ xw_oc) rfl (hl.1.1.trans C0.2.2.1.symm) rfl hd (Nat.le_trans hfr C0.2.2.2.2.2.2.1) (by have := C0.2.2.2.2.2.2.2.1; show 2 * 0 + 0 + 12 ≤ R.locals; omega) (kk E p l e R s mid args below meth c H locs cells slots ls QQ C0 F ha hb hl kr)
end
/-! a method as a whole -/
theorem Call.mono {M : x_M} {a b : Nat} {args : List Value} {h : x_H} {Q Q' : Int32 → x_H → Prop} (k : Call M a b args h Q) (hq : ∀ r h', Q r h' → Q' r h') : Call M a b args h Q' := by
  intro l E
  refine MetFree.mono (k l E) (fun _ _ z => z) (fun _ _ _ _ _ z => z) (fun aa st o t _ z => ⟨?_, z.2⟩)
  have z1 := z.1
  revert z1
  unfold x_Q
  cases M.2.2.2.1 with
  | none => exact fun z1 => ⟨let ⟨u, e1, e2, e3⟩ := z1.1; ⟨u, e1, hq _ _ e2, e3⟩, z1.2⟩
  | some ty => exact fun z1 => ⟨let ⟨r, u, e1, e2, e3⟩ := z1.1; ⟨r, u, e1, hq _ _ e2, e3⟩, z1.2⟩
theorem Call_of {M : x_M} {a b : Nat} {args : List Value} {h : x_H} {Q : Int32 → x_H → Prop} {L : List (Option Value)} (hp : plainName M.1.cls = true) (hcat : ∀ v ∈ args, v.category = 1) (hlen : args.length ≤ M.2.2.1) (hL : args.map some ++ List.replicate (M.2.2.1 - args.length) none = L) (k : Ev M a b 0 L [] h Q) : Call M a b args h Q := by
  subst hL
  intro l E
  refine Met.ofW (cc := M.2.1) (maxL := M.2.2.1) (ret := M.2.2.2.1) hp rfl ?_
  intro p e s m args' below meth c s₁ B hml hv
  obtain ⟨rfl, hD⟩ := hv
  have hts : ∀ w ∈ x_wsM M, w.before (args.map (x_cv E)).toArray s = true := atoms_spec (ws := x_wsM M) B.pre
  have hown : s.vm.findClass M.1.cls = some m.cls := findClass_of_methodNamed B.named
  have hin : M.1.name = "<init>" → meth.name = "<init>" := fun z => (name_of_methodNamed B.named B.method).1.trans z
  have hcat2 : ∀ v ∈ args.map (x_cv E), v.category = 1 := by
    intro v hv
    obtain ⟨w, hw, rfl⟩ := List.mem_map.mp hv
    rw [x_cv_cat]
    exact hcat w hw
  have hsl := x_sl _ hcat2
  rw [List.length_map] at hsl
  have hl := lv_entry (args.map (x_cv E)) (n := M.2.2.1) (by rw [hsl]; exact hlen)
  rw [lg_entry_eq]
  generalize (lg_sl (args.map (x_cv E)) ++ List.replicate (M.2.2.1 - (lg_sl (args.map (x_cv E))).length) Slot.unset).toArray = ls at hl ⊢
  have hL : x_L E M.2.2.1 (args.map some ++ List.replicate (M.2.2.1 - args.length) none) ls := by
    have key : ∀ (i : Nat) (v : Value), (args.map some ++ List.replicate (M.2.2.1 - args.length) none)[i]? = some (some v) → (args.map some)[i]? = some (some v) := by
      intro i v hv
      by_cases hi : i < (args.map some).length
      · rw [List.getElem?_append_left hi] at hv
        exact hv
      · rw [List.getElem?_append_right (by omega)] at hv
        have := List.mem_of_getElem? hv
        have := List.eq_of_mem_replicate this
        cases this
    refine ⟨⟨hl.1, hl.2.1, fun q hq => hl.2.2 q ?_⟩, fun i v hv => ?_⟩
    · obtain ⟨i, w⟩ := q
      obtain ⟨v, hv, rfl⟩ := x_lv_mem.mp hq
      rw [x_args_lv E args hcat 0]
      exact x_lv_mem.mpr ⟨v, key i v hv, rfl⟩
    · have h1 := key i v hv
      rw [List.getElem?_map] at h1
      cases hi : args[i]? with
      | none => rw [hi] at h1; cases h1
      | some w =>
        rw [hi] at h1
        cases h1
        exact hcat _ (List.mem_of_getElem? hi)
  have hS : va_S (x_A E) s.heap s.heap [] := va_S.rf
  refine k E p l e (x_rm M a b) s m _ below meth c s.heap [] 0 0 ls _ ⟨B.exec, B.bytes, hml, hown, fun w hw => hts w (List.mem_cons_of_mem _ hw), hin, Nat.le_refl _, Nat.le_refl _, hD.2.2.2⟩ ⟨hD.1, hD.2.1, hD.2.2.1, hS⟩ (by show 0 + a ≤ a; omega) (by show 0 + b ≤ b; omega) hL ?_
  intro r h' H' locs' cells' slots' pc' ls' st' hQ hF hc hs hret
  have hDt : ∀ t : State, t.heap = H' → s.WarmedH t.vm → x_D E h' t := fun t ht hW => ⟨va_K.moved hW.alike hF.1, by rw [ht]; exact hF.2.1, by rw [ht]; exact hF.2.2.1, by rw [ht]; exact hD.2.2.2.to hF.2.2.2 hW⟩
  refine W.widen (k := a) (n := b) hc hs ?_
  rcases hret with ⟨hr, rfl, rfl, hd⟩ | ⟨rfl, hd, hr⟩
  · have eQ : x_Q E M Q = va_Qv (fun h' : x_H => Q 0 h') (fun h' t => x_D E h' t) (x_A E) := by simp only [x_Q, hr]
    rw [eQ]
    exact W.vret B.exec B.bytes (B.returns.trans hr) (fun t ht hW => ⟨⟨h', rfl, hQ, hDt t ht hW⟩, hF.2.2.2.F ht⟩) hF.2.2.2.2.2 hd B.notSynchronized
  · rcases hr with hr | ⟨hr, hx⟩
    · have eQ : x_Q E M Q = va_Qi (fun (r : Int32) (h' : x_H) => Q r h') (fun h' t => x_D E h' t) (x_A E) := by simp only [x_Q, hr]
      rw [eQ]
      exact W.iret B.exec B.bytes (B.returns.trans hr) (fun t ht hW => ⟨⟨r, h', rfl, hQ, hDt t ht hW⟩, hF.2.2.2.F ht⟩) hF.2.2.2.2.2 hd B.notSynchronized
    · have eQ : x_Q E M Q = va_Qi (fun (r : Int32) (h' : x_H) => Q r h') (fun h' t => x_D E h' t) (x_A E) := by simp only [x_Q, hr]
      rw [eQ]
      exact W.zret B.exec B.bytes (B.returns.trans hr) (x_bool hx).1 (fun t ht hW => ⟨⟨r, h', rfl, hQ, hDt t ht hW⟩, hF.2.2.2.F ht⟩) hF.2.2.2.2.2 hd B.notSynchronized
end
section
/-! calls of our methods, and the script: rows over EV -/
/-- a method's descriptor has n parameters; its class is no handle -/
def x_desc (M : x_M) (n : Nat) : Prop := M.1.cls ≠ "java/lang/invoke/MethodHandle" ∧ M.1.cls ≠ "java/lang/invoke/VarHandle" ∧ (parseMethodDescriptor M.1.desc).map (fun d => d.parameters.length) = some n
/-- the callee's room fits -/
def x_fit (M M' : x_M) : Prop := M'.2.2.2.2.1 + 1 ≤ M.2.2.2.2.1 ∧ 8 + (M'.2.2.1 + 11) + M'.2.2.2.2.2 ≤ M.2.2.2.2.2
section
variable {M M' : x_M} {a b a' b' pc : Nat} {L : List (Option Value)} {st : List Value} {h : x_H} {Q : Int32 → x_H → Prop}
theorem x_QI {E : x_E} {Q' : Int32 → x_H → Prop} {ty : FieldType} (hret : M'.2.2.2.1 = some ty) : x_Q E M' Q' = va_Qi (fun (r : Int32) (h' : x_H) => Q' r h') (fun h' t => x_D E h' t) (x_A E) := by simp only [x_Q, hret]
theorem x_QV {E : x_E} {Q' : Int32 → x_H → Prop} (hret : M'.2.2.2.1 = none) : x_Q E M' Q' = va_Qv (fun h' : x_H => Q' 0 h') (fun h' t => x_D E h' t) (x_A E) := by simp only [x_Q, hret]
theorem x_wsM_good (hcode : Cond.code M'.1 M'.2.1 M'.2.2.1 M'.2.2.2.1 ∈ x_W) : GoodIn x_W (x_wsM M') := x_good fun w hw => by
  rcases List.mem_cons.mp hw with rfl | hw
  · exact hcode
  · exact hw
theorem x_cat (E : x_E) (st : List Value) : ((st.map (x_cv E)).map fun v => v.category) = st.map fun v => v.category := by
  rw [List.map_map]
  apply List.map_congr_left
  intro v _
  exact x_cv_cat E v
theorem x_room (E : x_E) {mid : MethodId} {ls : Array Slot} {pc : Nat} {st0 : List Value} (hst : (st.map fun v => v.category).sum ≤ 8) : 2 * (F0 mid pc ls st0).monitorRoom + ((st.map (x_cv E)).map fun v => v.category).sum ≤ 8 := lv_room (rest := st0) (by rw [x_cat]; exact hst)
theorem x_fitR {R : Room} {E : x_E} {p : Program} {s : State} {mid : MethodId} {args : Array Value} {meth : Method} {c : Code} (C0 : x_C E M p s mid args meth c R) (hf : x_fit M M') : (x_rm M' a' b').frames + 1 ≤ R.frames ∧ 8 + (M'.2.2.1 + 11) + (x_rm M' a' b').locals ≤ R.locals :=
  ⟨Nat.le_trans hf.1 C0.2.2.2.2.2.2.1, Nat.le_trans hf.2 C0.2.2.2.2.2.2.2.1⟩
theorem x_pre {E : x_E} {p : Program} {s : State} {mid : MethodId} {args : Array Value} {meth : Method} {c : Code} {R : Room} {H : Heap} {locs : List Loc} {Av : List Value} (C0 : x_C E M p s mid args meth c R) (F : x_F E h s H locs) : PreS s H (va_Pc (Av.map (x_cv E)) (fun U => x_D E h U)) (Av.map (x_cv E)) :=
  ⟨fun _ _ _ _ q => ⟨q.1, q.2.calling⟩, fun U hU hW => ⟨rfl, va_K.moved hW.alike F.1, by rw [hU]; exact F.2.1, by rw [hU]; exact F.2.2.1, by rw [hU]; exact C0.2.2.2.2.2.2.2.2.to F.2.2.2 hW⟩⟩
theorem x_back {E : x_E} {s t : State} {h' : x_H} {H1 : Heap} {locs1 : List Loc} (ht : t.heap = H1) (hvm : s.vm.Alike t.vm) (hB : x_D E h' t) (hS : va_S (x_A E) s.heap H1 locs1) : x_F E h' s H1 locs1 :=
  ⟨va_K.moved hvm.symm hB.1, by rw [← ht]; exact hB.2.1, by rw [← ht]; exact hB.2.2.1, hS⟩
theorem Ev_callVi {index P ci : Nat} {C : String} {T : u_T} {N : Nat} {As : List Value} {st0 : List Value} {ty : FieldType} (hd : decode M.2.1 pc = .ok (.invokevirtual index, 3)) (hl : Cond.methodLink M.1.cls index M'.1 ∈ x_W) (hi : Cond.instanceMethod M'.1 ∈ x_W) (hse : Cond.selects M'.1.cls M'.1 M'.1 ∈ x_W) (hini : Cond.initialized M'.1.cls ∈ x_W) (hcode : Cond.code M'.1 M'.2.1 M'.2.2.1 M'.2.2.2.1 ∈ x_W) (hdd : x_desc M' As.length) (hf : x_fit M M') (hret : M'.2.2.2.1 = some ty)
    (hst0 : st0 = As.reverse ++ .ref P :: st) (hst : (st.map fun v => v.category).sum ≤ 8) (hP : P < 1000) (hs : h.2.2[P]? = some (.inl ci)) (hc : x_cls[ci]? = some (C, T, N)) (hcC : M'.1.cls = C)
    (kk : Call M' a' b' (.ref P :: As) h (fun r h' => Ev M a b (pc + 3) L (.int r :: st) h' Q)) : Ev M (a + a') (b + b') pc L st0 h Q := by
  subst hst0
  intro E p l e R s mid args below meth c H locs cells slots ls QQ C0 F ha hb hl0 kr
  have hts := C0.2.2.2.2.1
  have hM := kk l E
  rw [x_QI hret] at hM
  have hpre := x_pre (Av := .ref P :: As) C0 F
  refine va_calli (va_runV (C := C) (b := x_ad E P) (As := As.map (x_cv E)) (rest := st.map (x_cv E)) ⟨C0.1, C0.2.1, C0.2.2.1, C0.2.2.2.1, hts⟩ hM (cwV As.length hts (x_good ?_) rfl rfl rfl ⟨hcC, hdd⟩ (x_fitR C0 hf)) ⟨hpre.1, ?_, hpre.2⟩ rfl (List.length_map _) hl0.1.1 (by simp [F0, x_cv]) (x_room E hst) hd ⟨by omega, by omega⟩) F.2.2.2 (fun _ _ z => z) (fun _ z => z) (fun r u t H1 locs1 ht hvm hq hB hz hk hS1 => ?_)
  · intro w hw
    simp only [wsV, List.cons_append, List.nil_append, List.mem_cons] at hw
    rcases hw with rfl | rfl | rfl | rfl | hw
    · exact hl
    · exact hi
    · rw [← hcC]; exact hse
    · rw [← hcC]; exact hini
    · exact (x_wsM_good hcode w hw).1
  · rw [x_ad_lt E hP]
    exact va_recv F.1 F.2.1 hc (x_ws_obj E h hs)
  · exact hq E p l e R s mid args below meth c H1 locs1 _ _ ls QQ C0 (x_back ht hvm hB hS1) (by omega) (by omega) hl0 kr
theorem Ev_callVv {index P ci : Nat} {C : String} {T : u_T} {N : Nat} {As : List Value} {st0 : List Value} (hd : decode M.2.1 pc = .ok (.invokevirtual index, 3)) (hl : Cond.methodLink M.1.cls index M'.1 ∈ x_W) (hi : Cond.instanceMethod M'.1 ∈ x_W) (hse : Cond.selects M'.1.cls M'.1 M'.1 ∈ x_W) (hini : Cond.initialized M'.1.cls ∈ x_W) (hcode : Cond.code M'.1 M'.2.1 M'.2.2.1 M'.2.2.2.1 ∈ x_W) (hdd : x_desc M' As.length) (hf : x_fit M M') (hret : M'.2.2.2.1 = none)
    (hst0 : st0 = As.reverse ++ .ref P :: st) (hst : (st.map fun v => v.category).sum ≤ 8) (hP : P < 1000) (hs : h.2.2[P]? = some (.inl ci)) (hc : x_cls[ci]? = some (C, T, N)) (hcC : M'.1.cls = C)
    (kk : Call M' a' b' (.ref P :: As) h (fun _ h' => Ev M a b (pc + 3) L st h' Q)) : Ev M (a + a') (b + b') pc L st0 h Q := by
  subst hst0
  intro E p l e R s mid args below meth c H locs cells slots ls QQ C0 F ha hb hl0 kr
  have hts := C0.2.2.2.2.1
  have hM := kk l E
  rw [x_QV hret] at hM
  have hpre := x_pre (Av := .ref P :: As) C0 F
  refine va_callv (va_runV (C := C) (b := x_ad E P) (As := As.map (x_cv E)) (rest := st.map (x_cv E)) ⟨C0.1, C0.2.1, C0.2.2.1, C0.2.2.2.1, hts⟩ hM (cwV As.length hts (x_good ?_) rfl rfl rfl ⟨hcC, hdd⟩ (x_fitR C0 hf)) ⟨hpre.1, ?_, hpre.2⟩ rfl (List.length_map _) hl0.1.1 (by simp [F0, x_cv]) (x_room E hst) hd ⟨by omega, by omega⟩) F.2.2.2 (fun _ _ z => z) (fun _ z => z) (fun u t H1 locs1 ht hvm hq hB hz hk hS1 => ?_)
  · intro w hw
    simp only [wsV, List.cons_append, List.nil_append, List.mem_cons] at hw
    rcases hw with rfl | rfl | rfl | rfl | hw
    · exact hl
    · exact hi
    · rw [← hcC]; exact hse
    · rw [← hcC]; exact hini
    · exact (x_wsM_good hcode w hw).1
  · rw [x_ad_lt E hP]
    exact va_recv F.1 F.2.1 hc (x_ws_obj E h hs)
  · exact hq E p l e R s mid args below meth c H1 locs1 _ _ ls QQ C0 (x_back ht hvm hB hS1) (by omega) (by omega) hl0 kr
theorem Ev_callSi {index : Nat} {As : List Value} {st0 : List Value} {ty : FieldType} (hd : decode M.2.1 pc = .ok (.invokestatic index, 3)) (hl : Cond.methodLink M.1.cls index M'.1 ∈ x_W) (hi : Cond.static M'.1 ∈ x_W) (hini : Cond.initialized M'.1.cls ∈ x_W) (hcode : Cond.code M'.1 M'.2.1 M'.2.2.1 M'.2.2.2.1 ∈ x_W) (hdd : x_desc M' As.length) (hf : x_fit M M') (hret : M'.2.2.2.1 = some ty)
    (hst0 : st0 = As.reverse ++ st) (hst : (st.map fun v => v.category).sum ≤ 8)
    (kk : Call M' a' b' As h (fun r h' => Ev M a b (pc + 3) L (.int r :: st) h' Q)) : Ev M (a + a') (b + b') pc L st0 h Q := by
  subst hst0
  intro E p l e R s mid args below meth c H locs cells slots ls QQ C0 F ha hb hl0 kr
  have hts := C0.2.2.2.2.1
  have hM := kk l E
  rw [x_QI hret] at hM
  have hpre := x_pre (Av := As) C0 F
  refine va_calli (va_runS (As := As.map (x_cv E)) (rest := st.map (x_cv E)) ⟨C0.1, C0.2.1, C0.2.2.1, C0.2.2.2.1, hts⟩ hM (va_cwS As.length hts (x_good ?_) rfl rfl rfl hdd (x_fitR C0 hf)) hpre rfl (List.length_map _) hl0.1.1 (by simp [F0]) (x_room E hst) hd ⟨by omega, by omega⟩) F.2.2.2 (fun _ _ z => z) (fun _ z => z) (fun r u t H1 locs1 ht hvm hq hB hz hk hS1 => ?_)
  · intro w hw
    simp only [va_wsS, List.cons_append, List.nil_append, List.mem_cons] at hw
    rcases hw with rfl | rfl | rfl | hw
    · exact hl
    · exact hi
    · exact hini
    · exact (x_wsM_good hcode w hw).1
  · exact hq E p l e R s mid args below meth c H1 locs1 _ _ ls QQ C0 (x_back ht hvm hB hS1) (by omega) (by omega) hl0 kr
theorem Ev_callSNi {index : Nat} {host : String} {As : List Value} {st0 : List Value} {ty : FieldType} (hd : decode M.2.1 pc = .ok (.invokestatic index, 3)) (hl : Cond.methodLinkNest M.1.cls index M'.1 host ∈ x_N) (hi : Cond.static M'.1 ∈ x_W) (hini : Cond.initialized M'.1.cls ∈ x_W) (hcode : Cond.code M'.1 M'.2.1 M'.2.2.1 M'.2.2.2.1 ∈ x_W) (hdd : x_desc M' As.length) (hf : x_fit M M') (hret : M'.2.2.2.1 = some ty)
    (hst0 : st0 = As.reverse ++ st) (hst : (st.map fun v => v.category).sum ≤ 8)
    (kk : Call M' a' b' As h (fun r h' => Ev M a b (pc + 3) L (.int r :: st) h' Q)) : Ev M (a + a') (b + b') pc L st0 h Q := by
  subst hst0
  intro E p l e R s mid args below meth c H locs cells slots ls QQ C0 F ha hb hl0 kr
  have hts := C0.2.2.2.2.1
  have hM := kk l E
  rw [x_QI hret] at hM
  have hpre := x_pre (Av := As) C0 F
  refine va_calli (va_runSN (As := As.map (x_cv E)) (rest := st.map (x_cv E)) ⟨C0.1, C0.2.1, C0.2.2.1, C0.2.2.2.1, hts⟩ hM ⟨va_cnB As.length hts (x_wsM_good hcode) rfl rfl rfl (C0.2.2.2.2.2.2.2.2.1 _ hl) (hts _ hini) hdd (x_fitR C0 hf), hts _ hi, trivial⟩ hpre rfl (List.length_map _) hl0.1.1 (by simp [F0]) (x_room E hst) hd ⟨by omega, by omega⟩) F.2.2.2 (fun _ _ z => z) (fun _ z => z) (fun r u t H1 locs1 ht hvm hq hB hz hk hS1 => ?_)
  exact hq E p l e R s mid args below meth c H1 locs1 _ _ ls QQ C0 (x_back ht hvm hB hS1) (by omega) (by omega) hl0 kr
theorem Ev_callI {index P : Nat} {As : List Value} {st0 : List Value} (hd : decode M.2.1 pc = .ok (.invokespecial index, 3)) (hl : Cond.methodLink M.1.cls index M'.1 ∈ x_W) (hi : Cond.instanceMethod M'.1 ∈ x_W) (hini : Cond.initialized M'.1.cls ∈ x_W) (hcode : Cond.code M'.1 M'.2.1 M'.2.2.1 M'.2.2.2.1 ∈ x_W) (hdd : x_desc M' As.length) (hf : x_fit M M') (hret : M'.2.2.2.1 = none) (hnm : M'.1.name = "<init>")
    (hst0 : st0 = As.reverse ++ .ref P :: st) (hst : (st.map fun v => v.category).sum ≤ 8)
    (kk : Call M' a' b' (.ref P :: As) h (fun _ h' => Ev M a b (pc + 3) L st h' Q)) : Ev M (a + a') (b + b') pc L st0 h Q := by
  subst hst0
  intro E p l e R s mid args below meth c H locs cells slots ls QQ C0 F ha hb hl0 kr
  have hts := C0.2.2.2.2.1
  have hM := kk l E
  rw [x_QV hret] at hM
  have hpre := x_pre (Av := .ref P :: As) C0 F
  refine va_callv (va_runI (bytes := M'.2.1) (maxL := M'.2.2.1) (b := x_ad E P) (As := As.map (x_cv E)) (rest := st.map (x_cv E)) ⟨C0.1, C0.2.1, C0.2.2.1, C0.2.2.2.1, hts⟩ hM (cwI As.length hts (x_wsM_good hcode) (ws' := x_W) (by rw [← hret]; rfl) rfl rfl (hts _ hini) (hts _ hl) (hts _ hi) hnm hdd (x_fitR C0 hf)) hpre rfl (List.length_map _) hl0.1.1 (by simp [F0, x_cv]) (x_room E hst) hd ⟨by omega, by omega⟩) F.2.2.2 (fun _ _ z => z) (fun _ z => z) (fun u t H1 locs1 ht hvm hq hB hz hk hS1 => ?_)
  exact hq E p l e R s mid args below meth c H1 locs1 _ _ ls QQ C0 (x_back ht hvm hB hS1) (by omega) (by omega) hl0 kr
theorem Ev_callIN {index P : Nat} {host : String} {As : List Value} {st0 : List Value} (hd : decode M.2.1 pc = .ok (.invokespecial index, 3)) (hl : Cond.methodLinkNest M.1.cls index M'.1 host ∈ x_N) (hi : Cond.instanceMethod M'.1 ∈ x_W) (hini : Cond.initialized M'.1.cls ∈ x_W) (hcode : Cond.code M'.1 M'.2.1 M'.2.2.1 M'.2.2.2.1 ∈ x_W) (hdd : x_desc M' As.length) (hf : x_fit M M') (hret : M'.2.2.2.1 = none) (hnm : M'.1.name = "<init>")
    (hst0 : st0 = As.reverse ++ .ref P :: st) (hst : (st.map fun v => v.category).sum ≤ 8)
    (kk : Call M' a' b' (.ref P :: As) h (fun _ h' => Ev M a b (pc + 3) L st h' Q)) : Ev M (a + a') (b + b') pc L st0 h Q := by
  subst hst0
  intro E p l e R s mid args below meth c H locs cells slots ls QQ C0 F ha hb hl0 kr
  have hts := C0.2.2.2.2.1
  have hM := kk l E
  rw [x_QV hret] at hM
  have hpre := x_pre (Av := .ref P :: As) C0 F
  refine va_callv (va_runIN (bytes := M'.2.1) (maxL := M'.2.2.1) (b := x_ad E P) (As := As.map (x_cv E)) (rest := st.map (x_cv E)) ⟨C0.1, C0.2.1, C0.2.2.1, C0.2.2.2.1, hts⟩ hM ⟨va_cnB As.length hts (x_wsM_good hcode) (ws' := x_W) (by rw [← hret]; rfl) rfl rfl (C0.2.2.2.2.2.2.2.2.1 _ hl) (hts _ hini) hdd (x_fitR C0 hf), hnm, hts _ hi⟩ hpre rfl (List.length_map _) hl0.1.1 (by simp [F0, x_cv]) (x_room E hst) hd ⟨by omega, by omega⟩) F.2.2.2 (fun _ _ z => z) (fun _ z => z) (fun u t H1 locs1 ht hvm hq hB hz hk hS1 => ?_)
  exact hq E p l e R s mid args below meth c H1 locs1 _ _ ls QQ C0 (x_back ht hvm hB hS1) (by omega) (by omega) hl0 kr
end
end
