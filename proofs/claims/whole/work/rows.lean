section
-- ===== PART A: goes FIRST, ahead of the names: the tables' words, and 'selects' of the private methods out of them =====
/-- a private method of a class that the tables say can be made, by its rows of tables_1 -/
def lw_okq (q : MethodName × Nat) : Prop := (q.1.cls ≠ "java/lang/invoke/MethodHandle" ∧ q.1.cls ≠ "java/lang/invoke/VarHandle") ∧ Cond.instantiable q.1.cls q.2 ∈ tables_1 ∧ Cond.privateMethod q.1 ∈ tables_1 ∧ Cond.instanceMethod q.1 ∈ tables_1
theorem lw_p0 : lw_okq (⟨"CueTour", "readEnds", "()V"⟩, 8) := ⟨⟨by decide +kernel, by decide +kernel⟩, List.mem_of_getElem? (i := 15) (by decide +kernel), List.mem_of_getElem? (i := 227) (by decide +kernel), List.mem_of_getElem? (i := 228) (by decide +kernel)⟩
theorem lw_p1 : lw_okq (⟨"CueTour", "readEndOf", "(I)V"⟩, 8) := ⟨⟨by decide +kernel, by decide +kernel⟩, List.mem_of_getElem? (i := 15) (by decide +kernel), List.mem_of_getElem? (i := 231) (by decide +kernel), List.mem_of_getElem? (i := 232) (by decide +kernel)⟩
theorem lw_p2 : lw_okq (⟨"CueTour", "countShort", "(I)I"⟩, 8) := ⟨⟨by decide +kernel, by decide +kernel⟩, List.mem_of_getElem? (i := 15) (by decide +kernel), List.mem_of_getElem? (i := 250) (by decide +kernel), List.mem_of_getElem? (i := 251) (by decide +kernel)⟩
theorem lw_p3 : lw_okq (⟨"CueTour$Rig", "isFor", "(III)Z"⟩, 9) := ⟨⟨by decide +kernel, by decide +kernel⟩, List.mem_of_getElem? (i := 115) (by decide +kernel), List.mem_of_getElem? (i := 262) (by decide +kernel), List.mem_of_getElem? (i := 263) (by decide +kernel)⟩
theorem lw_p4 : lw_okq (⟨"CueTour", "shortAreas", "(II)I"⟩, 8) := ⟨⟨by decide +kernel, by decide +kernel⟩, List.mem_of_getElem? (i := 15) (by decide +kernel), List.mem_of_getElem? (i := 266) (by decide +kernel), List.mem_of_getElem? (i := 267) (by decide +kernel)⟩
theorem lw_p5 : lw_okq (⟨"java/lang/Throwable", "fillInStackTrace", "(I)Ljava/lang/Throwable;"⟩, 6) := ⟨⟨by decide +kernel, by decide +kernel⟩, List.mem_of_getElem? (i := 332) (by decide +kernel), List.mem_of_getElem? (i := 330) (by decide +kernel), List.mem_of_getElem? (i := 331) (by decide +kernel)⟩
theorem lw_p6 : lw_okq (⟨"CueTour$CueList", "sortCues", "()V"⟩, 11) := ⟨⟨by decide +kernel, by decide +kernel⟩, List.mem_of_getElem? (i := 67) (by decide +kernel), List.mem_of_getElem? (i := 423) (by decide +kernel), List.mem_of_getElem? (i := 424) (by decide +kernel)⟩
theorem lw_p7 : lw_okq (⟨"CueTour$CueList", "comesAhead", "(II)Z"⟩, 11) := ⟨⟨by decide +kernel, by decide +kernel⟩, List.mem_of_getElem? (i := 67) (by decide +kernel), List.mem_of_getElem? (i := 427) (by decide +kernel), List.mem_of_getElem? (i := 428) (by decide +kernel)⟩
theorem lw_p8 : lw_okq (⟨"CueTour$CueList", "setTimes", "(LCueTour$Script;)V"⟩, 11) := ⟨⟨by decide +kernel, by decide +kernel⟩, List.mem_of_getElem? (i := 67) (by decide +kernel), List.mem_of_getElem? (i := 431) (by decide +kernel), List.mem_of_getElem? (i := 432) (by decide +kernel)⟩
theorem lw_p9 : lw_okq (⟨"CueTour$CueList", "fold", "()V"⟩, 11) := ⟨⟨by decide +kernel, by decide +kernel⟩, List.mem_of_getElem? (i := 67) (by decide +kernel), List.mem_of_getElem? (i := 436) (by decide +kernel), List.mem_of_getElem? (i := 437) (by decide +kernel)⟩
theorem lw_p10 : lw_okq (⟨"CueTour$CueList", "forget", "(I)V"⟩, 11) := ⟨⟨by decide +kernel, by decide +kernel⟩, List.mem_of_getElem? (i := 67) (by decide +kernel), List.mem_of_getElem? (i := 440) (by decide +kernel), List.mem_of_getElem? (i := 441) (by decide +kernel)⟩
theorem lw_p11 : lw_okq (⟨"CueTour$CueList", "fillIn", "(II)V"⟩, 11) := ⟨⟨by decide +kernel, by decide +kernel⟩, List.mem_of_getElem? (i := 67) (by decide +kernel), List.mem_of_getElem? (i := 444) (by decide +kernel), List.mem_of_getElem? (i := 445) (by decide +kernel)⟩
theorem lw_p12 : lw_okq (⟨"CueTour$CueList", "sortPlays", "()V"⟩, 11) := ⟨⟨by decide +kernel, by decide +kernel⟩, List.mem_of_getElem? (i := 67) (by decide +kernel), List.mem_of_getElem? (i := 448) (by decide +kernel), List.mem_of_getElem? (i := 449) (by decide +kernel)⟩
theorem lw_p13 : lw_okq (⟨"CueTour$CueList", "insertPlay", "(I)V"⟩, 11) := ⟨⟨by decide +kernel, by decide +kernel⟩, List.mem_of_getElem? (i := 67) (by decide +kernel), List.mem_of_getElem? (i := 452) (by decide +kernel), List.mem_of_getElem? (i := 453) (by decide +kernel)⟩
theorem lw_p14 : lw_okq (⟨"CueTour", "countShortWith", "(III)I"⟩, 8) := ⟨⟨by decide +kernel, by decide +kernel⟩, List.mem_of_getElem? (i := 15) (by decide +kernel), List.mem_of_getElem? (i := 653) (by decide +kernel), List.mem_of_getElem? (i := 654) (by decide +kernel)⟩
theorem lw_p15 : lw_okq (⟨"CueTour", "writeLog", "(I)V"⟩, 8) := ⟨⟨by decide +kernel, by decide +kernel⟩, List.mem_of_getElem? (i := 15) (by decide +kernel), List.mem_of_getElem? (i := 664) (by decide +kernel), List.mem_of_getElem? (i := 665) (by decide +kernel)⟩
def lw_privs_1 : List (MethodName × Nat) := [(⟨"CueTour", "readEnds", "()V"⟩, 8), (⟨"CueTour", "readEndOf", "(I)V"⟩, 8), (⟨"CueTour", "countShort", "(I)I"⟩, 8), (⟨"CueTour$Rig", "isFor", "(III)Z"⟩, 9), (⟨"CueTour", "shortAreas", "(II)I"⟩, 8), (⟨"java/lang/Throwable", "fillInStackTrace", "(I)Ljava/lang/Throwable;"⟩, 6), (⟨"CueTour$CueList", "sortCues", "()V"⟩, 11), (⟨"CueTour$CueList", "comesAhead", "(II)Z"⟩, 11), (⟨"CueTour$CueList", "setTimes", "(LCueTour$Script;)V"⟩, 11), (⟨"CueTour$CueList", "fold", "()V"⟩, 11), (⟨"CueTour$CueList", "forget", "(I)V"⟩, 11), (⟨"CueTour$CueList", "fillIn", "(II)V"⟩, 11), (⟨"CueTour$CueList", "sortPlays", "()V"⟩, 11), (⟨"CueTour$CueList", "insertPlay", "(I)V"⟩, 11), (⟨"CueTour", "countShortWith", "(III)I"⟩, 8), (⟨"CueTour", "writeLog", "(I)V"⟩, 8)]
theorem lw_r1 : ∀ q ∈ lw_privs_1, lw_okq q := List.forall_mem_cons.mpr ⟨lw_p0, List.forall_mem_cons.mpr ⟨lw_p1, List.forall_mem_cons.mpr ⟨lw_p2, List.forall_mem_cons.mpr ⟨lw_p3, List.forall_mem_cons.mpr ⟨lw_p4, List.forall_mem_cons.mpr ⟨lw_p5, List.forall_mem_cons.mpr ⟨lw_p6, List.forall_mem_cons.mpr ⟨lw_p7, List.forall_mem_cons.mpr ⟨lw_p8, List.forall_mem_cons.mpr ⟨lw_p9, List.forall_mem_cons.mpr ⟨lw_p10, List.forall_mem_cons.mpr ⟨lw_p11, List.forall_mem_cons.mpr ⟨lw_p12, List.forall_mem_cons.mpr ⟨lw_p13, List.forall_mem_cons.mpr ⟨lw_p14, List.forall_mem_cons.mpr ⟨lw_p15, fun _ h => absurd h List.not_mem_nil⟩⟩⟩⟩⟩⟩⟩⟩⟩⟩⟩⟩⟩⟩⟩⟩
theorem lw_p16 : lw_okq (⟨"CueTour", "wearOut", "(I)V"⟩, 8) := ⟨⟨by decide +kernel, by decide +kernel⟩, List.mem_of_getElem? (i := 15) (by decide +kernel), List.mem_of_getElem? (i := 672) (by decide +kernel), List.mem_of_getElem? (i := 673) (by decide +kernel)⟩
theorem lw_p17 : lw_okq (⟨"CueTourModel", "isFine", "(I)Z"⟩, 30) := ⟨⟨by decide +kernel, by decide +kernel⟩, List.mem_of_getElem? (i := 713) (by decide +kernel), List.mem_of_getElem? (i := 821) (by decide +kernel), List.mem_of_getElem? (i := 822) (by decide +kernel)⟩
theorem lw_p18 : lw_okq (⟨"CueTourModel", "isLine", "(I)Z"⟩, 30) := ⟨⟨by decide +kernel, by decide +kernel⟩, List.mem_of_getElem? (i := 713) (by decide +kernel), List.mem_of_getElem? (i := 829) (by decide +kernel), List.mem_of_getElem? (i := 830) (by decide +kernel)⟩
theorem lw_p19 : lw_okq (⟨"CueTourModel", "ahead", "(I)I"⟩, 30) := ⟨⟨by decide +kernel, by decide +kernel⟩, List.mem_of_getElem? (i := 713) (by decide +kernel), List.mem_of_getElem? (i := 840) (by decide +kernel), List.mem_of_getElem? (i := 841) (by decide +kernel)⟩
theorem lw_p20 : lw_okq (⟨"CueTourModel", "isCue", "(I)Z"⟩, 30) := ⟨⟨by decide +kernel, by decide +kernel⟩, List.mem_of_getElem? (i := 713) (by decide +kernel), List.mem_of_getElem? (i := 874) (by decide +kernel), List.mem_of_getElem? (i := 875) (by decide +kernel)⟩
theorem lw_p21 : lw_okq (⟨"CueTourModel", "orders", "()V"⟩, 30) := ⟨⟨by decide +kernel, by decide +kernel⟩, List.mem_of_getElem? (i := 713) (by decide +kernel), List.mem_of_getElem? (i := 890) (by decide +kernel), List.mem_of_getElem? (i := 891) (by decide +kernel)⟩
theorem lw_p22 : lw_okq (⟨"CueTourModel", "isAhead", "(II)Z"⟩, 30) := ⟨⟨by decide +kernel, by decide +kernel⟩, List.mem_of_getElem? (i := 713) (by decide +kernel), List.mem_of_getElem? (i := 894) (by decide +kernel), List.mem_of_getElem? (i := 895) (by decide +kernel)⟩
theorem lw_p23 : lw_okq (⟨"CueTourModel", "isPlayed", "(I)Z"⟩, 30) := ⟨⟨by decide +kernel, by decide +kernel⟩, List.mem_of_getElem? (i := 713) (by decide +kernel), List.mem_of_getElem? (i := 902) (by decide +kernel), List.mem_of_getElem? (i := 903) (by decide +kernel)⟩
theorem lw_p24 : lw_okq (⟨"CueTourModel", "placeOf", "(I)I"⟩, 30) := ⟨⟨by decide +kernel, by decide +kernel⟩, List.mem_of_getElem? (i := 713) (by decide +kernel), List.mem_of_getElem? (i := 910) (by decide +kernel), List.mem_of_getElem? (i := 911) (by decide +kernel)⟩
theorem lw_p25 : lw_okq (⟨"CueTourModel", "changesAt", "(II)I"⟩, 30) := ⟨⟨by decide +kernel, by decide +kernel⟩, List.mem_of_getElem? (i := 713) (by decide +kernel), List.mem_of_getElem? (i := 918) (by decide +kernel), List.mem_of_getElem? (i := 919) (by decide +kernel)⟩
theorem lw_p26 : lw_okq (⟨"CueTourModel", "levelNow", "(II)I"⟩, 30) := ⟨⟨by decide +kernel, by decide +kernel⟩, List.mem_of_getElem? (i := 713) (by decide +kernel), List.mem_of_getElem? (i := 926) (by decide +kernel), List.mem_of_getElem? (i := 927) (by decide +kernel)⟩
theorem lw_p27 : lw_okq (⟨"CueTourModel", "plays", "()V"⟩, 30) := ⟨⟨by decide +kernel, by decide +kernel⟩, List.mem_of_getElem? (i := 713) (by decide +kernel), List.mem_of_getElem? (i := 933) (by decide +kernel), List.mem_of_getElem? (i := 934) (by decide +kernel)⟩
theorem lw_p28 : lw_okq (⟨"CueTourModel", "when", "(I)I"⟩, 30) := ⟨⟨by decide +kernel, by decide +kernel⟩, List.mem_of_getElem? (i := 713) (by decide +kernel), List.mem_of_getElem? (i := 937) (by decide +kernel), List.mem_of_getElem? (i := 938) (by decide +kernel)⟩
theorem lw_p29 : lw_okq (⟨"CueTourModel", "level", "(II)I"⟩, 30) := ⟨⟨by decide +kernel, by decide +kernel⟩, List.mem_of_getElem? (i := 713) (by decide +kernel), List.mem_of_getElem? (i := 941) (by decide +kernel), List.mem_of_getElem? (i := 942) (by decide +kernel)⟩
theorem lw_p30 : lw_okq (⟨"CueTourModel", "isLamp", "(I)Z"⟩, 30) := ⟨⟨by decide +kernel, by decide +kernel⟩, List.mem_of_getElem? (i := 713) (by decide +kernel), List.mem_of_getElem? (i := 963) (by decide +kernel), List.mem_of_getElem? (i := 964) (by decide +kernel)⟩
theorem lw_p31 : lw_okq (⟨"CueTourModel", "isHome", "(I)Z"⟩, 30) := ⟨⟨by decide +kernel, by decide +kernel⟩, List.mem_of_getElem? (i := 713) (by decide +kernel), List.mem_of_getElem? (i := 967) (by decide +kernel), List.mem_of_getElem? (i := 968) (by decide +kernel)⟩
def lw_privs_2 : List (MethodName × Nat) := [(⟨"CueTour", "wearOut", "(I)V"⟩, 8), (⟨"CueTourModel", "isFine", "(I)Z"⟩, 30), (⟨"CueTourModel", "isLine", "(I)Z"⟩, 30), (⟨"CueTourModel", "ahead", "(I)I"⟩, 30), (⟨"CueTourModel", "isCue", "(I)Z"⟩, 30), (⟨"CueTourModel", "orders", "()V"⟩, 30), (⟨"CueTourModel", "isAhead", "(II)Z"⟩, 30), (⟨"CueTourModel", "isPlayed", "(I)Z"⟩, 30), (⟨"CueTourModel", "placeOf", "(I)I"⟩, 30), (⟨"CueTourModel", "changesAt", "(II)I"⟩, 30), (⟨"CueTourModel", "levelNow", "(II)I"⟩, 30), (⟨"CueTourModel", "plays", "()V"⟩, 30), (⟨"CueTourModel", "when", "(I)I"⟩, 30), (⟨"CueTourModel", "level", "(II)I"⟩, 30), (⟨"CueTourModel", "isLamp", "(I)Z"⟩, 30), (⟨"CueTourModel", "isHome", "(I)Z"⟩, 30)]
theorem lw_r2 : ∀ q ∈ lw_privs_2, lw_okq q := List.forall_mem_cons.mpr ⟨lw_p16, List.forall_mem_cons.mpr ⟨lw_p17, List.forall_mem_cons.mpr ⟨lw_p18, List.forall_mem_cons.mpr ⟨lw_p19, List.forall_mem_cons.mpr ⟨lw_p20, List.forall_mem_cons.mpr ⟨lw_p21, List.forall_mem_cons.mpr ⟨lw_p22, List.forall_mem_cons.mpr ⟨lw_p23, List.forall_mem_cons.mpr ⟨lw_p24, List.forall_mem_cons.mpr ⟨lw_p25, List.forall_mem_cons.mpr ⟨lw_p26, List.forall_mem_cons.mpr ⟨lw_p27, List.forall_mem_cons.mpr ⟨lw_p28, List.forall_mem_cons.mpr ⟨lw_p29, List.forall_mem_cons.mpr ⟨lw_p30, List.forall_mem_cons.mpr ⟨lw_p31, fun _ h => absurd h List.not_mem_nil⟩⟩⟩⟩⟩⟩⟩⟩⟩⟩⟩⟩⟩⟩⟩⟩
theorem lw_p32 : lw_okq (⟨"CueTourModel", "lays", "(II)I"⟩, 30) := ⟨⟨by decide +kernel, by decide +kernel⟩, List.mem_of_getElem? (i := 713) (by decide +kernel), List.mem_of_getElem? (i := 995) (by decide +kernel), List.mem_of_getElem? (i := 996) (by decide +kernel)⟩
theorem lw_p33 : lw_okq (⟨"CueTourModel", "laysAll", "(I)V"⟩, 30) := ⟨⟨by decide +kernel, by decide +kernel⟩, List.mem_of_getElem? (i := 713) (by decide +kernel), List.mem_of_getElem? (i := 1003) (by decide +kernel), List.mem_of_getElem? (i := 1004) (by decide +kernel)⟩
theorem lw_p34 : lw_okq (⟨"CueTourModel", "lights", "(I)V"⟩, 30) := ⟨⟨by decide +kernel, by decide +kernel⟩, List.mem_of_getElem? (i := 713) (by decide +kernel), List.mem_of_getElem? (i := 1007) (by decide +kernel), List.mem_of_getElem? (i := 1008) (by decide +kernel)⟩
theorem lw_p35 : lw_okq (⟨"CueTourModel", "lampNow", "(I)I"⟩, 30) := ⟨⟨by decide +kernel, by decide +kernel⟩, List.mem_of_getElem? (i := 713) (by decide +kernel), List.mem_of_getElem? (i := 1011) (by decide +kernel), List.mem_of_getElem? (i := 1012) (by decide +kernel)⟩
theorem lw_p36 : lw_okq (⟨"CueTourModel", "lightNow", "(II)I"⟩, 30) := ⟨⟨by decide +kernel, by decide +kernel⟩, List.mem_of_getElem? (i := 713) (by decide +kernel), List.mem_of_getElem? (i := 1019) (by decide +kernel), List.mem_of_getElem? (i := 1020) (by decide +kernel)⟩
theorem lw_p37 : lw_okq (⟨"CueTourModel", "shorts", "(II)I"⟩, 30) := ⟨⟨by decide +kernel, by decide +kernel⟩, List.mem_of_getElem? (i := 713) (by decide +kernel), List.mem_of_getElem? (i := 1027) (by decide +kernel), List.mem_of_getElem? (i := 1028) (by decide +kernel)⟩
theorem lw_p38 : lw_okq (⟨"CueTourModel", "shortLines", "(I)I"⟩, 30) := ⟨⟨by decide +kernel, by decide +kernel⟩, List.mem_of_getElem? (i := 713) (by decide +kernel), List.mem_of_getElem? (i := 1035) (by decide +kernel), List.mem_of_getElem? (i := 1036) (by decide +kernel)⟩
theorem lw_p39 : lw_okq (⟨"CueTourModel", "wears", "(I)V"⟩, 30) := ⟨⟨by decide +kernel, by decide +kernel⟩, List.mem_of_getElem? (i := 713) (by decide +kernel), List.mem_of_getElem? (i := 1047) (by decide +kernel), List.mem_of_getElem? (i := 1048) (by decide +kernel)⟩
theorem lw_p40 : lw_okq (⟨"CueTourModel", "isLog", "(I)Z"⟩, 30) := ⟨⟨by decide +kernel, by decide +kernel⟩, List.mem_of_getElem? (i := 713) (by decide +kernel), List.mem_of_getElem? (i := 1059) (by decide +kernel), List.mem_of_getElem? (i := 1060) (by decide +kernel)⟩
def lw_privs_3 : List (MethodName × Nat) := [(⟨"CueTourModel", "lays", "(II)I"⟩, 30), (⟨"CueTourModel", "laysAll", "(I)V"⟩, 30), (⟨"CueTourModel", "lights", "(I)V"⟩, 30), (⟨"CueTourModel", "lampNow", "(I)I"⟩, 30), (⟨"CueTourModel", "lightNow", "(II)I"⟩, 30), (⟨"CueTourModel", "shorts", "(II)I"⟩, 30), (⟨"CueTourModel", "shortLines", "(I)I"⟩, 30), (⟨"CueTourModel", "wears", "(I)V"⟩, 30), (⟨"CueTourModel", "isLog", "(I)Z"⟩, 30)]
theorem lw_r3 : ∀ q ∈ lw_privs_3, lw_okq q := List.forall_mem_cons.mpr ⟨lw_p32, List.forall_mem_cons.mpr ⟨lw_p33, List.forall_mem_cons.mpr ⟨lw_p34, List.forall_mem_cons.mpr ⟨lw_p35, List.forall_mem_cons.mpr ⟨lw_p36, List.forall_mem_cons.mpr ⟨lw_p37, List.forall_mem_cons.mpr ⟨lw_p38, List.forall_mem_cons.mpr ⟨lw_p39, List.forall_mem_cons.mpr ⟨lw_p40, fun _ h => absurd h List.not_mem_nil⟩⟩⟩⟩⟩⟩⟩⟩⟩
def lw_privs : List (MethodName × Nat) := lw_privs_1 ++ (lw_privs_2 ++ (lw_privs_3))
def lw_tbl : List Cond := k2_sels lw_privs ++ tables_1
theorem lw_privs_ok : ∀ q ∈ lw_privs, lw_okq q := by
  show ∀ q ∈ lw_privs_1 ++ (lw_privs_2 ++ (lw_privs_3)), lw_okq q
  exact List.forall_mem_append.mpr ⟨lw_r1, List.forall_mem_append.mpr ⟨lw_r2, lw_r3⟩⟩
-- ===== end of PART A; then your names; then what follows =====
end
section
/-! ===== BEGIN words of one list among another's, by their places ===== -/
theorem goodIn_r {big : List Cond} (ws : List Cond) (ps : List Nat) (hp : ws = ps.filterMap (fun i => big[i]?)) (h : ws.all goodWord = true) : GoodIn big ws := by
  intro w hw
  have h1 := List.all_eq_true.mp h w hw
  rw [hp] at hw
  obtain ⟨i, -, hi⟩ := List.mem_filterMap.mp hw
  have hm : w ∈ big := by first | exact List.mem_of_getElem? hi | exact List.getElem?_mem hi
  exact ⟨hm, good_of_word h1⟩
theorem goodIn_app {big a b : List Cond} (ha : GoodIn big a) (hb : GoodIn big b) : GoodIn big (a ++ b) := fun w h => (List.mem_append.mp h).elim (ha w) (hb w)
theorem goodIn_ca {big a b : List Cond} {c : Cond} (ha : GoodIn big (c :: a)) (hb : GoodIn big b) : GoodIn big (c :: (a ++ b)) := fun w h => (List.mem_cons.mp h).elim (fun e => ha w (List.mem_cons.mpr (Or.inl e))) (fun h => (List.mem_append.mp h).elim (fun h => ha w (List.mem_cons.mpr (Or.inr h))) (hb w))
theorem goodIn_sub {big ws : List Cond} (hm : ∀ w ∈ ws, w ∈ big) (h : ws.all goodWord = true) : GoodIn big ws := fun w hw => ⟨hm w hw, good_of_word (List.all_eq_true.mp h w hw)⟩
/-! ===== END ===== -/


/-! ===== BEGIN exceptions that leave a method, and their catching by the caller (launches without stack traces) ===== -/
section VXA
/-! The laws vx_back, vx_callV, vx_callS, vx_callSW, vx_throw0, vx_throwS follow proofs of the library, with one case more: JvmDerived/Free/Laws.lean (Back.of_free), Shelf42/LK1.lean (callV, callS), Shelf/KitTraced.lean (throwNew0V, throwNewS). -/
/-- where a method has thrown q: the class by its name, the cell, what was written, the world -/
def vx_T (XC : String → State → State → Prop) (st : State) (q : Addr) (t : State) (mc ms : Nat) (free : Addr → Prop) : Prop :=
  ∃ (E : String) (ce : Cell) (L : List Loc), XC E st t ∧ t.heap[q]? = some ce ∧ ce.vm = .none ∧ st.vm.findClass E = some ce.cls ∧ st.WarmedH t.vm ∧ st.sameButNew ({ t with vm := st.vm } : State) L mc ms ∧ ∀ z ∈ L, free z.base
def vx_Q (Qc : Array Value → State → Outcome → State → Prop) (XC : String → State → State → Prop) (mc ms : Nat) (free : Addr → Prop) : Array Value → State → Outcome → State → Prop := fun a st o t =>
  (Qc a st o t ∧ ∃ L, FrameEnd st o t L mc ms ∧ ∀ q ∈ L, free q.base) ∨ ∃ q, o = .threw q ∧ vx_T XC st q t mc ms free
/-- a callee that returns or throws -/
def vx_Met (l : Launch) (y : MethodName) (ws : List Cond) (rm : Room) (Pc : Array Value → State → Prop) (Qc : Array Value → State → Outcome → State → Prop) (XC : String → State → State → Prop) (mc ms : Nat) (free : Addr → Prop) : Prop :=
  MetFree l y (headSpec ws rm) Pc (fun _ _ _ _ _ => True) (vx_Q Qc XC mc ms free)
def vx_Post (XC : String → State → State → Prop) (mc ms : Nat) (free : Addr → Prop) : Pt → Array Value → Addr → Pt → Prop := fun A a q B =>
  ∃ (g : JFrame) (mk : MethodId) (t : State) (L : List Loc) (E : String) (ce : Cell), B.U.heap = t.heap ∧ B.U.vm = t.vm ∧ XC E (A.U.calling g mk a) t ∧ t.heap[q]? = some ce ∧ ce.vm = .none ∧ A.U.vm.findClass E = some ce.cls ∧ B.locs = A.locs ++ L ∧ (∀ z ∈ L, free z.base) ∧ B.cells = A.cells + mc ∧ B.slots = A.slots + ms
def vx_Back (l : Launch) (R : Room) (p : Program) (e : Env) (below : List Frame) (s : State) (sargs : Array Value) (y : MethodName) (len W9 : Nat)
    (Pre : Pt → Array Value → Prop) (Post : Pt → Array Value → Option Value → Pt → Prop) (PostX : Pt → Array Value → Addr → Pt → Prop) : Prop :=
  ∀ (m : MethodId) (meth : Method) (c : Code) (A : Pt) (g : JFrame) (ig : Instr) (mk : MethodId) (a : Array Value),
    Stand p l e R s m sargs below meth c A.U A.locs A.cells A.slots → g.method = m → g.locals.size = c.maxLocals → decode c.code g.pc = .ok (ig, len) →
    2 * g.monitorRoom + (g.stack.map fun v => v.category).sum ≤ W9 → A.U.methodNamed? y = some mk → Pre A a →
    (∃ (v : Option Value) (B : Pt), Stand p l e R s m sargs below meth c B.U B.locs B.cells B.slots ∧ Post A a v B ∧
      Steps p.tables e below (doInvoke e (A.U.setTop g) [] mk a).1 (B.U.setTop { g with pc := g.pc + len, stack := v.toList ++ g.stack })) ∨
    (∃ (q : Addr) (B : Pt), Stand p l e R s m sargs below meth c B.U B.locs B.cells B.slots ∧ PostX A a q B ∧
      Steps p.tables e below (doInvoke e (A.U.setTop g) [] mk a).1 ((B.U.setTop g).pushFrame (.throwing q)))
section Payer
variable {l : Launch} {R : Room} {p : Program} {e : Env} {below : List Frame} {s : State} {sargs : Array Value} {y : MethodName} {len W9 : Nat}
theorem vx_back {ws : List Cond} {rm : Room} {Pc : Array Value → State → Prop} {Qc : Array Value → State → Outcome → State → Prop} {XC : String → State → State → Prop} {mc ms : Nat} {free : Addr → Prop} {bytes : ByteArray} {maxL : Nat} {ret : Option FieldType}
    (hM : vx_Met l y ws rm Pc Qc XC mc ms free) (hblind : FrameBlind Pc) (hrc : rm.cells = mc) (hrs : rm.slots = ms)
    (hframes : rm.frames + 1 ≤ R.frames) (hlocals : W9 + (maxL + 11) + rm.locals ≤ R.locals)
    (hws : ∀ w ∈ ws, ∀ a' U, s.WarmedH U.vm → w.before a' U = true) (hcode : Cond.code y bytes maxL ret ∈ ws) (hinit : ∀ a' U, s.WarmedH U.vm → (Cond.initialized y.cls).before a' U = true) :
    vx_Back l R p e below s sargs y len W9 (PreOf R mc ms Pc) (PostOf Qc mc ms free) (vx_Post XC mc ms free) := by
  intro m meth c A g ig mk a X hg hsize hdg hW hn hp
  have h1 : (headSpec ws rm).pre.before a A.U = true := atoms_intro fun w hw => hws w hw _ _ X.warmed
  have h2 : (Cond.code y bytes maxL ret).before a A.U = true := hws _ hcode _ _ X.warmed
  have h3 : (Cond.initialized y.cls).before a A.U = true := hinit _ _ X.warmed
  have h4 : A.cells + (headSpec ws rm).room.cells ≤ R.cells := by rw [show (headSpec ws rm).room.cells = mc from hrc]; exact hp.1
  have h5 : A.slots + (headSpec ws rm).room.slots ≤ R.slots := by rw [show (headSpec ws rm).room.slots = ms from hrs]; exact hp.2.1
  have hPc : Pc a (A.U.calling g mk a) := hblind _ _ _ _ hp.2.2
  obtain ⟨U, Ls, c0, s0⟩ := A
  dsimp only [Pt.U, Pt.locs, Pt.cells, Pt.slots] at h1 h2 h3 h4 h5 X hn hPc ⊢
  obtain ⟨methY, cY, hmY, hcY, -, hlY, -, -, -, -⟩ := Cond.code_spec hn h2
  obtain ⟨kY, hkY, -⟩ := className_of_methodNamed hn
  have hinitY : kY.init = .initialized := Cond.initialized_spec (findClass_of_methodNamed hn) hkY h3
  have h : At U g.method c below := by rw [hg]; exact X.here
  have hlocals9 : W9 + (maxL + 11) + (headSpec ws rm).room.locals ≤ R.locals := hlocals
  have happ : (headSpec ws rm).appliesLoose y e.platform (U.calling g mk a) = true :=
    Spec.appliesLoose_calling (g := g) h hdg hn hkY hinitY
      (X.room_calling (g := g) (R' := (headSpec ws rm).room) hsize hmY hcY hframes (by rw [hlY]; omega) h4 h5) h1
  obtain ⟨mid, hmid⟩ := h.above
  have hfr : (U.setTop g).frames = (.java g :: mid) ++ below := by rw [State.frames_setTop' g h.top, hmid]; rfl
  obtain ⟨o, s₂, hsteps, -, hend, hq⟩ := Steps.callFree hM p X.admits X.cas X.clock (acts := []) hfr happ hPc trivial
  have hq' : vx_Q Qc XC mc ms free a (U.calling g mk a) o s₂ := hq
  rw [State.frames_setTop' g h.top] at hend
  obtain ⟨g₀, hg0⟩ := Option.isSome_iff_exists.mp h.top
  obtain ⟨r, hr⟩ := State.topJava?_eq_some.mp hg0
  have hr' : (({ U with heap := s₂.heap, slotsUsed := s₂.slotsUsed } : State).setVm s₂.vm).frames = .java g₀ :: r := hr
  rcases hq' with ⟨hqc, L, hfe, hL⟩ | ⟨q, rfl, E, ce, L, hx, hce, hcv, hcl, hW₂, hsm, hL⟩
  · obtain ⟨⟨v, rfl⟩, hW₂, e2, q2, q3, q4, q5, q6⟩ := id hfe
    have e3 : s₂ = ({ (U.calling g mk a).setFrames s₂.frames with heap := s₂.heap, slotsUsed := s₂.slotsUsed } : State).setVm s₂.vm := by
      have : s₂ = ({ s₂ with vm := (U.calling g mk a).vm } : State).setVm s₂.vm := rfl
      rw [e2] at this
      exact this
    obtain ⟨c₂, i₂, len₂, hc₂, hd₂, hf₂⟩ := hend
    have hW' : U.WarmedH s₂.vm := hW₂
    have hcc : c₂ = c := by
      have h1 : s₂.code? g.method = U.code? g.method := by
        rw [State.code?_eq, State.code?_eq, hW'.alike.method?]
      exact Option.some.inj (hc₂.symm.trans (h1.trans h.code))
    subst hcc
    have hlen : len₂ = len := by rw [hdg] at hd₂; cases hd₂; rfl
    subst hlen
    have hs₂ : s₂ = (({ U with heap := s₂.heap, slotsUsed := s₂.slotsUsed } : State).setVm s₂.vm).setTop { g with pc := g.pc + len₂, stack := v.toList ++ g.stack } := by
      refine e3.trans ?_
      rw [hf₂, State.calling_eq h.top, State.setFrames_setFrames, State.setTop_of_frames _ hr', hr]
      rfl
    have hsame : U.sameButNew ({ U with heap := s₂.heap, slotsUsed := s₂.slotsUsed } : State) L mc ms := by
      refine ⟨?_, q2, q3, q4, q5, q6⟩
      obtain ⟨t, ht, -⟩ := State.frames_cons hr
      show ({ U with heap := s₂.heap, slotsUsed := s₂.slotsUsed } : State) = { U.setFrames U.frames with heap := s₂.heap, slotsUsed := s₂.slotsUsed }
      rw [State.setFrames_self ht]
    subst hg
    refine Or.inl ⟨v, ⟨(({ U with heap := s₂.heap, slotsUsed := s₂.slotsUsed } : State).setVm s₂.vm), Ls ++ L, c0 + mc, s0 + ms⟩,
      ⟨X.admits, X.cas, X.clock, X.frames, X.room, X.hears, X.method, X.code, (X.here.setHeapUsed s₂.heap s₂.slotsUsed).setVm hW'.alike, X.tail, State.WarmedH.trans X.warmed hW', X.limits, X.bytes, X.same.trans (hsame.setVm s.vm)⟩,
      ⟨g, mk, s₂, L, rfl, rfl, hqc, rfl, hL, rfl, rfl⟩, ?_⟩
    show Steps p.tables e below _ ((({ U with heap := s₂.heap, slotsUsed := s₂.slotsUsed } : State).setVm s₂.vm).setTop { g with pc := g.pc + len₂, stack := v.toList ++ g.stack })
    rw [← hs₂]
    exact hsteps
  · obtain ⟨e2, q2, q3, q4, q5, q6⟩ := id hsm
    have e3 : s₂ = ({ (U.calling g mk a).setFrames s₂.frames with heap := s₂.heap, slotsUsed := s₂.slotsUsed } : State).setVm s₂.vm := by
      have : s₂ = ({ s₂ with vm := (U.calling g mk a).vm } : State).setVm s₂.vm := rfl
      rw [e2] at this
      exact this
    have hf₂ : s₂.frames = .throwing q :: .java g :: U.frames.tail := hend
    have hW' : U.WarmedH s₂.vm := hW₂
    have hs₂ : s₂ = ((({ U with heap := s₂.heap, slotsUsed := s₂.slotsUsed } : State).setVm s₂.vm).setTop g).pushFrame (.throwing q) := by
      refine e3.trans ?_
      rw [hf₂, State.calling_eq h.top, State.setFrames_setFrames, State.pushFrame, State.frames_setTop _ hr', State.setTop_of_frames _ hr', State.setFrames_setFrames, hr]
      rfl
    have hsame : U.sameButNew ({ U with heap := s₂.heap, slotsUsed := s₂.slotsUsed } : State) L mc ms := by
      refine ⟨?_, q2, q3, q4, q5, q6⟩
      obtain ⟨t, ht, -⟩ := State.frames_cons hr
      show ({ U with heap := s₂.heap, slotsUsed := s₂.slotsUsed } : State) = { U.setFrames U.frames with heap := s₂.heap, slotsUsed := s₂.slotsUsed }
      rw [State.setFrames_self ht]
    subst hg
    refine Or.inr ⟨q, ⟨(({ U with heap := s₂.heap, slotsUsed := s₂.slotsUsed } : State).setVm s₂.vm), Ls ++ L, c0 + mc, s0 + ms⟩,
      ⟨X.admits, X.cas, X.clock, X.frames, X.room, X.hears, X.method, X.code, (X.here.setHeapUsed s₂.heap s₂.slotsUsed).setVm hW'.alike, X.tail, State.WarmedH.trans X.warmed hW', X.limits, X.bytes, X.same.trans (hsame.setVm s.vm)⟩,
      ⟨g, mk, s₂, L, E, ce, rfl, rfl, hx, hce, hcv, hcl, rfl, hL, rfl, rfl⟩, ?_⟩
    show Steps p.tables e below _ (((({ U with heap := s₂.heap, slotsUsed := s₂.slotsUsed } : State).setVm s₂.vm).setTop g).pushFrame (.throwing q))
    rw [← hs₂]
    exact hsteps
end Payer
section Calls
variable {p : Program} {l : Launch} {e : Env} {R : Room} {s : State} {m : MethodId} {args : Array Value} {below : List Frame} {meth : Method} {c : Code} {T : State} {locs : List Loc} {cells slots : Nat}
theorem vx_callV (X : Stand p l e R s m args below meth c T locs cells slots) (hexec : p.tables.exec = Jvm.exec) {own C : String} {index : Nat} {y : MethodName} {bytes : ByteArray} {maxL : Nat} {ret : Option FieldType}
    (hown : s.vm.findClass own = some m.cls) (hlink : (Cond.methodLink own index y).before args s = true) (hinst : (Cond.instanceMethod y).before args s = true) (hsel : (Cond.selects C y y).before args s = true)
    (hcode : (Cond.code y bytes maxL ret).before args s = true) (hy : y.cls ≠ "java/lang/invoke/MethodHandle" ∧ y.cls ≠ "java/lang/invoke/VarHandle")
    {W9 : Nat} {Pre : Pt → Array Value → Prop} {Post : Pt → Array Value → Option Value → Pt → Prop} {PostX : Pt → Array Value → Addr → Pt → Prop} (hK : vx_Back l R p e below s args y 3 W9 Pre Post PostX)
    {b : Addr} {cellB : Cell} (hcell : T.heap[b]? = some cellB) (hobj : cellB.vm.isStatics = false) (hcls : s.vm.findClass C = some cellB.cls)
    {g : JFrame} (hg : g.method = m) (hsize : g.locals.size = c.maxLocals) {argsL rest : List Value} (hlen : ∀ sig, parseMethodDescriptor y.desc = some sig → argsL.length = sig.parameters.length)
    (hstack : g.stack = argsL.reverse ++ .ref b :: rest) (hW : 2 * g.monitorRoom + (rest.map fun v => v.category).sum ≤ W9) (hdg : decode c.code g.pc = .ok (.invokevirtual index, 3))
    (hpre : ∀ vm₁, s.WarmedH vm₁ → Pre ⟨T.setVm vm₁, locs, cells, slots⟩ (Value.ref b :: argsL).toArray) :
    (∃ (v : Option Value) (vm₁ : Vm) (B : Pt), s.WarmedH vm₁ ∧ Stand p l e R s m args below meth c B.U B.locs B.cells B.slots ∧ Post ⟨T.setVm vm₁, locs, cells, slots⟩ (Value.ref b :: argsL).toArray v B ∧
      ∀ target, Steps p.tables e below (B.U.setTop { g with pc := g.pc + 3, stack := v.toList ++ rest }) target → Steps p.tables e below (T.setTop g) target) ∨
    (∃ (q : Addr) (vm₁ : Vm) (B : Pt), s.WarmedH vm₁ ∧ Stand p l e R s m args below meth c B.U B.locs B.cells B.slots ∧ PostX ⟨T.setVm vm₁, locs, cells, slots⟩ (Value.ref b :: argsL).toArray q B ∧
      Steps p.tables e below (T.setTop g) ((B.U.setTop { g with stack := rest }).pushFrame (.throwing q))) := by
  obtain ⟨mk, methM, hnamed, hmethM, hstM, habM⟩ := Cond.instanceMethod_spec hinst
  obtain ⟨methM', cM, hmethM', -, -, -, -, -, -, hsigM⟩ := Cond.code_spec hnamed hcode
  cases hmethM.symm.trans hmethM'
  obtain ⟨c2, r2, m2, q1, q2, q3, q4, kP, hkP, hkPi⟩ := Cond.selects_spec hsel
  cases hcls.symm.trans q1
  cases (State.methodFound?_of_named hnamed hy).symm.trans q2
  cases hnamed.symm.trans q3
  have hselP : selectMethod e.platform s.vm cellB.cls mk = .method mk := by rw [Launch.admits_selectMethod X.admits]; exact q4
  obtain ⟨vm₁, X₁, hstep₁⟩ := X.invokevirtual hexec hown hlink hnamed hmethM hstM hkP hkPi hy (a := b) (cell := cellB) hcell
    (fun z h => by rw [h] at hobj; cases hobj) hselP hmethM habM hkP hkPi (g := g) hg (argsL := argsL) (rest := rest) (hlen _ hsigM) hstack hdg
  rcases hK m meth c ⟨T.setVm vm₁, locs, cells, slots⟩ { g with stack := rest } (.invokevirtual index) mk (Value.ref b :: argsL).toArray X₁ hg hsize hdg hW (X₁.named hnamed) (hpre vm₁ X₁.warmed) with ⟨v, B, X', hpost, hsteps⟩ | ⟨q, B, X', hpost, hsteps⟩
  · exact Or.inl ⟨v, vm₁, B, X₁.warmed, X', hpost, fun target h => hstep₁ _ fun acts => by rw [doInvoke_state]; exact hsteps.trans h⟩
  · exact Or.inr ⟨q, vm₁, B, X₁.warmed, X', hpost, hstep₁ _ fun acts => by rw [doInvoke_state]; exact hsteps⟩
theorem vx_callS (X : Stand p l e R s m args below meth c T locs cells slots) (hexec : p.tables.exec = Jvm.exec) {own : String} {index : Nat} {y : MethodName} {bytes : ByteArray} {maxL : Nat} {ret : Option FieldType}
    (hown : s.vm.findClass own = some m.cls) (hlink : (Cond.methodLink own index y).before args s = true) (hstat : (Cond.static y).before args s = true) (hinit : (Cond.initialized y.cls).before args s = true)
    (hcode : (Cond.code y bytes maxL ret).before args s = true) (hy : y.cls ≠ "java/lang/invoke/MethodHandle" ∧ y.cls ≠ "java/lang/invoke/VarHandle")
    {W9 : Nat} {Pre : Pt → Array Value → Prop} {Post : Pt → Array Value → Option Value → Pt → Prop} {PostX : Pt → Array Value → Addr → Pt → Prop} (hK : vx_Back l R p e below s args y 3 W9 Pre Post PostX)
    {g : JFrame} (hg : g.method = m) (hsize : g.locals.size = c.maxLocals) {argsL rest : List Value} (hlen : ∀ sig, parseMethodDescriptor y.desc = some sig → argsL.length = sig.parameters.length)
    (hstack : g.stack = argsL.reverse ++ rest) (hW : 2 * g.monitorRoom + (rest.map fun v => v.category).sum ≤ W9) (hdg : decode c.code g.pc = .ok (.invokestatic index, 3))
    (hpre : ∀ vm₁, s.WarmedH vm₁ → Pre ⟨T.setVm vm₁, locs, cells, slots⟩ argsL.toArray) :
    (∃ (v : Option Value) (vm₁ : Vm) (B : Pt), s.WarmedH vm₁ ∧ Stand p l e R s m args below meth c B.U B.locs B.cells B.slots ∧ Post ⟨T.setVm vm₁, locs, cells, slots⟩ argsL.toArray v B ∧
      ∀ target, Steps p.tables e below (B.U.setTop { g with pc := g.pc + 3, stack := v.toList ++ rest }) target → Steps p.tables e below (T.setTop g) target) ∨
    (∃ (q : Addr) (vm₁ : Vm) (B : Pt), s.WarmedH vm₁ ∧ Stand p l e R s m args below meth c B.U B.locs B.cells B.slots ∧ PostX ⟨T.setVm vm₁, locs, cells, slots⟩ argsL.toArray q B ∧
      Steps p.tables e below (T.setTop g) ((B.U.setTop { g with stack := rest }).pushFrame (.throwing q))) := by
  obtain ⟨mk, hnamed⟩ := Cond.code_named hcode
  obtain ⟨methM, cM, hmethM, -, -, -, -, -, -, hsigM⟩ := Cond.code_spec hnamed hcode
  have hstatic : methM.isStatic = true := Cond.static_spec hnamed hmethM hstat
  obtain ⟨kP, hkP, -⟩ := className_of_methodNamed hnamed
  have hinitP : kP.init = .initialized := Cond.initialized_spec (findClass_of_methodNamed hnamed) hkP hinit
  obtain ⟨vm₁, X₁, hstep₁⟩ := X.invokestatic hexec hown hlink hnamed hmethM hstatic hkP hinitP hy (g := g) hg (argsL := argsL) (rest := rest) (hlen _ hsigM) hstack hdg
  rcases hK m meth c ⟨T.setVm vm₁, locs, cells, slots⟩ { g with stack := rest } (.invokestatic index) mk argsL.toArray X₁ hg hsize hdg hW (X₁.named hnamed) (hpre vm₁ X₁.warmed) with ⟨v, B, X', hpost, hsteps⟩ | ⟨q, B, X', hpost, hsteps⟩
  · exact Or.inl ⟨v, vm₁, B, X₁.warmed, X', hpost, fun target h => hstep₁ _ fun acts => by rw [doInvoke_state]; exact hsteps.trans h⟩
  · exact Or.inr ⟨q, vm₁, B, X₁.warmed, X', hpost, hstep₁ _ fun acts => by rw [doInvoke_state]; exact hsteps⟩
end Calls
theorem vx_cls {s : State} {T : State} {vm₁ : Vm} {E : String} {k : ClassId} (hW : s.WarmedH vm₁) (h : (T.setVm vm₁).vm.findClass E = some k) : s.vm.findClass E = some k := by
  have h1 : vm₁.findClass E = some k := h
  rw [hW.alike.findClass] at h1
  exact h1
/-- the method's frame g, with q thrown over it -/
def vx_W (p : Program) (l : Launch) (e : Env) (R : Room) (s : State) (m : MethodId) (args : Array Value) (below : List Frame) (meth : Method) (c : Code) (H : Heap) (locs : List Loc) (cells slots : Nat) (Q : State → Prop) (g : JFrame) (q : Addr) : Prop :=
  ∀ T : State, T.heap = H → Stand p l e R s m args below meth c T locs cells slots → ∃ t, Steps p.tables e below ((T.setTop g).pushFrame (.throwing q)) t ∧ Q t
def vx_Run (p : Program) (l : Launch) (e : Env) (R : Room) (s : State) (m : MethodId) (args : Array Value) (below : List Frame) (meth : Method) (c : Code) (H : Heap) (locs : List Loc) (cells slots mc ms : Nat) (g : JFrame) (rest : List Value) (Qa : State → Outcome → State → Prop) (XC : String → State → State → Prop) (free : Addr → Prop) : Prop :=
  ∀ T : State, T.heap = H → Stand p l e R s m args below meth c T locs cells slots →
    (∃ (v : Option Value) (st₀ t T' : State) (L : List Loc), st₀.heap = H ∧ Stand p l e R s m args below meth c T' (locs ++ L) (cells + mc) (slots + ms) ∧ (∀ q ∈ L, free q.base) ∧ T'.heap = t.heap ∧ T'.vm = t.vm ∧ Qa st₀ (.returned v) t ∧
      Goes p e below T g T' { g with pc := g.pc + 3, stack := v.toList ++ rest }) ∨
    (∃ (q : Addr) (st₀ t T' : State) (L : List Loc) (E : String) (ce : Cell), st₀.heap = H ∧ Stand p l e R s m args below meth c T' (locs ++ L) (cells + mc) (slots + ms) ∧ (∀ z ∈ L, free z.base) ∧ T'.heap = t.heap ∧ T'.vm = t.vm ∧ XC E st₀ t ∧ t.heap[q]? = some ce ∧ ce.vm = .none ∧ s.vm.findClass E = some ce.cls ∧
      Steps p.tables e below (T.setTop g) ((T'.setTop { g with stack := rest }).pushFrame (.throwing q)))
def vx_X {S : Type} (px : S → Prop) (B : String → S → State → Prop) (A : Nat → Prop) : String → State → State → Prop := fun E st t => ∃ u : S, px u ∧ B E u t ∧ va_F A st t
section Runs
variable {p : Program} {l : Launch} {e : Env} {R : Room} {s : State} {m : MethodId} {args : Array Value} {below : List Frame} {meth : Method} {c : Code} {H : Heap} {locs : List Loc} {cells slots : Nat}
variable {y : MethodName} {bytes cc : ByteArray} {maxL nL mc ms n index : Nat} {ret : Option FieldType} {ws : List Cond} {rm : Room} {Pc : Array Value → State → Prop} {Qc : Array Value → State → Outcome → State → Prop} {XC : String → State → State → Prop} {free : Addr → Prop} {Ts : List Cond} {own C : String} {b : Addr} {As rest : List Value} {g : JFrame}
theorem vx_callBack (cb : CallB R s args own index y bytes maxL ret ws rm mc ms n) (hM : vx_Met l y ws rm Pc Qc XC mc ms free) (hbl : FrameBlind Pc) : vx_Back l R p e below s args y 3 8 (PreOf R mc ms Pc) (PostOf Qc mc ms free) (vx_Post XC mc ms free) := by
  obtain ⟨hrc, hrs, hfr, hlo, hws, hcw, -, hini, -⟩ := cb
  exact vx_back (bytes := bytes) (maxL := maxL) (ret := ret) hM hbl hrc hrs hfr hlo hws hcw (fun a' U hW => word_at hW (Or.inl (by first | rfl | simp [Cond.onTables, Cond.keeps, Cond.steady])) hini)
theorem vx_runV (S : CallFix p m c cc nL s args Ts own) (hM : vx_Met l y ws rm Pc Qc XC mc ms free) (cw : CallW R s args own C index y bytes maxL ret ws rm mc ms n) (hp : PreV s H C b Pc As)
    (hg : g.method = m) (hn : As.length = n) (hsize : g.locals.size = nL) (hstack : g.stack = As.reverse ++ .ref b :: rest) (hW : 2 * g.monitorRoom + (rest.map fun v => v.category).sum ≤ 8) (hdg : decode cc g.pc = .ok (.invokevirtual index, 3)) (hf : cells + mc ≤ R.cells ∧ slots + ms ≤ R.slots) :
    vx_Run p l e R s m args below meth c H locs cells slots mc ms g rest (Qc (Value.ref b :: As).toArray) XC free := by
  have hK : vx_Back l R p e below s args y 3 8 (PreOf R mc ms Pc) (PostOf Qc mc ms free) (vx_Post XC mc ms free) := vx_callBack cw.1 hM hp.1
  obtain ⟨⟨-, -, -, -, -, -, hcode, -, hy, hlen, hl⟩, hin, hse⟩ := cw
  obtain ⟨hx, hb, hml, ho, -⟩ := S
  obtain ⟨-, ⟨cellB, hcB, hoB, hclB⟩, hPc⟩ := hp
  intro T hT X
  rcases vx_callV X hx (C := C) (bytes := bytes) (maxL := maxL) (ret := ret) ho hl hin hse hcode hy hK (by rw [hT]; exact hcB) hoB hclB hg (hsize.trans hml.symm) (argsL := As) (rest := rest) (fun sig h => hn.trans (hlen sig h)) hstack hW (by rw [hb]; exact hdg)
    (fun vm₁ hW₁ => ⟨hf.1, hf.2, hPc (T.setVm vm₁) hT hW₁⟩) with ⟨v, vm₁, ⟨U', l2, c2, s2⟩, hW₁, X', ⟨g', mk, t, L, e1, e2, hq, h1, hL, h2, h3⟩, st⟩ | ⟨q, vm₁, ⟨U', l2, c2, s2⟩, hW₁, X', ⟨g', mk, t, L, E, ce, e1, e2, hq, hce, hcv, hcl, h1, hL, h2, h3⟩, st⟩
  · dsimp only [Pt.U, Pt.locs, Pt.cells, Pt.slots] at X' e1 e2 h1 h2 h3 st
    subst h1; subst h2; subst h3
    exact Or.inl ⟨v, (T.setVm vm₁).calling g' mk (Value.ref b :: As).toArray, t, U', L, hT, X', hL, e1, e2, hq, st⟩
  · dsimp only [Pt.U, Pt.locs, Pt.cells, Pt.slots] at X' e1 e2 h1 h2 h3 st hcl
    subst h1; subst h2; subst h3
    exact Or.inr ⟨q, (T.setVm vm₁).calling g' mk (Value.ref b :: As).toArray, t, U', L, E, ce, hT, X', hL, e1, e2, hq, hce, hcv, vx_cls hW₁ hcl, st⟩
theorem vx_runS (S : CallFix p m c cc nL s args Ts own) (hM : vx_Met l y ws rm Pc Qc XC mc ms free) (cw : CallB R s args own index y bytes maxL ret ws rm mc ms n ∧ (Cond.static y).before args s = true) (hp : PreS s H Pc As)
    (hg : g.method = m) (hn : As.length = n) (hsize : g.locals.size = nL) (hstack : g.stack = As.reverse ++ rest) (hW : 2 * g.monitorRoom + (rest.map fun v => v.category).sum ≤ 8) (hdg : decode cc g.pc = .ok (.invokestatic index, 3)) (hf : cells + mc ≤ R.cells ∧ slots + ms ≤ R.slots) :
    vx_Run p l e R s m args below meth c H locs cells slots mc ms g rest (Qc As.toArray) XC free := by
  have hK : vx_Back l R p e below s args y 3 8 (PreOf R mc ms Pc) (PostOf Qc mc ms free) (vx_Post XC mc ms free) := vx_callBack cw.1 hM hp.1
  obtain ⟨⟨-, -, -, -, -, -, hcode, hini, hy, hlen, hl⟩, hstt⟩ := cw
  obtain ⟨hx, hb, hml, ho, -⟩ := S
  intro T hT X
  rcases vx_callS X hx (bytes := bytes) (maxL := maxL) (ret := ret) ho hl hstt hini hcode hy hK hg (hsize.trans hml.symm) (argsL := As) (rest := rest) (fun sig h => hn.trans (hlen sig h)) hstack hW (by rw [hb]; exact hdg)
    (fun vm₁ hW₁ => ⟨hf.1, hf.2, hp.2 (T.setVm vm₁) hT hW₁⟩) with ⟨v, vm₁, ⟨U', l2, c2, s2⟩, hW₁, X', ⟨g', mk, t, L, e1, e2, hq, h1, hL, h2, h3⟩, st⟩ | ⟨q, vm₁, ⟨U', l2, c2, s2⟩, hW₁, X', ⟨g', mk, t, L, E, ce, e1, e2, hq, hce, hcv, hcl, h1, hL, h2, h3⟩, st⟩
  · dsimp only [Pt.U, Pt.locs, Pt.cells, Pt.slots] at X' e1 e2 h1 h2 h3 st
    subst h1; subst h2; subst h3
    exact Or.inl ⟨v, (T.setVm vm₁).calling g' mk As.toArray, t, U', L, hT, X', hL, e1, e2, hq, st⟩
  · dsimp only [Pt.U, Pt.locs, Pt.cells, Pt.slots] at X' e1 e2 h1 h2 h3 st hcl
    subst h1; subst h2; subst h3
    exact Or.inr ⟨q, (T.setVm vm₁).calling g' mk As.toArray, t, U', L, E, ce, hT, X', hL, e1, e2, hq, hce, hcv, vx_cls hW₁ hcl, st⟩
end Runs
section Rows
variable {p : Program} {l : Launch} {e : Env} {R : Room} {s : State} {m : MethodId} {args : Array Value} {below : List Frame} {meth : Method} {c : Code} {H : Heap} {locs : List Loc} {cells slots : Nat} {Q : State → Prop}
variable {mc ms : Nat} {free : Addr → Prop} {A0 A1 : Nat → Prop} {H0 : Heap} {a : Array Value} {pc : Nat} {ls : Array Slot} {st0 rest : List Value}
theorem vx_keep {st₀ t T' : State} {L : List Loc} (h0 : st₀.heap = H) (e1 : T'.heap = t.heap) (hS : va_S A0 H0 H locs) (hA : ∀ q, q < H.size → A1 q → A0 q) (hf : ∀ q, free q → A0 q) (hL : ∀ q ∈ L, free q.base) (hF : va_F A1 st₀ t) :
    H.size ≤ T'.heap.size ∧ (∀ q : Nat, q < H.size → ¬ A1 q → T'.heap[q]? = H[q]?) ∧ va_S A0 H0 T'.heap (locs ++ L) := by
  obtain ⟨hz, hk⟩ := hF
  rw [h0] at hz hk
  exact ⟨by rw [e1]; exact hz, fun q h1 h2 => by rw [e1]; exact hk q h1 h2,
    ⟨Nat.le_trans hS.1 (by rw [e1]; exact hz), fun q h1 h2 => by rw [e1, hk q (Nat.lt_of_lt_of_le h1 hS.1) (fun z => h2 (hA q (Nat.lt_of_lt_of_le h1 hS.1) z))]; exact hS.2.1 q h1 h2, fun q hq => by
      rcases List.mem_append.mp hq with h | h
      · exact hS.2.2 q h
      · exact hf _ (hL q h)⟩⟩
theorem vx_calli {S SX : Type} {post : Int32 → S → Prop} {px : SX → Prop} {B : S → State → Prop} {BX : String → SX → State → Prop} {AX : Nat → Prop} (hr : vx_Run p l e R s m args below meth c H locs cells slots mc ms (F0 m pc ls st0) rest (va_Qi post B A1 a) (vx_X px BX AX) free) (hS : va_S A0 H0 H locs) (hA : ∀ q, q < H.size → A1 q → A0 q) (hf : ∀ q, free q → A0 q) (hAX : ∀ q, q < H.size → AX q → A0 q)
    (kx : ∀ (E : String) (ce : Cell) (q9 : Addr) (u : SX) (t : State) (H1 : Heap) (locs1 : List Loc), t.heap = H1 → s.vm.Alike t.vm → px u → BX E u t → H.size ≤ H1.size → (∀ q : Nat, q < H.size → ¬ AX q → H1[q]? = H[q]?) → va_S A0 H0 H1 locs1 → H1[q9]? = some ce → ce.vm = .none → s.vm.findClass E = some ce.cls → vx_W p l e R s m args below meth c H1 locs1 (cells + mc) (slots + ms) Q (F0 m pc ls rest) q9)
    (kk : ∀ (r : Int32) (u : S) (t : State) (H1 : Heap) (locs1 : List Loc), t.heap = H1 → s.vm.Alike t.vm → post r u → B u t → H.size ≤ H1.size → (∀ q : Nat, q < H.size → ¬ A1 q → H1[q]? = H[q]?) → va_S A0 H0 H1 locs1 → W p l e R s m args below meth c H1 locs1 (cells + mc) (slots + ms) Q (F0 m (pc + 3) ls (.int r :: rest))) : W p l e R s m args below meth c H locs cells slots Q (F0 m pc ls st0) := by
  intro T hT X
  rcases hr T hT X with ⟨v, st₀, t, T', L, h0, X', hL, e1, e2, ⟨⟨r, u, hv, hp, hb⟩, hF⟩, st⟩ | ⟨q, st₀, t, T', L, E, ce, h0, X', hL, e1, e2, ⟨u, hp, hb, hF⟩, hce, hcv, hcl, st⟩
  · cases hv
    obtain ⟨k1, k2, k3⟩ := vx_keep h0 e1 hS hA hf hL hF
    obtain ⟨t2, a1, b1⟩ := kk r u t T'.heap (locs ++ L) e1.symm (by rw [← e2]; exact X'.warmed.alike) hp hb k1 k2 k3 T' rfl X'
    exact ⟨t2, st t2 a1, b1⟩
  · obtain ⟨k1, k2, k3⟩ := vx_keep h0 e1 hS hAX hf hL hF
    obtain ⟨t2, a1, b1⟩ := kx E ce q u t T'.heap (locs ++ L) e1.symm (by rw [← e2]; exact X'.warmed.alike) hp hb k1 k2 k3 (by rw [e1]; exact hce) hcv hcl T' rfl X'
    exact ⟨t2, st.trans a1, b1⟩
theorem vx_calll {S SX : Type} {post : Int64 → S → Prop} {px : SX → Prop} {B : S → State → Prop} {BX : String → SX → State → Prop} {AX : Nat → Prop} (hr : vx_Run p l e R s m args below meth c H locs cells slots mc ms (F0 m pc ls st0) rest (va_Ql post B A1 a) (vx_X px BX AX) free) (hS : va_S A0 H0 H locs) (hA : ∀ q, q < H.size → A1 q → A0 q) (hf : ∀ q, free q → A0 q) (hAX : ∀ q, q < H.size → AX q → A0 q)
    (kx : ∀ (E : String) (ce : Cell) (q9 : Addr) (u : SX) (t : State) (H1 : Heap) (locs1 : List Loc), t.heap = H1 → s.vm.Alike t.vm → px u → BX E u t → H.size ≤ H1.size → (∀ q : Nat, q < H.size → ¬ AX q → H1[q]? = H[q]?) → va_S A0 H0 H1 locs1 → H1[q9]? = some ce → ce.vm = .none → s.vm.findClass E = some ce.cls → vx_W p l e R s m args below meth c H1 locs1 (cells + mc) (slots + ms) Q (F0 m pc ls rest) q9)
    (kk : ∀ (r : Int64) (u : S) (t : State) (H1 : Heap) (locs1 : List Loc), t.heap = H1 → s.vm.Alike t.vm → post r u → B u t → H.size ≤ H1.size → (∀ q : Nat, q < H.size → ¬ A1 q → H1[q]? = H[q]?) → va_S A0 H0 H1 locs1 → W p l e R s m args below meth c H1 locs1 (cells + mc) (slots + ms) Q (F0 m (pc + 3) ls (.long r :: rest))) : W p l e R s m args below meth c H locs cells slots Q (F0 m pc ls st0) := by
  intro T hT X
  rcases hr T hT X with ⟨v, st₀, t, T', L, h0, X', hL, e1, e2, ⟨⟨r, u, hv, hp, hb⟩, hF⟩, st⟩ | ⟨q, st₀, t, T', L, E, ce, h0, X', hL, e1, e2, ⟨u, hp, hb, hF⟩, hce, hcv, hcl, st⟩
  · cases hv
    obtain ⟨k1, k2, k3⟩ := vx_keep h0 e1 hS hA hf hL hF
    obtain ⟨t2, a1, b1⟩ := kk r u t T'.heap (locs ++ L) e1.symm (by rw [← e2]; exact X'.warmed.alike) hp hb k1 k2 k3 T' rfl X'
    exact ⟨t2, st t2 a1, b1⟩
  · obtain ⟨k1, k2, k3⟩ := vx_keep h0 e1 hS hAX hf hL hF
    obtain ⟨t2, a1, b1⟩ := kx E ce q u t T'.heap (locs ++ L) e1.symm (by rw [← e2]; exact X'.warmed.alike) hp hb k1 k2 k3 (by rw [e1]; exact hce) hcv hcl T' rfl X'
    exact ⟨t2, st.trans a1, b1⟩
theorem vx_callf {S SX : Type} {post : UInt32 → S → Prop} {px : SX → Prop} {B : S → State → Prop} {BX : String → SX → State → Prop} {AX : Nat → Prop} (hr : vx_Run p l e R s m args below meth c H locs cells slots mc ms (F0 m pc ls st0) rest (va_Qf post B A1 a) (vx_X px BX AX) free) (hS : va_S A0 H0 H locs) (hA : ∀ q, q < H.size → A1 q → A0 q) (hf : ∀ q, free q → A0 q) (hAX : ∀ q, q < H.size → AX q → A0 q)
    (kx : ∀ (E : String) (ce : Cell) (q9 : Addr) (u : SX) (t : State) (H1 : Heap) (locs1 : List Loc), t.heap = H1 → s.vm.Alike t.vm → px u → BX E u t → H.size ≤ H1.size → (∀ q : Nat, q < H.size → ¬ AX q → H1[q]? = H[q]?) → va_S A0 H0 H1 locs1 → H1[q9]? = some ce → ce.vm = .none → s.vm.findClass E = some ce.cls → vx_W p l e R s m args below meth c H1 locs1 (cells + mc) (slots + ms) Q (F0 m pc ls rest) q9)
    (kk : ∀ (r : UInt32) (u : S) (t : State) (H1 : Heap) (locs1 : List Loc), t.heap = H1 → s.vm.Alike t.vm → post r u → B u t → H.size ≤ H1.size → (∀ q : Nat, q < H.size → ¬ A1 q → H1[q]? = H[q]?) → va_S A0 H0 H1 locs1 → W p l e R s m args below meth c H1 locs1 (cells + mc) (slots + ms) Q (F0 m (pc + 3) ls (.float r :: rest))) : W p l e R s m args below meth c H locs cells slots Q (F0 m pc ls st0) := by
  intro T hT X
  rcases hr T hT X with ⟨v, st₀, t, T', L, h0, X', hL, e1, e2, ⟨⟨r, u, hv, hp, hb⟩, hF⟩, st⟩ | ⟨q, st₀, t, T', L, E, ce, h0, X', hL, e1, e2, ⟨u, hp, hb, hF⟩, hce, hcv, hcl, st⟩
  · cases hv
    obtain ⟨k1, k2, k3⟩ := vx_keep h0 e1 hS hA hf hL hF
    obtain ⟨t2, a1, b1⟩ := kk r u t T'.heap (locs ++ L) e1.symm (by rw [← e2]; exact X'.warmed.alike) hp hb k1 k2 k3 T' rfl X'
    exact ⟨t2, st t2 a1, b1⟩
  · obtain ⟨k1, k2, k3⟩ := vx_keep h0 e1 hS hAX hf hL hF
    obtain ⟨t2, a1, b1⟩ := kx E ce q u t T'.heap (locs ++ L) e1.symm (by rw [← e2]; exact X'.warmed.alike) hp hb k1 k2 k3 (by rw [e1]; exact hce) hcv hcl T' rfl X'
    exact ⟨t2, st.trans a1, b1⟩
theorem vx_calld {S SX : Type} {post : UInt64 → S → Prop} {px : SX → Prop} {B : S → State → Prop} {BX : String → SX → State → Prop} {AX : Nat → Prop} (hr : vx_Run p l e R s m args below meth c H locs cells slots mc ms (F0 m pc ls st0) rest (va_Qd post B A1 a) (vx_X px BX AX) free) (hS : va_S A0 H0 H locs) (hA : ∀ q, q < H.size → A1 q → A0 q) (hf : ∀ q, free q → A0 q) (hAX : ∀ q, q < H.size → AX q → A0 q)
    (kx : ∀ (E : String) (ce : Cell) (q9 : Addr) (u : SX) (t : State) (H1 : Heap) (locs1 : List Loc), t.heap = H1 → s.vm.Alike t.vm → px u → BX E u t → H.size ≤ H1.size → (∀ q : Nat, q < H.size → ¬ AX q → H1[q]? = H[q]?) → va_S A0 H0 H1 locs1 → H1[q9]? = some ce → ce.vm = .none → s.vm.findClass E = some ce.cls → vx_W p l e R s m args below meth c H1 locs1 (cells + mc) (slots + ms) Q (F0 m pc ls rest) q9)
    (kk : ∀ (r : UInt64) (u : S) (t : State) (H1 : Heap) (locs1 : List Loc), t.heap = H1 → s.vm.Alike t.vm → post r u → B u t → H.size ≤ H1.size → (∀ q : Nat, q < H.size → ¬ A1 q → H1[q]? = H[q]?) → va_S A0 H0 H1 locs1 → W p l e R s m args below meth c H1 locs1 (cells + mc) (slots + ms) Q (F0 m (pc + 3) ls (.double r :: rest))) : W p l e R s m args below meth c H locs cells slots Q (F0 m pc ls st0) := by
  intro T hT X
  rcases hr T hT X with ⟨v, st₀, t, T', L, h0, X', hL, e1, e2, ⟨⟨r, u, hv, hp, hb⟩, hF⟩, st⟩ | ⟨q, st₀, t, T', L, E, ce, h0, X', hL, e1, e2, ⟨u, hp, hb, hF⟩, hce, hcv, hcl, st⟩
  · cases hv
    obtain ⟨k1, k2, k3⟩ := vx_keep h0 e1 hS hA hf hL hF
    obtain ⟨t2, a1, b1⟩ := kk r u t T'.heap (locs ++ L) e1.symm (by rw [← e2]; exact X'.warmed.alike) hp hb k1 k2 k3 T' rfl X'
    exact ⟨t2, st t2 a1, b1⟩
  · obtain ⟨k1, k2, k3⟩ := vx_keep h0 e1 hS hAX hf hL hF
    obtain ⟨t2, a1, b1⟩ := kx E ce q u t T'.heap (locs ++ L) e1.symm (by rw [← e2]; exact X'.warmed.alike) hp hb k1 k2 k3 (by rw [e1]; exact hce) hcv hcl T' rfl X'
    exact ⟨t2, st.trans a1, b1⟩
theorem vx_callv {S SX : Type} {post : S → Prop} {px : SX → Prop} {B : S → State → Prop} {BX : String → SX → State → Prop} {AX : Nat → Prop} (hr : vx_Run p l e R s m args below meth c H locs cells slots mc ms (F0 m pc ls st0) rest (va_Qv post B A1 a) (vx_X px BX AX) free) (hS : va_S A0 H0 H locs) (hA : ∀ q, q < H.size → A1 q → A0 q) (hf : ∀ q, free q → A0 q) (hAX : ∀ q, q < H.size → AX q → A0 q)
    (kx : ∀ (E : String) (ce : Cell) (q9 : Addr) (u : SX) (t : State) (H1 : Heap) (locs1 : List Loc), t.heap = H1 → s.vm.Alike t.vm → px u → BX E u t → H.size ≤ H1.size → (∀ q : Nat, q < H.size → ¬ AX q → H1[q]? = H[q]?) → va_S A0 H0 H1 locs1 → H1[q9]? = some ce → ce.vm = .none → s.vm.findClass E = some ce.cls → vx_W p l e R s m args below meth c H1 locs1 (cells + mc) (slots + ms) Q (F0 m pc ls rest) q9)
    (kk : ∀ (u : S) (t : State) (H1 : Heap) (locs1 : List Loc), t.heap = H1 → s.vm.Alike t.vm → post u → B u t → H.size ≤ H1.size → (∀ q : Nat, q < H.size → ¬ A1 q → H1[q]? = H[q]?) → va_S A0 H0 H1 locs1 → W p l e R s m args below meth c H1 locs1 (cells + mc) (slots + ms) Q (F0 m (pc + 3) ls (rest))) : W p l e R s m args below meth c H locs cells slots Q (F0 m pc ls st0) := by
  intro T hT X
  rcases hr T hT X with ⟨v, st₀, t, T', L, h0, X', hL, e1, e2, ⟨⟨u, hv, hp, hb⟩, hF⟩, st⟩ | ⟨q, st₀, t, T', L, E, ce, h0, X', hL, e1, e2, ⟨u, hp, hb, hF⟩, hce, hcv, hcl, st⟩
  · cases hv
    obtain ⟨k1, k2, k3⟩ := vx_keep h0 e1 hS hA hf hL hF
    obtain ⟨t2, a1, b1⟩ := kk u t T'.heap (locs ++ L) e1.symm (by rw [← e2]; exact X'.warmed.alike) hp hb k1 k2 k3 T' rfl X'
    exact ⟨t2, st t2 a1, b1⟩
  · obtain ⟨k1, k2, k3⟩ := vx_keep h0 e1 hS hAX hf hL hF
    obtain ⟨t2, a1, b1⟩ := kx E ce q u t T'.heap (locs ++ L) e1.symm (by rw [← e2]; exact X'.warmed.alike) hp hb k1 k2 k3 (by rw [e1]; exact hce) hcv hcl T' rfl X'
    exact ⟨t2, st.trans a1, b1⟩
/-- caught by the row x of this method's table; the rows ahead don't take it -/
theorem vx_catch {own name : String} {E : String} {ce : Cell} {q : Addr} (hown : s.vm.findClass own = some m.cls) (pre : List ExceptionTableEntry) (x : ExceptionTableEntry) (suf : List ExceptionTableEntry) (hsplit : c.exceptionTable.toList = pre ++ x :: suf)
    (hpass : ∀ z ∈ pre, covers z pc = false ∨ (z.catchType ≠ 0 ∧ ∃ nm : String, (Cond.classLink own z.catchType nm).before args s = true ∧ va_Nc E nm s)) (hx : covers x pc = true) (h0 : x.catchType ≠ 0)
    (hlink : (Cond.classLink own x.catchType name).before args s = true) (hcast : (Cond.castable E name).before args s = true) (hcell : H[q]? = some ce) (hv : ce.vm = .none) (hcl : s.vm.findClass E = some ce.cls)
    (kk : W p l e R s m args below meth c H locs cells slots Q (F0 m x.handlerPc ls [.ref q])) : vx_W p l e R s m args below meth c H locs cells slots Q (F0 m pc ls rest) q := by
  intro T hT X
  have hpl : e.platform.magicAccessors = ({} : Platform).magicAccessors := by rw [X.admits.platform]
  obtain ⟨c3, c4, hc3, hc4, hasg⟩ := Cond.castable_spec hcast
  cases Option.some.inj (hc3.symm.trans hcl)
  obtain ⟨c5, hc5, hcl5⟩ := Cond.classLink_spec hown hlink e.platform hpl
  cases Option.some.inj (hc4.symm.trans hc5)
  obtain ⟨vm', X', st⟩ := X.thenCaughtThrough q (g := F0 m pc ls rest) rfl (Steps.refl _) (by rw [hT]; exact hcell) (by rw [hv]; rfl) (by obtain ⟨k9, h9, -⟩ := Vm.findClass_spec hcl; exact ⟨k9, h9⟩) pre x suf hsplit
    (fun z hz => by
      rcases hpass z hz with h | ⟨hz0, nm, hl1, hn1⟩
      · exact Or.inl h
      · obtain ⟨c6, hc6, hcl6⟩ := Cond.classLink_spec hown hl1 e.platform hpl
        obtain ⟨a8, b8, h1, h2, h3⟩ := hn1
        cases Option.some.inj (h1.symm.trans hcl)
        cases Option.some.inj (h2.symm.trans hc6)
        exact Or.inr ⟨hz0, _, hcl6, h3⟩) hx (Or.inr ⟨h0, c4, hcl5, hasg⟩)
  obtain ⟨t, a1, b1⟩ := kk (T.setVm vm') hT X'
  exact ⟨t, st.trans a1, b1⟩
end Rows
section Ends
variable {p : Program} {l : Launch} {e : Env} {R : Room} {s : State} {m : MethodId} {args : Array Value} {below : List Frame} {meth : Method} {c : Code} {H : Heap} {locs : List Loc} {cells slots : Nat} {Q : State → Prop}
variable {mc ms : Nat} {free : Addr → Prop} {A0 A1 : Nat → Prop} {H0 : Heap} {a : Array Value} {ls : Array Slot} {st0 rest : List Value}
variable {Qc : Array Value → State → Outcome → State → Prop} {XC : String → State → State → Prop}
/-- what a body that may throw owes at its end -/
def vx_MQ (below : List Frame) (Qc : Array Value → State → Outcome → State → Prop) (XC : String → State → State → Prop) (a : Array Value) (s : State) (mc ms : Nat) (free : Addr → Prop) : State → Prop := fun t =>
  ∃ o, t.status = .running ∧ Ended t below o ∧ vx_Q Qc XC mc ms free a s o t
theorem vx_ret {g : JFrame} {mc ms : Nat} (k : W p l e R s m args below meth c H locs cells slots (MQ below Qc args s mc ms free) g) : W p l e R s m args below meth c H locs cells slots (vx_MQ below Qc XC args s mc ms free) g := by
  intro T hT X
  obtain ⟨t, a1, o, b1, b2, b3, b4⟩ := k T hT X
  exact ⟨t, a1, o, b1, b2, Or.inl ⟨b3, b4⟩⟩
/-- not caught here: it goes on to the caller -/
theorem vx_widen {g : JFrame} {q : Addr} {k n : Nat} (h1 : cells ≤ k) (h2 : slots ≤ n) (kk : vx_W p l e R s m args below meth c H locs k n Q g q) : vx_W p l e R s m args below meth c H locs cells slots Q g q := fun T hT X => kk T hT (stand_widen X h1 h2)
theorem vx_out {pc : Nat} {E : String} {ce : Cell} {q : Addr} {mc ms : Nat} (hout : ∀ x ∈ c.exceptionTable.toList, covers x pc = false) (hlocks : meth.locks = false) (hcell : H[q]? = some ce) (hv : ce.vm = .none) (hcl : s.vm.findClass E = some ce.cls)
    (hx : ∀ t : State, t.heap = H → s.vm.Alike t.vm → XC E s t) (hf : ∀ z ∈ locs, free z.base) (hc : cells ≤ mc) (hs : slots ≤ ms) :
    vx_W p l e R s m args below meth c H locs cells slots (vx_MQ below Qc XC args s mc ms free) (F0 m pc ls rest) q := by
  intro T hT X
  obtain ⟨st1, hrun, hend, hW, hsm⟩ := X.leaveThrown q (g := F0 m pc ls rest) rfl rfl rfl hout hlocks
  have hcell9 : (T.setFrames (.throwing q :: below)).heap[q]? = some ce := by
    show T.heap[q]? = some ce
    rw [hT]; exact hcell
  exact ⟨_, st1, .threw q, hrun, hend, Or.inr ⟨q, rfl, E, ce, locs, hx _ hT hW.alike, hcell9, hv, hcl, hW, hsm.mono hc hs, hf⟩⟩
theorem vx_frame {U : State} {k n : Nat} (h : s.sameButNew ({ U with vm := s.vm } : State) locs k n) : s.heap.size ≤ U.heap.size ∧ ∀ q : Nat, q < s.heap.size → (∀ z ∈ locs, z.base ≠ q) → U.heap[q]? = s.heap[q]? := by
  obtain ⟨-, h2, -, -, -, h6⟩ := h
  refine ⟨h2, fun q hq hz => ?_⟩
  obtain ⟨c9, e1, e2, e3, e4⟩ := h6 q _ (Array.getElem?_eq_getElem hq)
  have hs : c9.slots = (s.heap[q]).slots := Array.ext_getElem? fun i => e4 i fun hm => hz _ hm rfl
  have h9 : c9 = s.heap[q] := by
    rw [hs] at e2
    exact e2
  have e5 : U.heap[q]? = some c9 := e1
  rw [e5, h9, Array.getElem?_eq_getElem hq]
/-- the words of a throw but the four that speak of the heap -/
def vx_no (w : Cond) : Bool := decide (w ≠ .isRef (.static Bundle.tN "UNASSIGNED_STACK" Bundle.steD)) && decide (w ≠ .isRef (.static Bundle.tN "SUPPRESSED_SENTINEL" Bundle.listD)) && decide (w ≠ .laysStatic Bundle.tN "UNASSIGNED_STACK" Bundle.steD) && decide (w ≠ .laysStatic Bundle.tN "SUPPRESSED_SENTINEL" Bundle.listD)
def vx_at0 (own : String) (ic : Nat) (X : String) (names : List String) : List Cond := (Bundle.ownAtoms0 own ic X names).filter vx_no
def vx_atS (own : String) (ic : Nat) (X : String) (names : List String) : List Cond := (Bundle.ownAtoms own ic X names).filter vx_no
/-- a word that the tables alone decide, or a good one -/
def vx_ot (w : Cond) : Bool := w.onTables || goodWord w
theorem vx_ot_at {args a' : Array Value} {s U : State} {w : Cond} (hW : s.WarmedH U.vm) (hvm : s.vm = U.vm) (hg : vx_ot w = true) (h : w.before args s = true) : w.before a' U = true := by
  simp only [vx_ot, Bool.or_eq_true] at hg
  rcases hg with hg | hg
  · exact va_tabs hg hvm h
  · exact word_at hW (good_of_word hg) h
/-- a list's words: the good ones out of the method's own list, the others by premises of their own -/
theorem vx_hat {args : Array Value} {s : State} {L B : List Cond} (h1 : ∀ w ∈ L.filter goodWord, w.before args s = true) (h2 : ∀ w ∈ L.filter (fun w => !goodWord w), w ∈ B) (h3 : ∀ w ∈ B, w.before args s = true) : ∀ w ∈ L, w.before args s = true := by
  intro w hw
  by_cases g : goodWord w = true
  · exact h1 w (List.mem_filter.mpr ⟨hw, g⟩)
  · refine h3 w (h2 w (List.mem_filter.mpr ⟨hw, ?_⟩))
    show (!goodWord w) = true
    cases hgw : goodWord w
    · rfl
    · exact absurd hgw g
theorem vx_c {args : Array Value} {s : State} {w : Cond} {B : List Cond} (h : w.before args s = true) (t : ∀ w ∈ B, w.before args s = true) : ∀ w' ∈ w :: B, w'.before args s = true := fun w' h' => (List.mem_cons.mp h').elim (fun e => by rw [e]; exact h) (t w')
theorem vx_n {args : Array Value} {s : State} : ∀ w ∈ ([] : List Cond), w.before args s = true := fun _ h => nomatch h
theorem vx_own {args : Array Value} {s : State} {L : List Cond} (h1 : ∀ w ∈ L.filter vx_no, w.before args s = true)
    (hU : (Cond.isRef (.static Bundle.tN "UNASSIGNED_STACK" Bundle.steD)).before args s = true) (hN : (Cond.isRef (.static Bundle.tN "SUPPRESSED_SENTINEL" Bundle.listD)).before args s = true)
    (lU : (Cond.laysStatic Bundle.tN "UNASSIGNED_STACK" Bundle.steD).before args s = true) (lN : (Cond.laysStatic Bundle.tN "SUPPRESSED_SENTINEL" Bundle.listD).before args s = true) : ∀ w ∈ L, w.before args s = true := by
  intro w hw
  by_cases e1 : w = .isRef (.static Bundle.tN "UNASSIGNED_STACK" Bundle.steD)
  · rw [e1]; exact hU
  · by_cases e2 : w = .isRef (.static Bundle.tN "SUPPRESSED_SENTINEL" Bundle.listD)
    · rw [e2]; exact hN
    · by_cases e3 : w = .laysStatic Bundle.tN "UNASSIGNED_STACK" Bundle.steD
      · rw [e3]; exact lU
      · by_cases e4 : w = .laysStatic Bundle.tN "SUPPRESSED_SENTINEL" Bundle.listD
        · rw [e4]; exact lN
        · exact h1 w (List.mem_filter.mpr ⟨hw, by unfold vx_no; rw [decide_eq_true e1, decide_eq_true e2, decide_eq_true e3, decide_eq_true e4]; rfl⟩)
/-- where a static field lies, its class's statics cell in H -/
def vx_L (C n d : String) (A : Nat → Prop) (U : State) (H : Heap) : Prop := ∃ (c : ClassId) (k : Class) (i : Nat) (f : Field) (a : Nat) (cell : Cell), U.vm.findClass C = some c ∧ U.fieldFound? C n d = some (c, k, i, f) ∧ f.isStatic = true ∧ k.statics = some a ∧ H[a]? = some cell ∧ cell.vm.isStatics = true ∧ cell.cls = c ∧ f.slot < cell.slots.size ∧ k.staticTypes[f.slot]? = some f.type ∧ ¬ A a
theorem vx_L.moved {C n d : String} {A : Nat → Prop} {u U : State} {H : Heap} (hvm : u.vm.Alike U.vm) (h : vx_L C n d A u H) : vx_L C n d A U H := by
  obtain ⟨c, k, i, f, a, cell, h1, h2, h3, h4, h5, h6, h7, h8, h9, h10⟩ := h
  obtain ⟨k', hi', he⟩ := State.fieldFound?_setVm hvm h2
  exact ⟨c, k', i, f, a, cell, by rw [hvm.findClass]; exact h1, hi', h3, by rw [he]; exact h4, h5, h6, h7, h8, by rw [he]; exact h9, h10⟩
theorem vx_L.kept {C n d : String} {A : Nat → Prop} {U : State} {H H1 : Heap} (h : vx_L C n d A U H) (hq : ∀ a : Nat, a < H.size → ¬ A a → H1[a]? = H[a]?) : vx_L C n d A U H1 := by
  obtain ⟨c, k, i, f, a, cell, h1, h2, h3, h4, h5, h6, h7, h8, h9, h10⟩ := h
  exact ⟨c, k, i, f, a, cell, h1, h2, h3, h4, by rw [hq a (Array.getElem?_eq_some_iff.mp h5).1 h10]; exact h5, h6, h7, h8, h9, h10⟩
theorem vx_L.narrow {C n d : String} {A B : Nat → Prop} {U : State} {H : Heap} (h : vx_L C n d A U H) (hAB : ∀ q, B q → A q) : vx_L C n d B U H := by
  obtain ⟨c, k, i, f, a, cell, h1, h2, h3, h4, h5, h6, h7, h8, h9, h10⟩ := h
  exact ⟨c, k, i, f, a, cell, h1, h2, h3, h4, h5, h6, h7, h8, h9, fun z => h10 (hAB _ z)⟩
theorem vx_L.word {C n d : String} {A : Nat → Prop} {s : State} {args : Array Value} (h : vx_L C n d A s s.heap) : (Cond.laysStatic C n d).before args s = true := by
  obtain ⟨c, k, i, f, a, cell, h1, h2, h3, h4, h5, h6, h7, h8, h9, -⟩ := h
  show (Cond.laysStatic C n d).holds args s none s [] = true
  exact Cond.laysStatic_of h1 h2 h3 h4 h5 h6 h7 h8 h9
/-- .. and what it holds: null or some reference -/
def vx_Zq (C n d : String) (A : Nat → Prop) (U : State) (H : Heap) : Prop := va_Zq C n d A U H ∧ vx_L C n d A U H
theorem vx_Zq.moved {C n d : String} {A : Nat → Prop} {u U : State} {H : Heap} (hvm : u.vm.Alike U.vm) (h : vx_Zq C n d A u H) : vx_Zq C n d A U H := ⟨va_Zq.moved hvm h.1, vx_L.moved hvm h.2⟩
theorem vx_Zq.kept {C n d : String} {A : Nat → Prop} {U : State} {H H1 : Heap} (h : vx_Zq C n d A U H) (hq : ∀ a : Nat, a < H.size → ¬ A a → H1[a]? = H[a]?) : vx_Zq C n d A U H1 := ⟨va_Zq.kept h.1 hq, vx_L.kept h.2 hq⟩
theorem vx_Zq.narrow {C n d : String} {A B : Nat → Prop} {U : State} {H : Heap} (h : vx_Zq C n d A U H) (hAB : ∀ q, B q → A q) : vx_Zq C n d B U H := ⟨va_Zq.narrow h.1 hAB, vx_L.narrow h.2 hAB⟩
theorem vx_Zqof {args : Array Value} {s : State} {C n d : String} {A : Nat → Prop} (hl : (Cond.laysStatic C n d).before args s = true) (hini : (Cond.initialized C).before args s = true) (h : (Cond.isRef (.static C n d)).before args s = true) (hA : ∀ a : Nat, a < s.heap.size → ¬ A a) : vx_Zq C n d A s s.heap := by
  refine ⟨va_Zqof hl hini h hA, ?_⟩
  obtain ⟨c, k, i, f, a, cell, h1, h2, h3, h4, h5, h6, h7, h8, h9⟩ := Cond.laysStatic_spec hl
  exact ⟨c, k, i, f, a, cell, h1, h2, h3, h4, h5, h6, h7, h8, h9, hA a (Array.getElem?_eq_some_iff.mp h5).1⟩
theorem vx_isRef {C n d : String} {v : Value} {A : Nat → Prop} {s : State} {args : Array Value} (h : va_Z C n d v A s s.heap) (hv : v.isRef = true) : (Cond.isRef (.static C n d)).before args s = true := by
  obtain ⟨cf, kf, fi, f, a, cell, h1, h2, h3, h4, h5, h6, h7, -⟩ := h
  have he : (Term.static C n d).eval args s none [] s = some v := by
    simp [Term.eval, State.fieldNamed?, h1, h2, h4, h5, h6, h7]
  simp only [Cond.before, Cond.holds, Cond.value, he]
  cases v <;> simp_all [Value.isRef]
theorem vx_isRefq {C n d : String} {A : Nat → Prop} {s : State} {args : Array Value} (h : va_Zq C n d A s s.heap) : (Cond.isRef (.static C n d)).before args s = true := by
  rcases h with h | ⟨t, h⟩
  · exact vx_isRef h rfl
  · exact vx_isRef h rfl
/-- the same frame, seen from here: as if the method were called anew in this heap -/
theorem vx_rebase {T : State} (X : Stand p l e R s m args below meth c T locs cells slots) {R' : Room} (hf : R'.frames ≤ R.frames) (hl : R'.locals ≤ R.locals) (hc : cells + R'.cells ≤ R.cells) (hs : slots + R'.slots ≤ R.slots) :
    Stand p l e R' ((T.setVm s.vm).setFrames (.invoking m args :: below)) m args below meth c T [] 0 0 := by
  have htop : (T.setVm s.vm).topJava?.isSome := X.here.top
  have hF : ((T.setVm s.vm).setFrames (.invoking m args :: below)).frames = .invoking m args :: below := State.frames_setFrames _ (State.cur_lt_of_top htop)
  obtain ⟨g₀, hg0⟩ := Option.isSome_iff_exists.mp htop
  obtain ⟨r, hr⟩ := State.topJava?_eq_some.mp hg0
  have hl9 : e.platform.stackLimits (T.setVm s.vm).me = e.platform.stackLimits s.me := X.limits
  have hb9 : (T.setVm s.vm).me.stackBytes = s.me.stackBytes := X.bytes
  refine ⟨X.admits, X.cas, X.clock, hF, ?_, X.hears, X.method, X.code, X.here, X.tail, X.warmed, ?_, ?_, ?_⟩
  · have h := X.room
    have hU : ((T.setVm s.vm).setFrames (.invoking m args :: below)).localsInUse = s.localsInUse := by
      rw [State.localsInUse_invoking hF (meth := meth) (c := c) X.method X.code, State.localsInUse_invoking X.frames X.method X.code]
    simp only [State.hasRoom, Bool.and_eq_true, decide_eq_true_eq] at h ⊢
    obtain ⟨⟨⟨⟨h1, h2, h3, h4, h5, h6⟩, h7⟩, h8⟩, h9⟩ := h
    rw [X.frames, List.length_cons] at h2 h3
    have q1 := X.heapSize
    have q2 := X.used
    simp only [hF, hU, List.length_cons, State.stackLimits_setFrames, State.stackBytes_setFrames, hl9, hb9]
    refine ⟨⟨⟨⟨by omega, by omega, by omega, by omega, by omega, h6⟩, ?_⟩, ?_⟩, X.book⟩
    · show T.heap.size + R'.cells ≤ e.platform.maxCells
      omega
    · show T.slotsUsed + R'.slots ≤ e.platform.maxSlots
      omega
  · rw [State.stackLimits_setFrames]; rfl
  · rw [State.stackBytes_setFrames]; rfl
  · refine ⟨?_, Nat.le_refl _, Nat.le_refl _, ?_, ?_, fun a c9 h9 => ⟨c9, h9, rfl, rfl, fun _ _ => rfl⟩⟩
    · obtain ⟨t, ht, -⟩ := State.frames_cons hr
      show T.setVm s.vm = { ((T.setVm s.vm).setFrames (.invoking m args :: below)).setFrames (T.setVm s.vm).frames with heap := T.heap, slotsUsed := T.slotsUsed }
      rw [State.setFrames_setFrames, State.setFrames_self ht]
      rfl
    · show T.slotsUsed = T.slotsUsed + ((T.heap.toList.drop T.heap.size).map (·.slots.size)).sum
      rw [List.drop_eq_nil_of_le (Nat.le_of_eq Array.length_toList)]
      rfl
    · show ((T.heap.toList.drop T.heap.size).map (·.slots.size)).sum ≤ 0
      rw [List.drop_eq_nil_of_le (Nat.le_of_eq Array.length_toList)]
      exact Nat.le_refl _
/-- 'throw new E()': new; dup; invokespecial; athrow -/
theorem vx_throw0 {cc : ByteArray} {pc : Nat} (hexec : p.tables.exec = Jvm.exec) (hb : c.code = cc) (hl : l.stackTraces = false) {own cls : String} {names : List String} {ik ic mc ms : Nat} {A : Nat → Prop}
    (hown : s.vm.findClass own = some m.cls) (hcls : Bundle.fit cls = true) (hnames : ∀ n ∈ names, Bundle.fit n = true)
    (hk : (Cond.classLink own ik cls).before args s = true) (hini : (Cond.initialized cls).before args s = true) (hat : ∀ w ∈ vx_at0 own ic cls names, w.before args s = true)
    (hgood : ∀ w ∈ Cond.classLink own ik cls :: Cond.initialized cls :: vx_at0 own ic cls names, vx_ot w = true)
    (hU : vx_Zq Bundle.tN "UNASSIGNED_STACK" Bundle.steD A s s.heap) (hN : vx_Zq Bundle.tN "SUPPRESSED_SENTINEL" Bundle.listD A s s.heap) (hS : va_S A s.heap H locs) (hsize : ls.size = c.maxLocals)
    (d0 : decode cc pc = .ok (.new ik, 3)) (d3 : decode cc (pc + 3) = .ok (.dup, 1)) (d4 : decode cc (pc + 4) = .ok (.invokespecial ic, 3)) (d7 : decode cc (pc + 7) = .ok (.athrow, 1))
    (hout : ∀ x ∈ c.exceptionTable.toList, covers x (pc + 7) = false)
    (hRframes : names.length + 3 < R.frames) (hRlocals : (rest.map fun v => v.category).sum + (13 * (names.length + 1) + 42) ≤ R.locals) (hRcells : cells + 1 ≤ R.cells) (hRslots : slots + 6 ≤ R.slots) (hlocks : meth.locks = false)
    (hx : ∀ t : State, s.vm.Alike t.vm → H.size ≤ t.heap.size → (∀ q : Nat, q < H.size → t.heap[q]? = H[q]?) → XC cls s t)
    (hf : ∀ z ∈ locs, free z.base) (hc : cells + 1 ≤ mc) (hs : slots + 6 ≤ ms) :
    W p l e R s m args below meth c H locs cells slots (vx_MQ below Qc XC args s mc ms free) (F0 m pc ls rest) := by
  intro T hT X
  have htr : e.platform.stackTraces = false := (show e.platform.stackTraces = l.stackTraces by rw [X.admits.platform]).trans hl
  have Y := vx_rebase X (R' := { frames := R.frames, locals := R.locals, cells := 1, slots := 6 }) (Nat.le_refl _) (Nat.le_refl _) hRcells hRslots
  obtain ⟨s', hA⟩ : ∃ z, z = (T.setVm s.vm).setFrames (.invoking m args :: below) := ⟨_, rfl⟩
  rw [← hA] at Y
  have hvm : s'.vm = s.vm := by rw [hA]; rfl
  have hhp : s'.heap = H := by rw [hA]; exact hT
  have hW0 : s.WarmedH s'.vm := by rw [hvm]; exact State.WarmedH.refl s
  have hat' : ∀ w ∈ vx_at0 own ic cls names, w.before args s' = true := fun w hw => vx_ot_at hW0 hvm.symm (hgood w (List.mem_cons_of_mem _ (List.mem_cons_of_mem _ hw))) (hat w hw)
  have hk' : (Cond.classLink own ik cls).before args s' = true := vx_ot_at hW0 hvm.symm (hgood _ List.mem_cons_self) hk
  have hini' : (Cond.initialized cls).before args s' = true := vx_ot_at hW0 hvm.symm (hgood _ (List.mem_cons_of_mem _ List.mem_cons_self)) hini
  have hU' : vx_Zq Bundle.tN "UNASSIGNED_STACK" Bundle.steD A s' s'.heap := by rw [hhp]; exact vx_Zq.moved hW0.alike (hU.kept hS.2.1)
  have hN' : vx_Zq Bundle.tN "SUPPRESSED_SENTINEL" Bundle.listD A s' s'.heap := by rw [hhp]; exact vx_Zq.moved hW0.alike (hN.kept hS.2.1)
  have h : ∀ w ∈ Bundle.ownAtoms0 own ic cls names, w.before args s' = true := vx_own hat' (vx_isRefq hU'.1) (vx_isRefq hN'.1) hU'.2.word hN'.2.word
  have hown' : s'.vm.findClass own = some m.cls := by rw [hvm]; exact hown
  have hins : (Cond.instantiable cls 6).before args s' = true := h _ (by simp [Bundle.ownAtoms0])
  obtain ⟨vm₁, cX, kX, hfX, hkX, -, -, X₁, st1⟩ := Y.newCold hexec (own := own) (C := cls) (index := ik) (n := 6) hown' hk' hins hini'
    (g := F0 m pc ls rest) rfl (by rw [hb]; exact d0) (Nat.le_refl _) (Nat.le_refl _)
  generalize hT1 : (T.setVm vm₁).pushCell { cls := cX, slots := kX.instanceTypes.map defaultValue, vm := .none } = T1 at X₁ st1
  have hcat : (Value.ref T.heap.size).category = 1 := rfl
  have hcellA : T1.heap[T.heap.size]? = some (freshCell cX kX) := by rw [← hT1]; exact State.heap_pushCell_size _ _
  have d3' : decode c.code (pc + 3) = .ok (.dup, 1) := by rw [hb]; exact d3
  obtain ⟨U, hsteps, hrun, hend, hW, hsame, ce, hce, hO⟩ := X₁.ctorThrow0 hexec htr (own := own) (cls := cls) (names := names) (ic := ic) hown' hcls hnames h (fun x hx => nomatch hx) hfX hkX hcellA (by rw [hhp, hT]; exact Nat.le_refl _)
    (g := { method := m, pc := pc + 4, locals := ls, stack := .ref T.heap.size :: .ref T.heap.size :: rest, locked := none }) rfl hsize rfl rfl (rest := rest) rfl
    (by rw [hb]; exact d4) (by rw [hb]; exact d7) hout hRframes (by simp only [List.map_cons, List.sum_cons, hcat]; omega) hlocks
  obtain ⟨f1, f2⟩ := vx_frame hsame
  rw [hhp] at f1 f2
  have hWs : s.WarmedH U.vm := State.WarmedH.trans hW0 hW
  have hcl : s.vm.findClass cls = some ce.cls := by
    have h9 := hO.cls
    rw [hvm] at h9
    exact h9
  have hall : s.sameButNew ({ U with vm := s.vm } : State) locs mc ms := by
    subst hA
    obtain ⟨e1, e2⟩ := hsame
    rw [State.setFrames_setFrames] at e1
    have h2 : (T.setVm s.vm).sameButNew ({ U with vm := s.vm } : State) [] (0 + 1) (0 + 6) := ⟨e1, e2⟩
    have h3 := X.same.trans h2
    rw [List.append_nil] at h3
    exact h3.mono hc hs
  refine ⟨U, ?_, .threw T.heap.size, hrun, hend, Or.inr ⟨T.heap.size, rfl, cls, ce, locs, hx U hWs.alike f1 (fun q hq => f2 q hq (fun z hz => nomatch hz)), hce, hO.vm, hcl, hWs, hall, hf⟩⟩
  refine st1 _ ?_
  show Steps p.tables e below (T1.setTop { method := m, pc := pc + 3, locals := ls, stack := .ref T.heap.size :: rest, locked := none }) _
  jvm_step X₁.here [X₁.here.top, hexec, d3', Value.category]
  exact hsteps
/-- 'throw new E("text")': new; dup; ldc; invokespecial; athrow -/
theorem vx_throwS {cc : ByteArray} {pc : Nat} (hexec : p.tables.exec = Jvm.exec) (hb : c.code = cc) (hl : l.stackTraces = false) {own cls text : String} {names : List String} {ik is ic mc ms sa : Nat} {A : Nat → Prop}
    (hown : s.vm.findClass own = some m.cls) (hcls : Bundle.fit cls = true) (hnames : ∀ n ∈ names, Bundle.fit n = true)
    (hk : (Cond.classLink own ik cls).before args s = true) (hini : (Cond.initialized cls).before args s = true) (hstr : vk_R own is text sa s) (hat : ∀ w ∈ vx_atS own ic cls names, w.before args s = true)
    (hgood : ∀ w ∈ Cond.classLink own ik cls :: Cond.initialized cls :: vx_atS own ic cls names, vx_ot w = true)
    (hU : vx_Zq Bundle.tN "UNASSIGNED_STACK" Bundle.steD A s s.heap) (hN : vx_Zq Bundle.tN "SUPPRESSED_SENTINEL" Bundle.listD A s s.heap) (hS : va_S A s.heap H locs) (hsize : ls.size = c.maxLocals)
    (d0 : decode cc pc = .ok (.new ik, 3)) (d3 : decode cc (pc + 3) = .ok (.dup, 1)) (d4 : decode cc (pc + 4) = .ok (.ldc is, 2)) (d6 : decode cc (pc + 6) = .ok (.invokespecial ic, 3)) (d9 : decode cc (pc + 9) = .ok (.athrow, 1))
    (hout : ∀ x ∈ c.exceptionTable.toList, covers x (pc + 9) = false)
    (hRframes : names.length + 3 < R.frames) (hRlocals : (rest.map fun v => v.category).sum + (13 * (names.length + 1) + 43) ≤ R.locals) (hRcells : cells + 1 ≤ R.cells) (hRslots : slots + 6 ≤ R.slots) (hlocks : meth.locks = false)
    (hx : ∀ t : State, s.vm.Alike t.vm → H.size ≤ t.heap.size → (∀ q : Nat, q < H.size → t.heap[q]? = H[q]?) → XC cls s t)
    (hf : ∀ z ∈ locs, free z.base) (hc : cells + 1 ≤ mc) (hs : slots + 6 ≤ ms) :
    W p l e R s m args below meth c H locs cells slots (vx_MQ below Qc XC args s mc ms free) (F0 m pc ls rest) := by
  intro T hT X
  have htr : e.platform.stackTraces = false := (show e.platform.stackTraces = l.stackTraces by rw [X.admits.platform]).trans hl
  have Y := vx_rebase X (R' := { frames := R.frames, locals := R.locals, cells := 1, slots := 6 }) (Nat.le_refl _) (Nat.le_refl _) hRcells hRslots
  obtain ⟨s', hA⟩ : ∃ z, z = (T.setVm s.vm).setFrames (.invoking m args :: below) := ⟨_, rfl⟩
  rw [← hA] at Y
  have hvm : s'.vm = s.vm := by rw [hA]; rfl
  have hhp : s'.heap = H := by rw [hA]; exact hT
  have hW0 : s.WarmedH s'.vm := by rw [hvm]; exact State.WarmedH.refl s
  have hat' : ∀ w ∈ vx_atS own ic cls names, w.before args s' = true := fun w hw => vx_ot_at hW0 hvm.symm (hgood w (List.mem_cons_of_mem _ (List.mem_cons_of_mem _ hw))) (hat w hw)
  have hk' : (Cond.classLink own ik cls).before args s' = true := vx_ot_at hW0 hvm.symm (hgood _ List.mem_cons_self) hk
  have hini' : (Cond.initialized cls).before args s' = true := vx_ot_at hW0 hvm.symm (hgood _ (List.mem_cons_of_mem _ List.mem_cons_self)) hini
  have hU' : vx_Zq Bundle.tN "UNASSIGNED_STACK" Bundle.steD A s' s'.heap := by rw [hhp]; exact vx_Zq.moved hW0.alike (hU.kept hS.2.1)
  have hN' : vx_Zq Bundle.tN "SUPPRESSED_SENTINEL" Bundle.listD A s' s'.heap := by rw [hhp]; exact vx_Zq.moved hW0.alike (hN.kept hS.2.1)
  have h : ∀ w ∈ Bundle.ownAtoms own ic cls names, w.before args s' = true := vx_own hat' (vx_isRefq hU'.1) (vx_isRefq hN'.1) hU'.2.word hN'.2.word
  have hown' : s'.vm.findClass own = some m.cls := by rw [hvm]; exact hown
  have hins : (Cond.instantiable cls 6).before args s' = true := h _ (by simp [Bundle.ownAtoms])
  obtain ⟨vm₁, cX, kX, hfX, hkX, -, -, X₁, st1⟩ := Y.newCold hexec (own := own) (C := cls) (index := ik) (n := 6) hown' hk' hins hini'
    (g := F0 m pc ls rest) rfl (by rw [hb]; exact d0) (Nat.le_refl _) (Nat.le_refl _)
  generalize hT1 : (T.setVm vm₁).pushCell { cls := cX, slots := kX.instanceTypes.map defaultValue, vm := .none } = T1 at X₁ st1
  have hcat : (Value.ref T.heap.size).category = 1 := rfl
  have hcellA : T1.heap[T.heap.size]? = some (freshCell cX kX) := by rw [← hT1]; exact State.heap_pushCell_size _ _
  have d3' : decode c.code (pc + 3) = .ok (.dup, 1) := by rw [hb]; exact d3
  have d4' : decode c.code (pc + 4) = .ok (.ldc is, 2) := by rw [hb]; exact d4
  have hstr' : vk_R own is text sa s' := vk_R.warm hW0 hstr
  obtain ⟨U, hsteps, hrun, hend, hW, hsame, ce, hce, hO⟩ := X₁.ctorThrowS hexec htr (own := own) (cls := cls) (names := names) (ic := ic) hown' hcls hnames h (fun x hx => nomatch hx) hfX hkX hcellA (by rw [hhp, hT]; exact Nat.le_refl _) (msg := .ref sa) rfl
    (g := { method := m, pc := pc + 6, locals := ls, stack := .ref sa :: .ref T.heap.size :: .ref T.heap.size :: rest, locked := none }) rfl hsize rfl rfl (rest := rest) rfl
    (by rw [hb]; exact d6) (by rw [hb]; exact d9) hout hRframes (by simp only [List.map_cons, List.sum_cons, hcat]; omega) hlocks
  obtain ⟨f1, f2⟩ := vx_frame hsame
  rw [hhp] at f1 f2
  have hWs : s.WarmedH U.vm := State.WarmedH.trans hW0 hW
  have hcl : s.vm.findClass cls = some ce.cls := by
    have h9 := hO.cls
    rw [hvm] at h9
    exact h9
  have hall : s.sameButNew ({ U with vm := s.vm } : State) locs mc ms := by
    subst hA
    obtain ⟨e1, e2⟩ := hsame
    rw [State.setFrames_setFrames] at e1
    have h2 : (T.setVm s.vm).sameButNew ({ U with vm := s.vm } : State) [] (0 + 1) (0 + 6) := ⟨e1, e2⟩
    have h3 := X.same.trans h2
    rw [List.append_nil] at h3
    exact h3.mono hc hs
  refine ⟨U, ?_, .threw T.heap.size, hrun, hend, Or.inr ⟨T.heap.size, rfl, cls, ce, locs, hx U hWs.alike f1 (fun q hq => f2 q hq (fun z hz => nomatch hz)), hce, hO.vm, hcl, hWs, hall, hf⟩⟩
  refine st1 _ ?_
  show Steps p.tables e below (T1.setTop { method := m, pc := pc + 3, locals := ls, stack := .ref T.heap.size :: rest, locked := none }) _
  jvm_step X₁.here [X₁.here.top, hexec, d3', Value.category]
  exact X₁.ldcString hexec (own := own) (text := text) (index := is) (a := sa) hown' hstr'.1 hstr'.2
    (g := { method := m, pc := pc + 4, locals := ls, stack := .ref T.heap.size :: .ref T.heap.size :: rest, locked := none }) rfl d4' _ hsteps
/-- 'throw new E("text")', the text by a wide index -/
theorem vx_throwSW {cc : ByteArray} {pc : Nat} (hexec : p.tables.exec = Jvm.exec) (hb : c.code = cc) (hl : l.stackTraces = false) {own cls text : String} {names : List String} {ik is ic mc ms sa : Nat} {A : Nat → Prop}
    (hown : s.vm.findClass own = some m.cls) (hcls : Bundle.fit cls = true) (hnames : ∀ n ∈ names, Bundle.fit n = true)
    (hk : (Cond.classLink own ik cls).before args s = true) (hini : (Cond.initialized cls).before args s = true) (hstr : vk_R own is text sa s) (hat : ∀ w ∈ vx_atS own ic cls names, w.before args s = true)
    (hgood : ∀ w ∈ Cond.classLink own ik cls :: Cond.initialized cls :: vx_atS own ic cls names, vx_ot w = true)
    (hU : vx_Zq Bundle.tN "UNASSIGNED_STACK" Bundle.steD A s s.heap) (hN : vx_Zq Bundle.tN "SUPPRESSED_SENTINEL" Bundle.listD A s s.heap) (hS : va_S A s.heap H locs) (hsize : ls.size = c.maxLocals)
    (d0 : decode cc pc = .ok (.new ik, 3)) (d3 : decode cc (pc + 3) = .ok (.dup, 1)) (d4 : decode cc (pc + 4) = .ok (.ldc_w is, 3)) (d7 : decode cc (pc + 7) = .ok (.invokespecial ic, 3)) (d10 : decode cc (pc + 10) = .ok (.athrow, 1))
    (hout : ∀ x ∈ c.exceptionTable.toList, covers x (pc + 10) = false)
    (hRframes : names.length + 3 < R.frames) (hRlocals : (rest.map fun v => v.category).sum + (13 * (names.length + 1) + 43) ≤ R.locals) (hRcells : cells + 1 ≤ R.cells) (hRslots : slots + 6 ≤ R.slots) (hlocks : meth.locks = false)
    (hx : ∀ t : State, s.vm.Alike t.vm → H.size ≤ t.heap.size → (∀ q : Nat, q < H.size → t.heap[q]? = H[q]?) → XC cls s t)
    (hf : ∀ z ∈ locs, free z.base) (hc : cells + 1 ≤ mc) (hs : slots + 6 ≤ ms) :
    W p l e R s m args below meth c H locs cells slots (vx_MQ below Qc XC args s mc ms free) (F0 m pc ls rest) := by
  intro T hT X
  have htr : e.platform.stackTraces = false := (show e.platform.stackTraces = l.stackTraces by rw [X.admits.platform]).trans hl
  have Y := vx_rebase X (R' := { frames := R.frames, locals := R.locals, cells := 1, slots := 6 }) (Nat.le_refl _) (Nat.le_refl _) hRcells hRslots
  obtain ⟨s', hA⟩ : ∃ z, z = (T.setVm s.vm).setFrames (.invoking m args :: below) := ⟨_, rfl⟩
  rw [← hA] at Y
  have hvm : s'.vm = s.vm := by rw [hA]; rfl
  have hhp : s'.heap = H := by rw [hA]; exact hT
  have hW0 : s.WarmedH s'.vm := by rw [hvm]; exact State.WarmedH.refl s
  have hat' : ∀ w ∈ vx_atS own ic cls names, w.before args s' = true := fun w hw => vx_ot_at hW0 hvm.symm (hgood w (List.mem_cons_of_mem _ (List.mem_cons_of_mem _ hw))) (hat w hw)
  have hk' : (Cond.classLink own ik cls).before args s' = true := vx_ot_at hW0 hvm.symm (hgood _ List.mem_cons_self) hk
  have hini' : (Cond.initialized cls).before args s' = true := vx_ot_at hW0 hvm.symm (hgood _ (List.mem_cons_of_mem _ List.mem_cons_self)) hini
  have hU' : vx_Zq Bundle.tN "UNASSIGNED_STACK" Bundle.steD A s' s'.heap := by rw [hhp]; exact vx_Zq.moved hW0.alike (hU.kept hS.2.1)
  have hN' : vx_Zq Bundle.tN "SUPPRESSED_SENTINEL" Bundle.listD A s' s'.heap := by rw [hhp]; exact vx_Zq.moved hW0.alike (hN.kept hS.2.1)
  have h : ∀ w ∈ Bundle.ownAtoms own ic cls names, w.before args s' = true := vx_own hat' (vx_isRefq hU'.1) (vx_isRefq hN'.1) hU'.2.word hN'.2.word
  have hown' : s'.vm.findClass own = some m.cls := by rw [hvm]; exact hown
  have hins : (Cond.instantiable cls 6).before args s' = true := h _ (by simp [Bundle.ownAtoms])
  obtain ⟨vm₁, cX, kX, hfX, hkX, -, -, X₁, st1⟩ := Y.newCold hexec (own := own) (C := cls) (index := ik) (n := 6) hown' hk' hins hini'
    (g := F0 m pc ls rest) rfl (by rw [hb]; exact d0) (Nat.le_refl _) (Nat.le_refl _)
  generalize hT1 : (T.setVm vm₁).pushCell { cls := cX, slots := kX.instanceTypes.map defaultValue, vm := .none } = T1 at X₁ st1
  have hcat : (Value.ref T.heap.size).category = 1 := rfl
  have hcellA : T1.heap[T.heap.size]? = some (freshCell cX kX) := by rw [← hT1]; exact State.heap_pushCell_size _ _
  have d3' : decode c.code (pc + 3) = .ok (.dup, 1) := by rw [hb]; exact d3
  have d4' : decode c.code (pc + 4) = .ok (.ldc_w is, 3) := by rw [hb]; exact d4
  have hstr' : vk_R own is text sa s' := vk_R.warm hW0 hstr
  obtain ⟨U, hsteps, hrun, hend, hW, hsame, ce, hce, hO⟩ := X₁.ctorThrowS hexec htr (own := own) (cls := cls) (names := names) (ic := ic) hown' hcls hnames h (fun x hx => nomatch hx) hfX hkX hcellA (by rw [hhp, hT]; exact Nat.le_refl _) (msg := .ref sa) rfl
    (g := { method := m, pc := pc + 7, locals := ls, stack := .ref sa :: .ref T.heap.size :: .ref T.heap.size :: rest, locked := none }) rfl hsize rfl rfl (rest := rest) rfl
    (by rw [hb]; exact d7) (by rw [hb]; exact d10) hout hRframes (by simp only [List.map_cons, List.sum_cons, hcat]; omega) hlocks
  obtain ⟨f1, f2⟩ := vx_frame hsame
  rw [hhp] at f1 f2
  have hWs : s.WarmedH U.vm := State.WarmedH.trans hW0 hW
  have hcl : s.vm.findClass cls = some ce.cls := by
    have h9 := hO.cls
    rw [hvm] at h9
    exact h9
  have hall : s.sameButNew ({ U with vm := s.vm } : State) locs mc ms := by
    subst hA
    obtain ⟨e1, e2⟩ := hsame
    rw [State.setFrames_setFrames] at e1
    have h2 : (T.setVm s.vm).sameButNew ({ U with vm := s.vm } : State) [] (0 + 1) (0 + 6) := ⟨e1, e2⟩
    have h3 := X.same.trans h2
    rw [List.append_nil] at h3
    exact h3.mono hc hs
  refine ⟨U, ?_, .threw T.heap.size, hrun, hend, Or.inr ⟨T.heap.size, rfl, cls, ce, locs, hx U hWs.alike f1 (fun q hq => f2 q hq (fun z hz => nomatch hz)), hce, hO.vm, hcl, hWs, hall, hf⟩⟩
  refine st1 _ ?_
  show Steps p.tables e below (T1.setTop { method := m, pc := pc + 3, locals := ls, stack := .ref T.heap.size :: rest, locked := none }) _
  jvm_step X₁.here [X₁.here.top, hexec, d3', Value.category]
  exact X₁.ldcStringW hexec (own := own) (text := text) (index := is) (a := sa) hown' hstr'.1 hstr'.2
    (g := { method := m, pc := pc + 4, locals := ls, stack := .ref T.heap.size :: .ref T.heap.size :: rest, locked := none }) rfl d4' _ hsteps
end Ends
section Bodies
variable {l : Launch}
theorem vx_ofW {y : MethodName} {ws ws' : List Cond} {rm : Room} {Pc : Array Value → State → Prop} {Qc : Array Value → State → Outcome → State → Prop} {XC : String → State → State → Prop} {mc ms : Nat} {free : Addr → Prop} {cc : ByteArray} {maxL : Nat} {ret : Option FieldType}
    (hy : plainName y.cls = true) (hw : ws = Cond.code y cc maxL ret :: ws')
    (body : ∀ p e s m args below meth c s₁, BodyLoose p l y (headSpec ws rm) cc maxL ret e s m args below meth c s₁ → c.maxLocals = maxL → (∀ x ∈ c.exceptionTable.toList, False) → Pc args s →
      W p l e (headSpec ws rm).room s m args below meth c s.heap [] 0 0 (vx_MQ below Qc XC args s mc ms free) (entryFrame m args maxL)) : vx_Met l y ws rm Pc Qc XC mc ms free := by
  refine MetFree.of_bodyS (code := cc) (maxLocals := maxL) (ret := ret) hy ?_ ?_
  · intro args s m h hn
    obtain ⟨meth, c, h1, h2, h3, h4, h5, h6, -, -⟩ := Cond.code_spec hn (atoms_spec (ws := ws) h _ (by rw [hw]; exact List.mem_cons_self))
    exact ⟨meth, c, h1, h2, h3, h4, h5, h6⟩
  · intro p e s m args below meth c s₁ B hml hP _
    have hh0 : s₁.heap = s.heap := by rw [B.state]; rfl
    have ht : ∀ x ∈ c.exceptionTable.toList, False := by
      obtain ⟨meth9, c9, h1, h2, -, -, -, -, h7, -⟩ := Cond.code_spec B.named (atoms_spec (ws := ws) B.pre _ (by rw [hw]; exact List.mem_cons_self))
      cases Option.some.inj (h1.symm.trans B.method)
      cases Option.some.inj (h2.symm.trans (Stand.of_body B).code)
      intro x hx
      rw [Array.isEmpty_iff.mp h7] at hx
      cases hx
    obtain ⟨t, a1, o, b1, b2, b3⟩ := body p e s m args below meth c s₁ B hml ht hP s₁ hh0 (Stand.of_body B)
    exact ⟨t, o, a1, b1, b2, b3⟩
/-- the table of a body with handlers -/
theorem vx_table {p : Program} {x y : MethodName} {S : Spec} {cc bytes : ByteArray} {maxL maxL' : Nat} {ret ret' : Option FieldType} {e : Env} {s s₁ : State} {m : MethodId} {args : Array Value} {below : List Frame} {meth : Method} {c : Code} {hh : List (Nat × Nat × Nat × Nat)}
    (B : BodyLoose p l y S cc maxL ret e s m args below meth c s₁) (h : (Cond.codeWith y bytes maxL' ret' hh).before args s = true) : c.exceptionTable.toList = tableOf hh := by
  obtain ⟨m9, meth9, c9, hn9, h1, h2, -, -, h6, -⟩ := Cond.codeWith_spec h
  cases Option.some.inj (hn9.symm.trans B.named)
  cases Option.some.inj (h1.symm.trans B.method)
  cases Option.some.inj (h2.symm.trans (Stand.of_body B).code)
  rw [← h6, table_eq]
end Bodies
end VXA
/-! ===== END ===== -/
/-! ===== BEGIN a static call of a method with an exception table ===== -/
section VXS
variable {p : Program} {l : Launch} {e : Env} {R : Room} {s : State} {m : MethodId} {args : Array Value} {below : List Frame} {meth : Method} {c : Code} {T : State} {H : Heap} {locs : List Loc} {cells slots : Nat}
abbrev vx_CSW (R : Room) (s : State) (args : Array Value) (own : String) (index : Nat) (y : MethodName) (bytes : ByteArray) (maxL : Nat) (ret : Option FieldType) (hh : List (Nat × Nat × Nat × Nat)) (ws : List Cond) (rm : Room) (mc ms n : Nat) : Prop :=
  (rm.cells = mc ∧ rm.slots = ms ∧ rm.frames + 1 ≤ R.frames ∧ 8 + (maxL + 11) + rm.locals ≤ R.locals ∧ (∀ w ∈ ws, ∀ (a' : Array Value) (U : State), s.WarmedH U.vm → w.before a' U = true) ∧ Cond.codeWith y bytes maxL ret hh ∈ ws) ∧
  (Cond.codeWith y bytes maxL ret hh).before args s = true ∧ (Cond.initialized y.cls).before args s = true ∧ (y.cls ≠ "java/lang/invoke/MethodHandle" ∧ y.cls ≠ "java/lang/invoke/VarHandle") ∧
  (∀ sig, parseMethodDescriptor y.desc = some sig → n = sig.parameters.length) ∧ (Cond.methodLink own index y).before args s = true ∧ (Cond.static y).before args s = true
theorem vx_cwSW {own : String} {index maxL mc ms : Nat} {y : MethodName} {bytes : ByteArray} {ret : Option FieldType} {hh : List (Nat × Nat × Nat × Nat)} {Ts ws ws' : List Cond} {rm : Room} (n : Nat) (ht : ∀ w ∈ Ts, w.before args s = true) (hT : GoodIn Ts (va_wsS own index y ws)) (hw : ws = Cond.codeWith y bytes maxL ret hh :: ws') (hrc : rm.cells = mc) (hrs : rm.slots = ms)
    (hd : y.cls ≠ "java/lang/invoke/MethodHandle" ∧ y.cls ≠ "java/lang/invoke/VarHandle" ∧ (parseMethodDescriptor y.desc).map (fun d => d.parameters.length) = some n) (hR : rm.frames + 1 ≤ R.frames ∧ 8 + (maxL + 11) + rm.locals ≤ R.locals) :
    vx_CSW R s args own index y bytes maxL ret hh ws rm mc ms n := by
  have ok : ∀ w ∈ va_wsS own index y ws, w.before args s = true := fun w h => ht w (hT w h).1
  have hG : GoodIn Ts ws := fun w h => hT w (by unfold va_wsS; exact List.mem_append_right _ h)
  have hc : Cond.codeWith y bytes maxL ret hh ∈ ws := by rw [hw]; exact List.mem_cons_self
  refine ⟨⟨hrc, hrs, hR.1, hR.2, pay_in ht hG, hc⟩, ht _ (hG _ hc).1, ok _ (by simp [va_wsS]), ⟨hd.1, hd.2.1⟩, fun sig h => ?_, ok _ (by simp [va_wsS]), ok _ (by simp [va_wsS])⟩
  have h2 := hd.2.2
  rw [h] at h2
  exact (Option.some.inj h2).symm
theorem vx_callSW (X : Stand p l e R s m args below meth c T locs cells slots) (hexec : p.tables.exec = Jvm.exec) {own : String} {index : Nat} {y : MethodName} {bytes : ByteArray} {maxL : Nat} {ret : Option FieldType} {hh : List (Nat × Nat × Nat × Nat)}
    (hown : s.vm.findClass own = some m.cls) (hlink : (Cond.methodLink own index y).before args s = true) (hstat : (Cond.static y).before args s = true) (hinit : (Cond.initialized y.cls).before args s = true)
    (hcode : (Cond.codeWith y bytes maxL ret hh).before args s = true) (hy : y.cls ≠ "java/lang/invoke/MethodHandle" ∧ y.cls ≠ "java/lang/invoke/VarHandle")
    {W9 : Nat} {Pre : Pt → Array Value → Prop} {Post : Pt → Array Value → Option Value → Pt → Prop} (hK : Back l R p e below s args y 3 W9 Pre Post)
    {g : JFrame} (hg : g.method = m) (hsize : g.locals.size = c.maxLocals) {argsL rest : List Value} (hlen : ∀ sig, parseMethodDescriptor y.desc = some sig → argsL.length = sig.parameters.length)
    (hstack : g.stack = argsL.reverse ++ rest) (hW : 2 * g.monitorRoom + (rest.map fun v => v.category).sum ≤ W9) (hdg : decode c.code g.pc = .ok (.invokestatic index, 3))
    (hpre : ∀ vm₁, s.WarmedH vm₁ → Pre ⟨T.setVm vm₁, locs, cells, slots⟩ argsL.toArray) :
    ∃ (v : Option Value) (vm₁ : Vm) (B : Pt), s.WarmedH vm₁ ∧ Stand p l e R s m args below meth c B.U B.locs B.cells B.slots ∧ Post ⟨T.setVm vm₁, locs, cells, slots⟩ argsL.toArray v B ∧
      ∀ target, Steps p.tables e below (B.U.setTop { g with pc := g.pc + 3, stack := v.toList ++ rest }) target → Steps p.tables e below (T.setTop g) target := by
  obtain ⟨mk, methM, cM, hnamed, hmethM, -, -, -, -, -, -, hsigM⟩ := Cond.codeWith_spec hcode
  have hstatic : methM.isStatic = true := Cond.static_spec hnamed hmethM hstat
  obtain ⟨kP, hkP, -⟩ := className_of_methodNamed hnamed
  have hinitP : kP.init = .initialized := Cond.initialized_spec (findClass_of_methodNamed hnamed) hkP hinit
  obtain ⟨vm₁, X₁, hstep₁⟩ := X.invokestatic hexec hown hlink hnamed hmethM hstatic hkP hinitP hy (g := g) hg (argsL := argsL) (rest := rest) (hlen _ hsigM) hstack hdg
  obtain ⟨v, B, X', hpost, hsteps⟩ := hK m meth c ⟨T.setVm vm₁, locs, cells, slots⟩ { g with stack := rest } (.invokestatic index) mk argsL.toArray X₁ hg hsize hdg hW (X₁.named hnamed) (hpre vm₁ X₁.warmed)
  exact ⟨v, vm₁, B, X₁.warmed, X', hpost, fun target h => hstep₁ _ fun acts => by rw [doInvoke_state]; exact hsteps.trans h⟩
theorem vx_runSW {y : MethodName} {bytes cc : ByteArray} {maxL nL mc ms n index : Nat} {ret : Option FieldType} {hh : List (Nat × Nat × Nat × Nat)} {ws : List Cond} {rm : Room} {Pc : Array Value → State → Prop} {Qc : Array Value → State → Outcome → State → Prop} {free : Addr → Prop} {Ts : List Cond} {own : String} {As rest : List Value} {g : JFrame}
    (S : CallFix p m c cc nL s args Ts own) (hM : Met l y ws rm Pc Qc mc ms free) (cw : vx_CSW R s args own index y bytes maxL ret hh ws rm mc ms n) (hp : PreS s H Pc As)
    (hg : g.method = m) (hn : As.length = n) (hsize : g.locals.size = nL) (hstack : g.stack = As.reverse ++ rest) (hW : 2 * g.monitorRoom + (rest.map fun v => v.category).sum ≤ 8) (hdg : decode cc g.pc = .ok (.invokestatic index, 3)) (hf : cells + mc ≤ R.cells ∧ slots + ms ≤ R.slots) :
    va_Run p l e R s m args below meth c H locs cells slots mc ms g rest (Qc As.toArray) (free) := by
  obtain ⟨⟨hrc, hrs, hfr, hlo, hws, hcw⟩, hcode, hini, hy, hlen, hl, hstt⟩ := cw
  have hK : Back l R p e below s args y 3 8 (PreOf R mc ms Pc) (PostOf Qc mc ms free) := va_backW (hh := hh) (bytes := bytes) (maxL := maxL) (ret := ret) hM hp.1 hrc hrs hfr hlo hws hcw (fun a' U hW => word_at hW (Or.inl (by first | rfl | simp [Cond.onTables, Cond.keeps, Cond.steady])) hini)
  obtain ⟨hx, hb, hml, ho, -⟩ := S
  intro T hT X
  obtain ⟨v, vm₁, ⟨U', l2, c2, s2⟩, hW₁, X', ⟨g', mk, t, L, e1, e2, hq, h1, hL, h2, h3⟩, st⟩ := vx_callSW X hx (hh := hh) (bytes := bytes) (maxL := maxL) (ret := ret) ho hl hstt hini hcode hy hK hg (hsize.trans hml.symm) (argsL := As) (rest := rest) (fun sig h => hn.trans (hlen sig h)) hstack hW (by rw [hb]; exact hdg)
    (fun vm₁ hW₁ => ⟨hf.1, hf.2, hp.2 (T.setVm vm₁) hT hW₁⟩)
  dsimp only [Pt.U, Pt.locs, Pt.cells, Pt.slots] at X' e1 e2 h1 h2 h3 st
  subst h1; subst h2; subst h3
  exact ⟨v, (T.setVm vm₁).calling g' mk As.toArray, t, U', L, hT, X', hL, e1, e2, hq, st⟩
/-- not caught here, past rows that name other classes: it goes on to the caller -/
theorem vx_outP {p : Program} {l : Launch} {e : Env} {R : Room} {s : State} {m : MethodId} {args : Array Value} {below : List Frame} {meth : Method} {c : Code} {H : Heap} {locs : List Loc} {cells slots : Nat} {free : Addr → Prop} {ls : Array Slot} {rest : List Value} {Qc : Array Value → State → Outcome → State → Prop} {XC : String → State → State → Prop}
    {pc : Nat} {own E : String} {ce : Cell} {q : Addr} {mc ms : Nat} (hown : s.vm.findClass own = some m.cls) (hlocks : meth.locks = false)
    (hpass : ∀ z ∈ c.exceptionTable.toList, covers z pc = false ∨ (z.catchType ≠ 0 ∧ ∃ nm : String, (Cond.classLink own z.catchType nm).before args s = true ∧ va_Nc E nm s)) (hcell : H[q]? = some ce) (hv : ce.vm = .none) (hcl : s.vm.findClass E = some ce.cls)
    (hx : ∀ t : State, t.heap = H → s.vm.Alike t.vm → XC E s t) (hf : ∀ z ∈ locs, free z.base) (hc : cells ≤ mc) (hs : slots ≤ ms) :
    vx_W p l e R s m args below meth c H locs cells slots (vx_MQ below Qc XC args s mc ms free) (F0 m pc ls rest) q := by
  intro T hT X
  have hpl : e.platform.magicAccessors = ({} : Platform).magicAccessors := by rw [X.admits.platform]
  obtain ⟨vm', hW', X', st⟩ := X.outThrough hlocks q (g := F0 m pc ls rest) rfl rfl rfl (cell := ce) (by rw [hT]; exact hcell) (by rw [hv]; rfl)
    (by obtain ⟨k9, h9, -⟩ := Vm.findClass_spec hcl; exact ⟨k9, h9⟩) (fun z hz => by
      rcases hpass z hz with h | ⟨hz0, nm, hl1, hn1⟩
      · exact Or.inl h
      · obtain ⟨c6, hc6, hcl6⟩ := Cond.classLink_spec hown hl1 e.platform hpl
        obtain ⟨a8, b8, h1, h2, h3⟩ := hn1
        cases Option.some.inj (h1.symm.trans hcl)
        cases Option.some.inj (h2.symm.trans hc6)
        exact Or.inr ⟨hz0, _, hcl6, h3⟩)
  obtain ⟨g₀, hfr⟩ := X'.frames_eq
  have hcell9 : ((T.setVm vm').setFrames (.throwing q :: below)).heap[q]? = some ce := by
    show T.heap[q]? = some ce
    rw [hT]; exact hcell
  have hend : Ended ((T.setVm vm').setFrames (.throwing q :: below)) below (.threw q) := State.frames_setFrames _ (State.cur_lt_of_frames hfr)
  refine ⟨(T.setVm vm').setFrames (.throwing q :: below), ?_, .threw q, X'.here.running, hend, Or.inr ⟨q, rfl, E, ce, locs, hx _ hT (X'.ends _).1.alike, hcell9, hv, hcl, (X'.ends _).1, (X'.ends _).2.mono hc hs, hf⟩⟩
  rw [X.pushThrowing_eq]
  exact st
/-- a thing of a world lies in the heap -/
theorem vx_lt {D : va_G} {cl : List vw_C} {ws : va_W} {H1 : Heap} (h : va_P D cl ws H1) {k : Nat} {q : Nat × va_E} (hk : ws[k]? = some q) : q.1 < H1.size := (h k q hk).lt
end VXS
/-! ===== END ===== -/
/-! ===== BEGIN methods with a table of their own: called by a name, returning or throwing ===== -/
section VXH
/-! vx_backW, vx_callVX, vx_callSX, vx_callVW, vx_runVW, vx_runVX, vx_runSX, vx_ofWH follow the same proofs as their sisters above (Free/Laws.lean, Shelf42/LK1.lean); vx_outP calls Shelf42/NT130.lean (outThrough). -/
section
variable {l : Launch} {R : Room} {p : Program} {e : Env} {below : List Frame} {s : State} {sargs : Array Value} {y : MethodName} {len W9 : Nat}
theorem vx_backW {ws : List Cond} {rm : Room} {Pc : Array Value → State → Prop} {Qc : Array Value → State → Outcome → State → Prop} {XC : String → State → State → Prop} {mc ms : Nat} {free : Addr → Prop} {bytes : ByteArray} {maxL : Nat} {ret : Option FieldType} {hh : List (Nat × Nat × Nat × Nat)}
    (hM : vx_Met l y ws rm Pc Qc XC mc ms free) (hblind : FrameBlind Pc) (hrc : rm.cells = mc) (hrs : rm.slots = ms)
    (hframes : rm.frames + 1 ≤ R.frames) (hlocals : W9 + (maxL + 11) + rm.locals ≤ R.locals)
    (hws : ∀ w ∈ ws, ∀ a' U, s.WarmedH U.vm → w.before a' U = true) (hcode : Cond.codeWith y bytes maxL ret hh ∈ ws) (hinit : ∀ a' U, s.WarmedH U.vm → (Cond.initialized y.cls).before a' U = true) :
    vx_Back l R p e below s sargs y len W9 (PreOf R mc ms Pc) (PostOf Qc mc ms free) (vx_Post XC mc ms free) := by
  intro m meth c A g ig mk a X hg hsize hdg hW hn hp
  have h1 : (headSpec ws rm).pre.before a A.U = true := atoms_intro fun w hw => hws w hw _ _ X.warmed
  have h2 : (Cond.codeWith y bytes maxL ret hh).before a A.U = true := hws _ hcode _ _ X.warmed
  have h3 : (Cond.initialized y.cls).before a A.U = true := hinit _ _ X.warmed
  have h4 : A.cells + (headSpec ws rm).room.cells ≤ R.cells := by rw [show (headSpec ws rm).room.cells = mc from hrc]; exact hp.1
  have h5 : A.slots + (headSpec ws rm).room.slots ≤ R.slots := by rw [show (headSpec ws rm).room.slots = ms from hrs]; exact hp.2.1
  have hPc : Pc a (A.U.calling g mk a) := hblind _ _ _ _ hp.2.2
  obtain ⟨U, Ls, c0, s0⟩ := A
  dsimp only [Pt.U, Pt.locs, Pt.cells, Pt.slots] at h1 h2 h3 h4 h5 X hn hPc ⊢
  obtain ⟨m9, methY, cY, hn9, hmY, hcY, -, hlY, -⟩ := Cond.codeWith_spec h2
  cases Option.some.inj (hn9.symm.trans hn)
  obtain ⟨kY, hkY, -⟩ := className_of_methodNamed hn
  have hinitY : kY.init = .initialized := Cond.initialized_spec (findClass_of_methodNamed hn) hkY h3
  have h : At U g.method c below := by rw [hg]; exact X.here
  have hlocals9 : W9 + (maxL + 11) + (headSpec ws rm).room.locals ≤ R.locals := hlocals
  have happ : (headSpec ws rm).appliesLoose y e.platform (U.calling g mk a) = true :=
    Spec.appliesLoose_calling (g := g) h hdg hn hkY hinitY
      (X.room_calling (g := g) (R' := (headSpec ws rm).room) hsize hmY hcY hframes (by rw [hlY]; omega) h4 h5) h1
  obtain ⟨mid, hmid⟩ := h.above
  have hfr : (U.setTop g).frames = (.java g :: mid) ++ below := by rw [State.frames_setTop' g h.top, hmid]; rfl
  obtain ⟨o, s₂, hsteps, -, hend, hq⟩ := Steps.callFree hM p X.admits X.cas X.clock (acts := []) hfr happ hPc trivial
  have hq' : vx_Q Qc XC mc ms free a (U.calling g mk a) o s₂ := hq
  rw [State.frames_setTop' g h.top] at hend
  obtain ⟨g₀, hg0⟩ := Option.isSome_iff_exists.mp h.top
  obtain ⟨r, hr⟩ := State.topJava?_eq_some.mp hg0
  have hr' : (({ U with heap := s₂.heap, slotsUsed := s₂.slotsUsed } : State).setVm s₂.vm).frames = .java g₀ :: r := hr
  rcases hq' with ⟨hqc, L, hfe, hL⟩ | ⟨q, rfl, E, ce, L, hx, hce, hcv, hcl, hW₂, hsm, hL⟩
  · obtain ⟨⟨v, rfl⟩, hW₂, e2, q2, q3, q4, q5, q6⟩ := id hfe
    have e3 : s₂ = ({ (U.calling g mk a).setFrames s₂.frames with heap := s₂.heap, slotsUsed := s₂.slotsUsed } : State).setVm s₂.vm := by
      have : s₂ = ({ s₂ with vm := (U.calling g mk a).vm } : State).setVm s₂.vm := rfl
      rw [e2] at this
      exact this
    obtain ⟨c₂, i₂, len₂, hc₂, hd₂, hf₂⟩ := hend
    have hW' : U.WarmedH s₂.vm := hW₂
    have hcc : c₂ = c := by
      have h1 : s₂.code? g.method = U.code? g.method := by
        rw [State.code?_eq, State.code?_eq, hW'.alike.method?]
      exact Option.some.inj (hc₂.symm.trans (h1.trans h.code))
    subst hcc
    have hlen : len₂ = len := by rw [hdg] at hd₂; cases hd₂; rfl
    subst hlen
    have hs₂ : s₂ = (({ U with heap := s₂.heap, slotsUsed := s₂.slotsUsed } : State).setVm s₂.vm).setTop { g with pc := g.pc + len₂, stack := v.toList ++ g.stack } := by
      refine e3.trans ?_
      rw [hf₂, State.calling_eq h.top, State.setFrames_setFrames, State.setTop_of_frames _ hr', hr]
      rfl
    have hsame : U.sameButNew ({ U with heap := s₂.heap, slotsUsed := s₂.slotsUsed } : State) L mc ms := by
      refine ⟨?_, q2, q3, q4, q5, q6⟩
      obtain ⟨t, ht, -⟩ := State.frames_cons hr
      show ({ U with heap := s₂.heap, slotsUsed := s₂.slotsUsed } : State) = { U.setFrames U.frames with heap := s₂.heap, slotsUsed := s₂.slotsUsed }
      rw [State.setFrames_self ht]
    subst hg
    refine Or.inl ⟨v, ⟨(({ U with heap := s₂.heap, slotsUsed := s₂.slotsUsed } : State).setVm s₂.vm), Ls ++ L, c0 + mc, s0 + ms⟩,
      ⟨X.admits, X.cas, X.clock, X.frames, X.room, X.hears, X.method, X.code, (X.here.setHeapUsed s₂.heap s₂.slotsUsed).setVm hW'.alike, X.tail, State.WarmedH.trans X.warmed hW', X.limits, X.bytes, X.same.trans (hsame.setVm s.vm)⟩,
      ⟨g, mk, s₂, L, rfl, rfl, hqc, rfl, hL, rfl, rfl⟩, ?_⟩
    show Steps p.tables e below _ ((({ U with heap := s₂.heap, slotsUsed := s₂.slotsUsed } : State).setVm s₂.vm).setTop { g with pc := g.pc + len₂, stack := v.toList ++ g.stack })
    rw [← hs₂]
    exact hsteps
  · obtain ⟨e2, q2, q3, q4, q5, q6⟩ := id hsm
    have e3 : s₂ = ({ (U.calling g mk a).setFrames s₂.frames with heap := s₂.heap, slotsUsed := s₂.slotsUsed } : State).setVm s₂.vm := by
      have : s₂ = ({ s₂ with vm := (U.calling g mk a).vm } : State).setVm s₂.vm := rfl
      rw [e2] at this
      exact this
    have hf₂ : s₂.frames = .throwing q :: .java g :: U.frames.tail := hend
    have hW' : U.WarmedH s₂.vm := hW₂
    have hs₂ : s₂ = ((({ U with heap := s₂.heap, slotsUsed := s₂.slotsUsed } : State).setVm s₂.vm).setTop g).pushFrame (.throwing q) := by
      refine e3.trans ?_
      rw [hf₂, State.calling_eq h.top, State.setFrames_setFrames, State.pushFrame, State.frames_setTop _ hr', State.setTop_of_frames _ hr', State.setFrames_setFrames, hr]
      rfl
    have hsame : U.sameButNew ({ U with heap := s₂.heap, slotsUsed := s₂.slotsUsed } : State) L mc ms := by
      refine ⟨?_, q2, q3, q4, q5, q6⟩
      obtain ⟨t, ht, -⟩ := State.frames_cons hr
      show ({ U with heap := s₂.heap, slotsUsed := s₂.slotsUsed } : State) = { U.setFrames U.frames with heap := s₂.heap, slotsUsed := s₂.slotsUsed }
      rw [State.setFrames_self ht]
    subst hg
    refine Or.inr ⟨q, ⟨(({ U with heap := s₂.heap, slotsUsed := s₂.slotsUsed } : State).setVm s₂.vm), Ls ++ L, c0 + mc, s0 + ms⟩,
      ⟨X.admits, X.cas, X.clock, X.frames, X.room, X.hears, X.method, X.code, (X.here.setHeapUsed s₂.heap s₂.slotsUsed).setVm hW'.alike, X.tail, State.WarmedH.trans X.warmed hW', X.limits, X.bytes, X.same.trans (hsame.setVm s.vm)⟩,
      ⟨g, mk, s₂, L, E, ce, rfl, rfl, hx, hce, hcv, hcl, rfl, hL, rfl, rfl⟩, ?_⟩
    show Steps p.tables e below _ (((({ U with heap := s₂.heap, slotsUsed := s₂.slotsUsed } : State).setVm s₂.vm).setTop g).pushFrame (.throwing q))
    rw [← hs₂]
    exact hsteps
end
variable {p : Program} {l : Launch} {e : Env} {R : Room} {s : State} {m : MethodId} {args : Array Value} {below : List Frame} {meth : Method} {c : Code} {T : State} {H : Heap} {locs : List Loc} {cells slots : Nat}
theorem vx_callVX (X : Stand p l e R s m args below meth c T locs cells slots) (hexec : p.tables.exec = Jvm.exec) {own C : String} {index : Nat} {y : MethodName} {bytes : ByteArray} {maxL : Nat} {ret : Option FieldType} {hh : List (Nat × Nat × Nat × Nat)}
    (hown : s.vm.findClass own = some m.cls) (hlink : (Cond.methodLink own index y).before args s = true) (hinst : (Cond.instanceMethod y).before args s = true) (hsel : (Cond.selects C y y).before args s = true)
    (hcode : (Cond.codeWith y bytes maxL ret hh).before args s = true) (hy : y.cls ≠ "java/lang/invoke/MethodHandle" ∧ y.cls ≠ "java/lang/invoke/VarHandle")
    {W9 : Nat} {Pre : Pt → Array Value → Prop} {Post : Pt → Array Value → Option Value → Pt → Prop} {PostX : Pt → Array Value → Addr → Pt → Prop} (hK : vx_Back l R p e below s args y 3 W9 Pre Post PostX)
    {b : Addr} {cellB : Cell} (hcell : T.heap[b]? = some cellB) (hobj : cellB.vm.isStatics = false) (hcls : s.vm.findClass C = some cellB.cls)
    {g : JFrame} (hg : g.method = m) (hsize : g.locals.size = c.maxLocals) {argsL rest : List Value} (hlen : ∀ sig, parseMethodDescriptor y.desc = some sig → argsL.length = sig.parameters.length)
    (hstack : g.stack = argsL.reverse ++ .ref b :: rest) (hW : 2 * g.monitorRoom + (rest.map fun v => v.category).sum ≤ W9) (hdg : decode c.code g.pc = .ok (.invokevirtual index, 3))
    (hpre : ∀ vm₁, s.WarmedH vm₁ → Pre ⟨T.setVm vm₁, locs, cells, slots⟩ (Value.ref b :: argsL).toArray) :
    (∃ (v : Option Value) (vm₁ : Vm) (B : Pt), s.WarmedH vm₁ ∧ Stand p l e R s m args below meth c B.U B.locs B.cells B.slots ∧ Post ⟨T.setVm vm₁, locs, cells, slots⟩ (Value.ref b :: argsL).toArray v B ∧
      ∀ target, Steps p.tables e below (B.U.setTop { g with pc := g.pc + 3, stack := v.toList ++ rest }) target → Steps p.tables e below (T.setTop g) target) ∨
    (∃ (q : Addr) (vm₁ : Vm) (B : Pt), s.WarmedH vm₁ ∧ Stand p l e R s m args below meth c B.U B.locs B.cells B.slots ∧ PostX ⟨T.setVm vm₁, locs, cells, slots⟩ (Value.ref b :: argsL).toArray q B ∧
      Steps p.tables e below (T.setTop g) ((B.U.setTop { g with stack := rest }).pushFrame (.throwing q))) := by
  obtain ⟨mk, methM, hnamed, hmethM, hstM, habM⟩ := Cond.instanceMethod_spec hinst
  obtain ⟨m8, methM', cM, hn8, hmethM', -, -, -, -, -, -, hsigM⟩ := Cond.codeWith_spec hcode
  cases Option.some.inj (hn8.symm.trans hnamed)
  cases hmethM.symm.trans hmethM'
  obtain ⟨c2, r2, m2, q1, q2, q3, q4, kP, hkP, hkPi⟩ := Cond.selects_spec hsel
  cases hcls.symm.trans q1
  cases (State.methodFound?_of_named hnamed hy).symm.trans q2
  cases hnamed.symm.trans q3
  have hselP : selectMethod e.platform s.vm cellB.cls mk = .method mk := by rw [Launch.admits_selectMethod X.admits]; exact q4
  obtain ⟨vm₁, X₁, hstep₁⟩ := X.invokevirtual hexec hown hlink hnamed hmethM hstM hkP hkPi hy (a := b) (cell := cellB) hcell
    (fun z h => by rw [h] at hobj; cases hobj) hselP hmethM habM hkP hkPi (g := g) hg (argsL := argsL) (rest := rest) (hlen _ hsigM) hstack hdg
  rcases hK m meth c ⟨T.setVm vm₁, locs, cells, slots⟩ { g with stack := rest } (.invokevirtual index) mk (Value.ref b :: argsL).toArray X₁ hg hsize hdg hW (X₁.named hnamed) (hpre vm₁ X₁.warmed) with ⟨v, B, X', hpost, hsteps⟩ | ⟨q, B, X', hpost, hsteps⟩
  · exact Or.inl ⟨v, vm₁, B, X₁.warmed, X', hpost, fun target h => hstep₁ _ fun acts => by rw [doInvoke_state]; exact hsteps.trans h⟩
  · exact Or.inr ⟨q, vm₁, B, X₁.warmed, X', hpost, hstep₁ _ fun acts => by rw [doInvoke_state]; exact hsteps⟩
theorem vx_callSX (X : Stand p l e R s m args below meth c T locs cells slots) (hexec : p.tables.exec = Jvm.exec) {own : String} {index : Nat} {y : MethodName} {bytes : ByteArray} {maxL : Nat} {ret : Option FieldType} {hh : List (Nat × Nat × Nat × Nat)}
    (hown : s.vm.findClass own = some m.cls) (hlink : (Cond.methodLink own index y).before args s = true) (hstat : (Cond.static y).before args s = true) (hinit : (Cond.initialized y.cls).before args s = true)
    (hcode : (Cond.codeWith y bytes maxL ret hh).before args s = true) (hy : y.cls ≠ "java/lang/invoke/MethodHandle" ∧ y.cls ≠ "java/lang/invoke/VarHandle")
    {W9 : Nat} {Pre : Pt → Array Value → Prop} {Post : Pt → Array Value → Option Value → Pt → Prop} {PostX : Pt → Array Value → Addr → Pt → Prop} (hK : vx_Back l R p e below s args y 3 W9 Pre Post PostX)
    {g : JFrame} (hg : g.method = m) (hsize : g.locals.size = c.maxLocals) {argsL rest : List Value} (hlen : ∀ sig, parseMethodDescriptor y.desc = some sig → argsL.length = sig.parameters.length)
    (hstack : g.stack = argsL.reverse ++ rest) (hW : 2 * g.monitorRoom + (rest.map fun v => v.category).sum ≤ W9) (hdg : decode c.code g.pc = .ok (.invokestatic index, 3))
    (hpre : ∀ vm₁, s.WarmedH vm₁ → Pre ⟨T.setVm vm₁, locs, cells, slots⟩ argsL.toArray) :
    (∃ (v : Option Value) (vm₁ : Vm) (B : Pt), s.WarmedH vm₁ ∧ Stand p l e R s m args below meth c B.U B.locs B.cells B.slots ∧ Post ⟨T.setVm vm₁, locs, cells, slots⟩ argsL.toArray v B ∧
      ∀ target, Steps p.tables e below (B.U.setTop { g with pc := g.pc + 3, stack := v.toList ++ rest }) target → Steps p.tables e below (T.setTop g) target) ∨
    (∃ (q : Addr) (vm₁ : Vm) (B : Pt), s.WarmedH vm₁ ∧ Stand p l e R s m args below meth c B.U B.locs B.cells B.slots ∧ PostX ⟨T.setVm vm₁, locs, cells, slots⟩ argsL.toArray q B ∧
      Steps p.tables e below (T.setTop g) ((B.U.setTop { g with stack := rest }).pushFrame (.throwing q))) := by
  obtain ⟨mk, methM, cM, hnamed, hmethM, -, -, -, -, -, -, hsigM⟩ := Cond.codeWith_spec hcode
  have hstatic : methM.isStatic = true := Cond.static_spec hnamed hmethM hstat
  obtain ⟨kP, hkP, -⟩ := className_of_methodNamed hnamed
  have hinitP : kP.init = .initialized := Cond.initialized_spec (findClass_of_methodNamed hnamed) hkP hinit
  obtain ⟨vm₁, X₁, hstep₁⟩ := X.invokestatic hexec hown hlink hnamed hmethM hstatic hkP hinitP hy (g := g) hg (argsL := argsL) (rest := rest) (hlen _ hsigM) hstack hdg
  rcases hK m meth c ⟨T.setVm vm₁, locs, cells, slots⟩ { g with stack := rest } (.invokestatic index) mk argsL.toArray X₁ hg hsize hdg hW (X₁.named hnamed) (hpre vm₁ X₁.warmed) with ⟨v, B, X', hpost, hsteps⟩ | ⟨q, B, X', hpost, hsteps⟩
  · exact Or.inl ⟨v, vm₁, B, X₁.warmed, X', hpost, fun target h => hstep₁ _ fun acts => by rw [doInvoke_state]; exact hsteps.trans h⟩
  · exact Or.inr ⟨q, vm₁, B, X₁.warmed, X', hpost, hstep₁ _ fun acts => by rw [doInvoke_state]; exact hsteps⟩
theorem vx_callVW (X : Stand p l e R s m args below meth c T locs cells slots) (hexec : p.tables.exec = Jvm.exec) {own C : String} {index : Nat} {y : MethodName} {bytes : ByteArray} {maxL : Nat} {ret : Option FieldType} {hh : List (Nat × Nat × Nat × Nat)}
    (hown : s.vm.findClass own = some m.cls) (hlink : (Cond.methodLink own index y).before args s = true) (hinst : (Cond.instanceMethod y).before args s = true) (hsel : (Cond.selects C y y).before args s = true)
    (hcode : (Cond.codeWith y bytes maxL ret hh).before args s = true) (hy : y.cls ≠ "java/lang/invoke/MethodHandle" ∧ y.cls ≠ "java/lang/invoke/VarHandle")
    {W9 : Nat} {Pre : Pt → Array Value → Prop} {Post : Pt → Array Value → Option Value → Pt → Prop} (hK : Back l R p e below s args y 3 W9 Pre Post)
    {b : Addr} {cellB : Cell} (hcell : T.heap[b]? = some cellB) (hobj : cellB.vm.isStatics = false) (hcls : s.vm.findClass C = some cellB.cls)
    {g : JFrame} (hg : g.method = m) (hsize : g.locals.size = c.maxLocals) {argsL rest : List Value} (hlen : ∀ sig, parseMethodDescriptor y.desc = some sig → argsL.length = sig.parameters.length)
    (hstack : g.stack = argsL.reverse ++ .ref b :: rest) (hW : 2 * g.monitorRoom + (rest.map fun v => v.category).sum ≤ W9) (hdg : decode c.code g.pc = .ok (.invokevirtual index, 3))
    (hpre : ∀ vm₁, s.WarmedH vm₁ → Pre ⟨T.setVm vm₁, locs, cells, slots⟩ (Value.ref b :: argsL).toArray) :
    ∃ (v : Option Value) (vm₁ : Vm) (B : Pt), s.WarmedH vm₁ ∧ Stand p l e R s m args below meth c B.U B.locs B.cells B.slots ∧ Post ⟨T.setVm vm₁, locs, cells, slots⟩ (Value.ref b :: argsL).toArray v B ∧
      ∀ target, Steps p.tables e below (B.U.setTop { g with pc := g.pc + 3, stack := v.toList ++ rest }) target → Steps p.tables e below (T.setTop g) target := by
  obtain ⟨mk, methM, hnamed, hmethM, hstM, habM⟩ := Cond.instanceMethod_spec hinst
  obtain ⟨m8, methM', cM, hn8, hmethM', -, -, -, -, -, -, hsigM⟩ := Cond.codeWith_spec hcode
  cases Option.some.inj (hn8.symm.trans hnamed)
  cases hmethM.symm.trans hmethM'
  obtain ⟨c2, r2, m2, q1, q2, q3, q4, kP, hkP, hkPi⟩ := Cond.selects_spec hsel
  cases hcls.symm.trans q1
  cases (State.methodFound?_of_named hnamed hy).symm.trans q2
  cases hnamed.symm.trans q3
  have hselP : selectMethod e.platform s.vm cellB.cls mk = .method mk := by rw [Launch.admits_selectMethod X.admits]; exact q4
  obtain ⟨vm₁, X₁, hstep₁⟩ := X.invokevirtual hexec hown hlink hnamed hmethM hstM hkP hkPi hy (a := b) (cell := cellB) hcell
    (fun z h => by rw [h] at hobj; cases hobj) hselP hmethM habM hkP hkPi (g := g) hg (argsL := argsL) (rest := rest) (hlen _ hsigM) hstack hdg
  obtain ⟨v, B, X', hpost, hsteps⟩ := hK m meth c ⟨T.setVm vm₁, locs, cells, slots⟩ { g with stack := rest } (.invokevirtual index) mk (Value.ref b :: argsL).toArray X₁ hg hsize hdg hW (X₁.named hnamed) (hpre vm₁ X₁.warmed)
  exact ⟨v, vm₁, B, X₁.warmed, X', hpost, fun target h => hstep₁ _ fun acts => by rw [doInvoke_state]; exact hsteps.trans h⟩
abbrev vx_CVW (R : Room) (s : State) (args : Array Value) (own C : String) (index : Nat) (y : MethodName) (bytes : ByteArray) (maxL : Nat) (ret : Option FieldType) (hh : List (Nat × Nat × Nat × Nat)) (ws : List Cond) (rm : Room) (mc ms n : Nat) : Prop :=
  (rm.cells = mc ∧ rm.slots = ms ∧ rm.frames + 1 ≤ R.frames ∧ 8 + (maxL + 11) + rm.locals ≤ R.locals ∧ (∀ w ∈ ws, ∀ (a' : Array Value) (U : State), s.WarmedH U.vm → w.before a' U = true) ∧ Cond.codeWith y bytes maxL ret hh ∈ ws) ∧
  (Cond.codeWith y bytes maxL ret hh).before args s = true ∧ (Cond.initialized y.cls).before args s = true ∧ (y.cls ≠ "java/lang/invoke/MethodHandle" ∧ y.cls ≠ "java/lang/invoke/VarHandle") ∧
  (∀ sig, parseMethodDescriptor y.desc = some sig → n = sig.parameters.length) ∧ (Cond.methodLink own index y).before args s = true ∧ (Cond.instanceMethod y).before args s = true ∧ (Cond.selects C y y).before args s = true
theorem vx_cwVW {own C : String} {index maxL mc ms : Nat} {y : MethodName} {bytes : ByteArray} {ret : Option FieldType} {hh : List (Nat × Nat × Nat × Nat)} {Ts ws ws' : List Cond} {rm : Room} (n : Nat) (ht : ∀ w ∈ Ts, w.before args s = true) (hT : GoodIn Ts (wsV own index C y ws)) (hw : ws = Cond.codeWith y bytes maxL ret hh :: ws') (hrc : rm.cells = mc) (hrs : rm.slots = ms)
    (hd : y.cls = C ∧ y.cls ≠ "java/lang/invoke/MethodHandle" ∧ y.cls ≠ "java/lang/invoke/VarHandle" ∧ (parseMethodDescriptor y.desc).map (fun d => d.parameters.length) = some n) (hR : rm.frames + 1 ≤ R.frames ∧ 8 + (maxL + 11) + rm.locals ≤ R.locals) :
    vx_CVW R s args own C index y bytes maxL ret hh ws rm mc ms n := by
  obtain ⟨hC, hd⟩ := hd
  subst hC
  have ok : ∀ w ∈ wsV own index y.cls y ws, w.before args s = true := fun w h => ht w (hT w h).1
  have hG : GoodIn Ts ws := fun w h => hT w (by unfold wsV; exact List.mem_append_right _ h)
  have hc : Cond.codeWith y bytes maxL ret hh ∈ ws := by rw [hw]; exact List.mem_cons_self
  refine ⟨⟨hrc, hrs, hR.1, hR.2, pay_in ht hG, hc⟩, ht _ (hG _ hc).1, ok _ (by simp [wsV]), ⟨hd.1, hd.2.1⟩, fun sig h => ?_, ok _ (by simp [wsV]), ok _ (by simp [wsV]), ok _ (by simp [wsV])⟩
  have h2 := hd.2.2
  rw [h] at h2
  exact (Option.some.inj h2).symm
theorem vx_runVW {y : MethodName} {bytes cc : ByteArray} {maxL nL mc ms n index : Nat} {ret : Option FieldType} {hh : List (Nat × Nat × Nat × Nat)} {ws : List Cond} {rm : Room} {Pc : Array Value → State → Prop} {Qc : Array Value → State → Outcome → State → Prop} {free : Addr → Prop} {Ts : List Cond} {own C : String} {b : Addr} {As rest : List Value} {g : JFrame}
    (S : CallFix p m c cc nL s args Ts own) (hM : Met l y ws rm Pc Qc mc ms free) (cw : vx_CVW R s args own C index y bytes maxL ret hh ws rm mc ms n) (hp : PreV s H C b Pc As)
    (hg : g.method = m) (hn : As.length = n) (hsize : g.locals.size = nL) (hstack : g.stack = As.reverse ++ .ref b :: rest) (hW : 2 * g.monitorRoom + (rest.map fun v => v.category).sum ≤ 8) (hdg : decode cc g.pc = .ok (.invokevirtual index, 3)) (hf : cells + mc ≤ R.cells ∧ slots + ms ≤ R.slots) :
    va_Run p l e R s m args below meth c H locs cells slots mc ms g rest (Qc (Value.ref b :: As).toArray) free := by
  obtain ⟨⟨hrc, hrs, hfr, hlo, hws, hcw⟩, hcode, hini, hy, hlen, hl, hin, hse⟩ := cw
  have hK : Back l R p e below s args y 3 8 (PreOf R mc ms Pc) (PostOf Qc mc ms free) := va_backW (hh := hh) (bytes := bytes) (maxL := maxL) (ret := ret) hM hp.1 hrc hrs hfr hlo hws hcw (fun a' U hW => word_at hW (Or.inl (by first | rfl | simp [Cond.onTables, Cond.keeps, Cond.steady])) hini)
  obtain ⟨hx, hb, hml, ho, -⟩ := S
  obtain ⟨-, ⟨cellB, hcB, hoB, hclB⟩, hPc⟩ := hp
  intro T hT X
  obtain ⟨v, vm₁, ⟨U', l2, c2, s2⟩, hW₁, X', ⟨g', mk, t, L, e1, e2, hq, h1, hL, h2, h3⟩, st⟩ := vx_callVW X hx (C := C) (hh := hh) (bytes := bytes) (maxL := maxL) (ret := ret) ho hl hin hse hcode hy hK (by rw [hT]; exact hcB) hoB hclB hg (hsize.trans hml.symm) (argsL := As) (rest := rest) (fun sig h => hn.trans (hlen sig h)) hstack hW (by rw [hb]; exact hdg)
    (fun vm₁ hW₁ => ⟨hf.1, hf.2, hPc (T.setVm vm₁) hT hW₁⟩)
  dsimp only [Pt.U, Pt.locs, Pt.cells, Pt.slots] at X' e1 e2 h1 h2 h3 st
  subst h1; subst h2; subst h3
  exact ⟨v, (T.setVm vm₁).calling g' mk (Value.ref b :: As).toArray, t, U', L, hT, X', hL, e1, e2, hq, st⟩
section
variable {y : MethodName} {bytes cc : ByteArray} {maxL nL mc ms n index : Nat} {ret : Option FieldType} {ws : List Cond} {rm : Room} {Pc : Array Value → State → Prop} {Qc : Array Value → State → Outcome → State → Prop} {XC : String → State → State → Prop} {free : Addr → Prop} {Ts : List Cond} {own C : String} {b : Addr} {As rest : List Value} {g : JFrame}
theorem vx_runVX {hh : List (Nat × Nat × Nat × Nat)} (S : CallFix p m c cc nL s args Ts own) (hM : vx_Met l y ws rm Pc Qc XC mc ms free) (cw : vx_CVW R s args own C index y bytes maxL ret hh ws rm mc ms n) (hp : PreV s H C b Pc As)
    (hg : g.method = m) (hn : As.length = n) (hsize : g.locals.size = nL) (hstack : g.stack = As.reverse ++ .ref b :: rest) (hW : 2 * g.monitorRoom + (rest.map fun v => v.category).sum ≤ 8) (hdg : decode cc g.pc = .ok (.invokevirtual index, 3)) (hf : cells + mc ≤ R.cells ∧ slots + ms ≤ R.slots) :
    vx_Run p l e R s m args below meth c H locs cells slots mc ms g rest (Qc (Value.ref b :: As).toArray) XC free := by
  obtain ⟨⟨hrc, hrs, hfr, hlo, hws, hcw⟩, hcode, hini, hy, hlen, hl, hin, hse⟩ := cw
  have hK : vx_Back l R p e below s args y 3 8 (PreOf R mc ms Pc) (PostOf Qc mc ms free) (vx_Post XC mc ms free) := vx_backW (hh := hh) (bytes := bytes) (maxL := maxL) (ret := ret) hM hp.1 hrc hrs hfr hlo hws hcw (fun a' U hW => word_at hW (Or.inl (by first | rfl | simp [Cond.onTables, Cond.keeps, Cond.steady])) hini)
  obtain ⟨hx, hb, hml, ho, -⟩ := S
  obtain ⟨-, ⟨cellB, hcB, hoB, hclB⟩, hPc⟩ := hp
  intro T hT X
  rcases vx_callVX X hx (C := C) (hh := hh) (bytes := bytes) (maxL := maxL) (ret := ret) ho hl hin hse hcode hy hK (by rw [hT]; exact hcB) hoB hclB hg (hsize.trans hml.symm) (argsL := As) (rest := rest) (fun sig h => hn.trans (hlen sig h)) hstack hW (by rw [hb]; exact hdg)
    (fun vm₁ hW₁ => ⟨hf.1, hf.2, hPc (T.setVm vm₁) hT hW₁⟩) with ⟨v, vm₁, ⟨U', l2, c2, s2⟩, hW₁, X', ⟨g', mk, t, L, e1, e2, hq, h1, hL, h2, h3⟩, st⟩ | ⟨q, vm₁, ⟨U', l2, c2, s2⟩, hW₁, X', ⟨g', mk, t, L, E, ce, e1, e2, hq, hce, hcv, hcl, h1, hL, h2, h3⟩, st⟩
  · dsimp only [Pt.U, Pt.locs, Pt.cells, Pt.slots] at X' e1 e2 h1 h2 h3 st
    subst h1; subst h2; subst h3
    exact Or.inl ⟨v, (T.setVm vm₁).calling g' mk (Value.ref b :: As).toArray, t, U', L, hT, X', hL, e1, e2, hq, st⟩
  · dsimp only [Pt.U, Pt.locs, Pt.cells, Pt.slots] at X' e1 e2 h1 h2 h3 st hcl
    subst h1; subst h2; subst h3
    exact Or.inr ⟨q, (T.setVm vm₁).calling g' mk (Value.ref b :: As).toArray, t, U', L, E, ce, hT, X', hL, e1, e2, hq, hce, hcv, vx_cls hW₁ hcl, st⟩
theorem vx_runSX {hh : List (Nat × Nat × Nat × Nat)} (S : CallFix p m c cc nL s args Ts own) (hM : vx_Met l y ws rm Pc Qc XC mc ms free) (cw : vx_CSW R s args own index y bytes maxL ret hh ws rm mc ms n) (hp : PreS s H Pc As)
    (hg : g.method = m) (hn : As.length = n) (hsize : g.locals.size = nL) (hstack : g.stack = As.reverse ++ rest) (hW : 2 * g.monitorRoom + (rest.map fun v => v.category).sum ≤ 8) (hdg : decode cc g.pc = .ok (.invokestatic index, 3)) (hf : cells + mc ≤ R.cells ∧ slots + ms ≤ R.slots) :
    vx_Run p l e R s m args below meth c H locs cells slots mc ms g rest (Qc As.toArray) XC free := by
  obtain ⟨⟨hrc, hrs, hfr, hlo, hws, hcw⟩, hcode, hini, hy, hlen, hl, hstt⟩ := cw
  have hK : vx_Back l R p e below s args y 3 8 (PreOf R mc ms Pc) (PostOf Qc mc ms free) (vx_Post XC mc ms free) := vx_backW (hh := hh) (bytes := bytes) (maxL := maxL) (ret := ret) hM hp.1 hrc hrs hfr hlo hws hcw (fun a' U hW => word_at hW (Or.inl (by first | rfl | simp [Cond.onTables, Cond.keeps, Cond.steady])) hini)
  obtain ⟨hx, hb, hml, ho, -⟩ := S
  intro T hT X
  rcases vx_callSX X hx (hh := hh) (bytes := bytes) (maxL := maxL) (ret := ret) ho hl hstt hini hcode hy hK hg (hsize.trans hml.symm) (argsL := As) (rest := rest) (fun sig h => hn.trans (hlen sig h)) hstack hW (by rw [hb]; exact hdg)
    (fun vm₁ hW₁ => ⟨hf.1, hf.2, hp.2 (T.setVm vm₁) hT hW₁⟩) with ⟨v, vm₁, ⟨U', l2, c2, s2⟩, hW₁, X', ⟨g', mk, t, L, e1, e2, hq, h1, hL, h2, h3⟩, st⟩ | ⟨q, vm₁, ⟨U', l2, c2, s2⟩, hW₁, X', ⟨g', mk, t, L, E, ce, e1, e2, hq, hce, hcv, hcl, h1, hL, h2, h3⟩, st⟩
  · dsimp only [Pt.U, Pt.locs, Pt.cells, Pt.slots] at X' e1 e2 h1 h2 h3 st
    subst h1; subst h2; subst h3
    exact Or.inl ⟨v, (T.setVm vm₁).calling g' mk As.toArray, t, U', L, hT, X', hL, e1, e2, hq, st⟩
  · dsimp only [Pt.U, Pt.locs, Pt.cells, Pt.slots] at X' e1 e2 h1 h2 h3 st hcl
    subst h1; subst h2; subst h3
    exact Or.inr ⟨q, (T.setVm vm₁).calling g' mk As.toArray, t, U', L, E, ce, hT, X', hL, e1, e2, hq, hce, hcv, vx_cls hW₁ hcl, st⟩
end
end VXH
theorem vx_ofWH {l : Launch} {y : MethodName} {ws ws' : List Cond} {rm : Room} {Pc : Array Value → State → Prop} {Qc : Array Value → State → Outcome → State → Prop} {XC : String → State → State → Prop} {mc ms : Nat} {free : Addr → Prop} {cc : ByteArray} {maxL : Nat} {ret : Option FieldType} {hh : List (Nat × Nat × Nat × Nat)}
    (hy : plainName y.cls = true) (hw : ws = Cond.codeWith y cc maxL ret hh :: ws')
    (body : ∀ p e s m args below meth c s₁, BodyLoose p l y (headSpec ws rm) cc maxL ret e s m args below meth c s₁ → c.maxLocals = maxL → Pc args s →
      W p l e (headSpec ws rm).room s m args below meth c s.heap [] 0 0 (vx_MQ below Qc XC args s mc ms free) (entryFrame m args maxL)) : vx_Met l y ws rm Pc Qc XC mc ms free := by
  refine MetFree.of_bodyS (code := cc) (maxLocals := maxL) (ret := ret) hy ?_ ?_
  · intro args s m h hn
    obtain ⟨m9, meth, c, hn9, h1, h2, h3, h4, -, h5, h6, -⟩ := Cond.codeWith_spec (atoms_spec (ws := ws) h _ (by rw [hw]; exact List.mem_cons_self))
    cases hn.symm.trans hn9
    exact ⟨meth, c, h1, h2, h3, h4, h5, h6⟩
  · intro p e s m args below meth c s₁ B hml hP _
    have hh0 : s₁.heap = s.heap := by rw [B.state]; rfl
    obtain ⟨t, a1, o, b1, b2, b3⟩ := body p e s m args below meth c s₁ B hml hP s₁ hh0 (Stand.of_body B)
    exact ⟨t, o, a1, b1, b2, b3⟩
/-! ===== END ===== -/
end
section
/-! ===== BEGIN printed: names, fields, word lists, decode rows ===== -/
def RX0 : String := "CueTour$Book"
def TX0 : u_T := fun k => match k with
  | 0 => ("CueTour$Book", "stages", "[I", true)
  | 1 => ("CueTour$Book", "shorts", "[[I", true)
  | _ => ("CueTour$Book", "count", "I", false)
def tyX0 : Nat → FieldType := fun k => match k with
  | 0 => .array .int
  | 1 => .array (.array .int)
  | _ => .int
abbrev wsX00 : List Cond := u_ws RX0 TX0 3
theorem nmX0 : ∀ a, a < 3 → ∀ b, b < 3 → a ≠ b → (TX0 a).2.1 ≠ (TX0 b).2.1 := by decide +kernel
theorem tyX0_ok : ∀ k, k < 3 → parseFieldDescriptor (TX0 k).2.2.1 = some (tyX0 k) := by decide +kernel
abbrev cX0_init : ByteArray := prog_2_method_1_code
def yX0_init : MethodName := ⟨RX0, "<init>", "()V"⟩
abbrev cX0_append : ByteArray := prog_2_method_2_code
def yX0_append : MethodName := ⟨RX0, "append", "(I)I"⟩
abbrev cX0_countShortLogs : ByteArray := prog_2_method_3_code
def yX0_countShortLogs : MethodName := ⟨RX0, "countShortLogs", "(I)I"⟩
def RX1 : String := "CueTour$CueList"
def TX1 : u_T := fun k => match k with
  | 0 => ("CueTour$CueList", "lineOf", "[I", true)
  | 1 => ("CueTour$CueList", "offsets", "[I", true)
  | 2 => ("CueTour$CueList", "fades", "[I", true)
  | 3 => ("CueTour$CueList", "own", "[[I", true)
  | 4 => ("CueTour$CueList", "count", "I", false)
  | 5 => ("CueTour$CueList", "order", "[I", true)
  | 6 => ("CueTour$CueList", "times", "[I", true)
  | 7 => ("CueTour$CueList", "into", "[I", true)
  | 8 => ("CueTour$CueList", "made", "[[I", true)
  | 9 => ("CueTour$CueList", "plays", "[I", true)
  | _ => ("CueTour$CueList", "playCount", "I", false)
def tyX1 : Nat → FieldType := fun k => match k with
  | 0 => .array .int
  | 1 => .array .int
  | 2 => .array .int
  | 3 => .array (.array .int)
  | 4 => .int
  | 5 => .array .int
  | 6 => .array .int
  | 7 => .array .int
  | 8 => .array (.array .int)
  | 9 => .array .int
  | _ => .int
abbrev wsX10 : List Cond := u_ws RX1 TX1 11
theorem nmX1 : ∀ a, a < 11 → ∀ b, b < 11 → a ≠ b → (TX1 a).2.1 ≠ (TX1 b).2.1 := by decide +kernel
theorem tyX1_ok : ∀ k, k < 11 → parseFieldDescriptor (TX1 k).2.2.1 = some (tyX1 k) := by decide +kernel
abbrev cX1_init : ByteArray := prog_3_method_1_code
def yX1_init : MethodName := ⟨RX1, "<init>", "()V"⟩
abbrev cX1_append : ByteArray := prog_3_method_2_code
def yX1_append : MethodName := ⟨RX1, "append", "()I"⟩
abbrev cX1_place : ByteArray := prog_3_method_3_code
def yX1_place : MethodName := ⟨RX1, "place", "(IIII)V"⟩
abbrev cX1_arrange : ByteArray := prog_3_method_4_code
def yX1_arrange : MethodName := ⟨RX1, "arrange", "(LCueTour$Script;)V"⟩
abbrev cX1_sortCues : ByteArray := prog_3_method_5_code
def yX1_sortCues : MethodName := ⟨RX1, "sortCues", "()V"⟩
abbrev cX1_comesAhead : ByteArray := prog_3_method_6_code
def yX1_comesAhead : MethodName := ⟨RX1, "comesAhead", "(II)Z"⟩
abbrev cX1_setTimes : ByteArray := prog_3_method_7_code
def yX1_setTimes : MethodName := ⟨RX1, "setTimes", "(LCueTour$Script;)V"⟩
abbrev cX1_fold : ByteArray := prog_3_method_8_code
def yX1_fold : MethodName := ⟨RX1, "fold", "()V"⟩
abbrev cX1_forget : ByteArray := prog_3_method_9_code
def yX1_forget : MethodName := ⟨RX1, "forget", "(I)V"⟩
abbrev cX1_fillIn : ByteArray := prog_3_method_10_code
def yX1_fillIn : MethodName := ⟨RX1, "fillIn", "(II)V"⟩
abbrev cX1_sortPlays : ByteArray := prog_3_method_11_code
def yX1_sortPlays : MethodName := ⟨RX1, "sortPlays", "()V"⟩
abbrev cX1_insertPlay : ByteArray := prog_3_method_12_code
def yX1_insertPlay : MethodName := ⟨RX1, "insertPlay", "(I)V"⟩
abbrev cX1_levelByFades : ByteArray := prog_3_method_13_code
def yX1_levelByFades : MethodName := ⟨RX1, "levelByFades", "(II)I"⟩
abbrev cX1_levelByTicks : ByteArray := prog_3_method_14_code
def yX1_levelByTicks : MethodName := ⟨RX1, "levelByTicks", "(II)I"⟩
abbrev cX1_levelBehind : ByteArray := prog_3_method_15_code
def yX1_levelBehind : MethodName := ⟨RX1, "levelBehind", "(IIII)I"⟩
abbrev cX1_fillLevels : ByteArray := prog_3_method_16_code
def yX1_fillLevels : MethodName := ⟨RX1, "fillLevels", "(I[I)V"⟩
def RX2 : String := "CueTour$Patch"
def TX2 : u_T := fun k => match k with
  | 0 => ("CueTour$Patch", "areas", "[I", true)
  | _ => ("CueTour$Patch", "colours", "[I", true)
def tyX2 : Nat → FieldType := fun k => match k with
  | 0 => .array .int
  | _ => .array .int
abbrev wsX20 : List Cond := u_ws RX2 TX2 2
theorem nmX2 : ∀ a, a < 2 → ∀ b, b < 2 → a ≠ b → (TX2 a).2.1 ≠ (TX2 b).2.1 := by decide +kernel
theorem tyX2_ok : ∀ k, k < 2 → parseFieldDescriptor (TX2 k).2.2.1 = some (tyX2 k) := by decide +kernel
abbrev cX2_init : ByteArray := prog_4_method_1_code
def yX2_init : MethodName := ⟨RX2, "<init>", "()V"⟩
def RX3 : String := "CueTour$Rig"
def TX3 : u_T := fun k => match k with
  | 0 => ("CueTour$Rig", "homes", "[I", true)
  | 1 => ("CueTour$Rig", "homeAreas", "[I", true)
  | 2 => ("CueTour$Rig", "colours", "[I", true)
  | 3 => ("CueTour$Rig", "powers", "[I", true)
  | 4 => ("CueTour$Rig", "stages", "[I", true)
  | 5 => ("CueTour$Rig", "areas", "[I", true)
  | 6 => ("CueTour$Rig", "wears", "[I", true)
  | 7 => ("CueTour$Rig", "burnt", "[I", true)
  | _ => ("CueTour$Rig", "count", "I", false)
def tyX3 : Nat → FieldType := fun k => match k with
  | 0 => .array .int
  | 1 => .array .int
  | 2 => .array .int
  | 3 => .array .int
  | 4 => .array .int
  | 5 => .array .int
  | 6 => .array .int
  | 7 => .array .int
  | _ => .int
abbrev wsX30 : List Cond := u_ws RX3 TX3 9
theorem nmX3 : ∀ a, a < 9 → ∀ b, b < 9 → a ≠ b → (TX3 a).2.1 ≠ (TX3 b).2.1 := by decide +kernel
theorem tyX3_ok : ∀ k, k < 9 → parseFieldDescriptor (TX3 k).2.2.1 = some (tyX3 k) := by decide +kernel
abbrev cX3_init : ByteArray := prog_5_method_1_code
def yX3_init : MethodName := ⟨RX3, "<init>", "()V"⟩
abbrev cX3_append : ByteArray := prog_5_method_2_code
def yX3_append : MethodName := ⟨RX3, "append", "(IIII)I"⟩
abbrev cX3_isHome : ByteArray := prog_5_method_3_code
def yX3_isHome : MethodName := ⟨RX3, "isHome", "(I)Z"⟩
abbrev cX3_canGo : ByteArray := prog_5_method_4_code
def yX3_canGo : MethodName := ⟨RX3, "canGo", "(II)Z"⟩
abbrev cX3_put : ByteArray := prog_5_method_5_code
def yX3_put : MethodName := ⟨RX3, "put", "(III)V"⟩
abbrev cX3_putHome : ByteArray := prog_5_method_6_code
def yX3_putHome : MethodName := ⟨RX3, "putHome", "(I)V"⟩
abbrev cX3_isFor : ByteArray := prog_5_method_7_code
def yX3_isFor : MethodName := ⟨RX3, "isFor", "(III)Z"⟩
abbrev cX3_lampsFor : ByteArray := prog_5_method_8_code
def yX3_lampsFor : MethodName := ⟨RX3, "lampsFor", "(III)I"⟩
abbrev cX3_lay : ByteArray := prog_5_method_9_code
def yX3_lay : MethodName := ⟨RX3, "lay", "(ILCueTour$Patch;[I)V"⟩
abbrev cX3_levelOf : ByteArray := prog_5_method_10_code
def yX3_levelOf : MethodName := ⟨RX3, "levelOf", "(I[I[I)I"⟩
abbrev cX3_lightOf : ByteArray := prog_5_method_11_code
def yX3_lightOf : MethodName := ⟨RX3, "lightOf", "(II[I[I)I"⟩
abbrev cX3_startBurning : ByteArray := prog_5_method_12_code
def yX3_startBurning : MethodName := ⟨RX3, "startBurning", "()V"⟩
abbrev cX3_burn : ByteArray := prog_5_method_13_code
def yX3_burn : MethodName := ⟨RX3, "burn", "(I[I[I)V"⟩
abbrev cX3_addBurnt : ByteArray := prog_5_method_14_code
def yX3_addBurnt : MethodName := ⟨RX3, "addBurnt", "()V"⟩
def RX4 : String := "CueTour$Script"
def TX4 : u_T := fun k => match k with
  | 0 => ("CueTour$Script", "seconds", "[I", true)
  | 1 => ("CueTour$Script", "isOut", "[Z", true)
  | 2 => ("CueTour$Script", "needs", "[[I", true)
  | _ => ("CueTour$Script", "count", "I", false)
def tyX4 : Nat → FieldType := fun k => match k with
  | 0 => .array .int
  | 1 => .array .boolean
  | 2 => .array (.array .int)
  | _ => .int
abbrev wsX40 : List Cond := u_ws RX4 TX4 4
theorem nmX4 : ∀ a, a < 4 → ∀ b, b < 4 → a ≠ b → (TX4 a).2.1 ≠ (TX4 b).2.1 := by decide +kernel
theorem tyX4_ok : ∀ k, k < 4 → parseFieldDescriptor (TX4 k).2.2.1 = some (tyX4 k) := by decide +kernel
abbrev cX4_init : ByteArray := prog_6_method_1_code
def yX4_init : MethodName := ⟨RX4, "<init>", "()V"⟩
abbrev cX4_append : ByteArray := prog_6_method_2_code
def yX4_append : MethodName := ⟨RX4, "append", "(I)I"⟩
abbrev cX4_secondsAhead : ByteArray := prog_6_method_3_code
def yX4_secondsAhead : MethodName := ⟨RX4, "secondsAhead", "(I)I"⟩
abbrev cX4_lastSecondOf : ByteArray := prog_6_method_4_code
def yX4_lastSecondOf : MethodName := ⟨RX4, "lastSecondOf", "(I)I"⟩
abbrev cX4_total : ByteArray := prog_6_method_5_code
def yX4_total : MethodName := ⟨RX4, "total", "()I"⟩
def RX5 : String := "CueTour"
def TX5 : u_T := fun k => match k with
  | 0 => ("CueTour", "script", "LCueTour$Script;", true)
  | 1 => ("CueTour", "patch", "LCueTour$Patch;", true)
  | 2 => ("CueTour", "cueList", "LCueTour$CueList;", true)
  | 3 => ("CueTour", "rig", "LCueTour$Rig;", true)
  | 4 => ("CueTour", "book", "LCueTour$Book;", true)
  | 5 => ("CueTour", "levels", "[I", true)
  | 6 => ("CueTour", "laid", "[I", true)
  | _ => ("CueTour", "endLevels", "[[I", true)
def tyX5 : Nat → FieldType := fun k => match k with
  | 0 => .object "CueTour$Script"
  | 1 => .object "CueTour$Patch"
  | 2 => .object "CueTour$CueList"
  | 3 => .object "CueTour$Rig"
  | 4 => .object "CueTour$Book"
  | 5 => .array .int
  | 6 => .array .int
  | _ => .array (.array .int)
abbrev wsX50 : List Cond := u_ws RX5 TX5 8
theorem nmX5 : ∀ a, a < 8 → ∀ b, b < 8 → a ≠ b → (TX5 a).2.1 ≠ (TX5 b).2.1 := by decide +kernel
theorem tyX5_ok : ∀ k, k < 8 → parseFieldDescriptor (TX5 k).2.2.1 = some (tyX5 k) := by decide +kernel
abbrev cX5_init : ByteArray := prog_1_method_1_code
def yX5_init : MethodName := ⟨RX5, "<init>", "()V"⟩
abbrev cX5_addLine : ByteArray := prog_1_method_2_code
def yX5_addLine : MethodName := ⟨RX5, "addLine", "(I)I"⟩
abbrev cX5_need : ByteArray := prog_1_method_3_code
def yX5_need : MethodName := ⟨RX5, "need", "(III)I"⟩
abbrev cX5_cut : ByteArray := prog_1_method_4_code
def yX5_cut : MethodName := ⟨RX5, "cut", "(IZ)I"⟩
abbrev cX5_lines : ByteArray := prog_1_method_5_code
def yX5_lines : MethodName := ⟨RX5, "lines", "()I"⟩
abbrev cX5_startOf : ByteArray := prog_1_method_6_code
def yX5_startOf : MethodName := ⟨RX5, "startOf", "(I)I"⟩
abbrev cX5_length : ByteArray := prog_1_method_7_code
def yX5_length : MethodName := ⟨RX5, "length", "()I"⟩
abbrev cX5_setChannel : ByteArray := prog_1_method_8_code
def yX5_setChannel : MethodName := ⟨RX5, "setChannel", "(III)I"⟩
abbrev cX5_addCue : ByteArray := prog_1_method_9_code
def yX5_addCue : MethodName := ⟨RX5, "addCue", "(III)I"⟩
abbrev cX5_move : ByteArray := prog_1_method_10_code
def yX5_move : MethodName := ⟨RX5, "move", "(IIII)I"⟩
abbrev cX5_change : ByteArray := prog_1_method_11_code
def yX5_change : MethodName := ⟨RX5, "change", "(III)I"⟩
abbrev cX5_cues : ByteArray := prog_1_method_12_code
def yX5_cues : MethodName := ⟨RX5, "cues", "()I"⟩
abbrev cX5_cueAt : ByteArray := prog_1_method_13_code
def yX5_cueAt : MethodName := ⟨RX5, "cueAt", "(I)I"⟩
abbrev cX5_timeOf : ByteArray := prog_1_method_14_code
def yX5_timeOf : MethodName := ⟨RX5, "timeOf", "(I)I"⟩
abbrev cX5_foldedInto : ByteArray := prog_1_method_15_code
def yX5_foldedInto : MethodName := ⟨RX5, "foldedInto", "(I)I"⟩
abbrev cX5_changes : ByteArray := prog_1_method_16_code
def yX5_changes : MethodName := ⟨RX5, "changes", "(II)I"⟩
abbrev cX5_levelAt : ByteArray := prog_1_method_17_code
def yX5_levelAt : MethodName := ⟨RX5, "levelAt", "(II)I"⟩
abbrev cX5_levelBySeconds : ByteArray := prog_1_method_18_code
def yX5_levelBySeconds : MethodName := ⟨RX5, "levelBySeconds", "(II)I"⟩
abbrev cX5_addLamp : ByteArray := prog_1_method_19_code
def yX5_addLamp : MethodName := ⟨RX5, "addLamp", "(IIII)I"⟩
abbrev cX5_borrow : ByteArray := prog_1_method_20_code
def yX5_borrow : MethodName := ⟨RX5, "borrow", "(III)I"⟩
abbrev cX5_bringBack : ByteArray := prog_1_method_21_code
def yX5_bringBack : MethodName := ⟨RX5, "bringBack", "(I)I"⟩
abbrev cX5_replace : ByteArray := prog_1_method_22_code
def yX5_replace : MethodName := ⟨RX5, "replace", "(I)I"⟩
abbrev cX5_lamps : ByteArray := prog_1_method_23_code
def yX5_lamps : MethodName := ⟨RX5, "lamps", "()I"⟩
abbrev cX5_whereIs : ByteArray := prog_1_method_24_code
def yX5_whereIs : MethodName := ⟨RX5, "whereIs", "(I)I"⟩
abbrev cX5_wear : ByteArray := prog_1_method_25_code
def yX5_wear : MethodName := ⟨RX5, "wear", "(I)I"⟩
abbrev cX5_laidOn : ByteArray := prog_1_method_26_code
def yX5_laidOn : MethodName := ⟨RX5, "laidOn", "(II)I"⟩
abbrev cX5_lampLevel : ByteArray := prog_1_method_27_code
def yX5_lampLevel : MethodName := ⟨RX5, "lampLevel", "(II)I"⟩
abbrev cX5_light : ByteArray := prog_1_method_28_code
def yX5_light : MethodName := ⟨RX5, "light", "(III)I"⟩
abbrev cX5_shortOf : ByteArray := prog_1_method_29_code
def yX5_shortOf : MethodName := ⟨RX5, "shortOf", "(II)I"⟩
abbrev cX5_bestStage : ByteArray := prog_1_method_30_code
def yX5_bestStage : MethodName := ⟨RX5, "bestStage", "()I"⟩
abbrev cX5_bestToBorrow : ByteArray := prog_1_method_31_code
def yX5_bestToBorrow : MethodName := ⟨RX5, "bestToBorrow", "(II)I"⟩
abbrev cX5_perform : ByteArray := prog_1_method_32_code
def yX5_perform : MethodName := ⟨RX5, "perform", "(I)I"⟩
abbrev cX5_logs : ByteArray := prog_1_method_33_code
def yX5_logs : MethodName := ⟨RX5, "logs", "()I"⟩
abbrev cX5_stageOf : ByteArray := prog_1_method_34_code
def yX5_stageOf : MethodName := ⟨RX5, "stageOf", "(I)I"⟩
abbrev cX5_wasShortOf : ByteArray := prog_1_method_35_code
def yX5_wasShortOf : MethodName := ⟨RX5, "wasShortOf", "(II)I"⟩
abbrev cX5_timesShort : ByteArray := prog_1_method_36_code
def yX5_timesShort : MethodName := ⟨RX5, "timesShort", "(I)I"⟩
abbrev cX5_checkNumber : ByteArray := prog_1_method_37_code
def yX5_checkNumber : MethodName := ⟨RX5, "checkNumber", "(II)V"⟩
abbrev cX5_checkRange : ByteArray := prog_1_method_38_code
def yX5_checkRange : MethodName := ⟨RX5, "checkRange", "(III)V"⟩
abbrev cX5_checkRoom : ByteArray := prog_1_method_39_code
def yX5_checkRoom : MethodName := ⟨RX5, "checkRoom", "(II)V"⟩
abbrev cX5_checkState : ByteArray := prog_1_method_40_code
def yX5_checkState : MethodName := ⟨RX5, "checkState", "(Z)V"⟩
abbrev cX5_readEndOf : ByteArray := prog_1_method_41_code
def yX5_readEndOf : MethodName := ⟨RX5, "readEndOf", "(I)V"⟩
abbrev cX5_readEnds : ByteArray := prog_1_method_42_code
def yX5_readEnds : MethodName := ⟨RX5, "readEnds", "()V"⟩
abbrev cX5_shortAreas : ByteArray := prog_1_method_43_code
def yX5_shortAreas : MethodName := ⟨RX5, "shortAreas", "(II)I"⟩
abbrev cX5_countShort : ByteArray := prog_1_method_44_code
def yX5_countShort : MethodName := ⟨RX5, "countShort", "(I)I"⟩
abbrev cX5_countShortWith : ByteArray := prog_1_method_45_code
def yX5_countShortWith : MethodName := ⟨RX5, "countShortWith", "(III)I"⟩
abbrev cX5_writeLog : ByteArray := prog_1_method_46_code
def yX5_writeLog : MethodName := ⟨RX5, "writeLog", "(I)V"⟩
abbrev cX5_wearOut : ByteArray := prog_1_method_47_code
def yX5_wearOut : MethodName := ⟨RX5, "wearOut", "(I)V"⟩
def RX6 : String := "CueTourModel"
def TX6 : u_T := fun k => match k with
  | 0 => ("CueTourModel", "thrown", "I", false)
  | 1 => ("CueTourModel", "seconds", "[I", true)
  | 2 => ("CueTourModel", "isCut", "[Z", true)
  | 3 => ("CueTourModel", "needs", "[I", true)
  | 4 => ("CueTourModel", "lines", "I", false)
  | 5 => ("CueTourModel", "areaOf", "[I", true)
  | 6 => ("CueTourModel", "colourOf", "[I", true)
  | 7 => ("CueTourModel", "lineOf", "[I", true)
  | 8 => ("CueTourModel", "offset", "[I", true)
  | 9 => ("CueTourModel", "fade", "[I", true)
  | 10 => ("CueTourModel", "to", "[I", true)
  | 11 => ("CueTourModel", "cues", "I", false)
  | 12 => ("CueTourModel", "home", "[I", true)
  | 13 => ("CueTourModel", "homeArea", "[I", true)
  | 14 => ("CueTourModel", "stage", "[I", true)
  | 15 => ("CueTourModel", "area", "[I", true)
  | 16 => ("CueTourModel", "colour", "[I", true)
  | 17 => ("CueTourModel", "power", "[I", true)
  | 18 => ("CueTourModel", "wear", "[I", true)
  | 19 => ("CueTourModel", "lamps", "I", false)
  | 20 => ("CueTourModel", "played", "[I", true)
  | 21 => ("CueTourModel", "wasShort", "[I", true)
  | 22 => ("CueTourModel", "logs", "I", false)
  | 23 => ("CueTourModel", "order", "[I", true)
  | 24 => ("CueTourModel", "row", "[I", true)
  | 25 => ("CueTourModel", "rows", "I", false)
  | 26 => ("CueTourModel", "start", "[I", true)
  | 27 => ("CueTourModel", "laid", "[I", true)
  | 28 => ("CueTourModel", "levels", "[I", true)
  | _ => ("CueTourModel", "burns", "[I", true)
def tyX6 : Nat → FieldType := fun k => match k with
  | 0 => .int
  | 1 => .array .int
  | 2 => .array .boolean
  | 3 => .array .int
  | 4 => .int
  | 5 => .array .int
  | 6 => .array .int
  | 7 => .array .int
  | 8 => .array .int
  | 9 => .array .int
  | 10 => .array .int
  | 11 => .int
  | 12 => .array .int
  | 13 => .array .int
  | 14 => .array .int
  | 15 => .array .int
  | 16 => .array .int
  | 17 => .array .int
  | 18 => .array .int
  | 19 => .int
  | 20 => .array .int
  | 21 => .array .int
  | 22 => .int
  | 23 => .array .int
  | 24 => .array .int
  | 25 => .int
  | 26 => .array .int
  | 27 => .array .int
  | 28 => .array .int
  | _ => .array .int
abbrev wsX60 : List Cond := u_ws RX6 TX6 30
theorem nmX6 : ∀ a, a < 30 → ∀ b, b < 30 → a ≠ b → (TX6 a).2.1 ≠ (TX6 b).2.1 := by decide +kernel
theorem tyX6_ok : ∀ k, k < 30 → parseFieldDescriptor (TX6 k).2.2.1 = some (tyX6 k) := by decide +kernel
abbrev cX6_init : ByteArray := prog_8_method_1_code
def yX6_init : MethodName := ⟨RX6, "<init>", "()V"⟩
abbrev cX6_thrown : ByteArray := prog_8_method_2_code
def yX6_thrown : MethodName := ⟨RX6, "thrown", "()I"⟩
abbrev cX6_isFine : ByteArray := prog_8_method_3_code
def yX6_isFine : MethodName := ⟨RX6, "isFine", "(I)Z"⟩
abbrev cX6_isIn : ByteArray := prog_8_method_4_code
def yX6_isIn : MethodName := ⟨RX6, "isIn", "(III)Z"⟩
abbrev cX6_isLine : ByteArray := prog_8_method_5_code
def yX6_isLine : MethodName := ⟨RX6, "isLine", "(I)Z"⟩
abbrev cX6_isArea : ByteArray := prog_8_method_6_code
def yX6_isArea : MethodName := ⟨RX6, "isArea", "(I)Z"⟩
abbrev cX6_isChannel : ByteArray := prog_8_method_7_code
def yX6_isChannel : MethodName := ⟨RX6, "isChannel", "(I)Z"⟩
abbrev cX6_isStage : ByteArray := prog_8_method_8_code
def yX6_isStage : MethodName := ⟨RX6, "isStage", "(I)Z"⟩
abbrev cX6_isTime : ByteArray := prog_8_method_9_code
def yX6_isTime : MethodName := ⟨RX6, "isTime", "(I)Z"⟩
abbrev cX6_addLine : ByteArray := prog_8_method_10_code
def yX6_addLine : MethodName := ⟨RX6, "addLine", "(I)I"⟩
abbrev cX6_need : ByteArray := prog_8_method_11_code
def yX6_need : MethodName := ⟨RX6, "need", "(III)I"⟩
abbrev cX6_ahead : ByteArray := prog_8_method_12_code
def yX6_ahead : MethodName := ⟨RX6, "ahead", "(I)I"⟩
abbrev cX6_cut : ByteArray := prog_8_method_13_code
def yX6_cut : MethodName := ⟨RX6, "cut", "(IZ)I"⟩
abbrev cX6_lines : ByteArray := prog_8_method_14_code
def yX6_lines : MethodName := ⟨RX6, "lines", "()I"⟩
abbrev cX6_startOf : ByteArray := prog_8_method_15_code
def yX6_startOf : MethodName := ⟨RX6, "startOf", "(I)I"⟩
abbrev cX6_length : ByteArray := prog_8_method_16_code
def yX6_length : MethodName := ⟨RX6, "length", "()I"⟩
abbrev cX6_setChannel : ByteArray := prog_8_method_17_code
def yX6_setChannel : MethodName := ⟨RX6, "setChannel", "(III)I"⟩
abbrev cX6_isFade : ByteArray := prog_8_method_18_code
def yX6_isFade : MethodName := ⟨RX6, "isFade", "(II)Z"⟩
abbrev cX6_isCue : ByteArray := prog_8_method_19_code
def yX6_isCue : MethodName := ⟨RX6, "isCue", "(I)Z"⟩
abbrev cX6_addCue : ByteArray := prog_8_method_20_code
def yX6_addCue : MethodName := ⟨RX6, "addCue", "(III)I"⟩
abbrev cX6_move : ByteArray := prog_8_method_21_code
def yX6_move : MethodName := ⟨RX6, "move", "(IIII)I"⟩
abbrev cX6_change : ByteArray := prog_8_method_22_code
def yX6_change : MethodName := ⟨RX6, "change", "(III)I"⟩
abbrev cX6_cues : ByteArray := prog_8_method_23_code
def yX6_cues : MethodName := ⟨RX6, "cues", "()I"⟩
abbrev cX6_isPlayed : ByteArray := prog_8_method_24_code
def yX6_isPlayed : MethodName := ⟨RX6, "isPlayed", "(I)Z"⟩
abbrev cX6_when : ByteArray := prog_8_method_25_code
def yX6_when : MethodName := ⟨RX6, "when", "(I)I"⟩
abbrev cX6_isAhead : ByteArray := prog_8_method_26_code
def yX6_isAhead : MethodName := ⟨RX6, "isAhead", "(II)Z"⟩
abbrev cX6_orders : ByteArray := prog_8_method_27_code
def yX6_orders : MethodName := ⟨RX6, "orders", "()V"⟩
abbrev cX6_plays : ByteArray := prog_8_method_28_code
def yX6_plays : MethodName := ⟨RX6, "plays", "()V"⟩
abbrev cX6_placeOf : ByteArray := prog_8_method_29_code
def yX6_placeOf : MethodName := ⟨RX6, "placeOf", "(I)I"⟩
abbrev cX6_cueAt : ByteArray := prog_8_method_30_code
def yX6_cueAt : MethodName := ⟨RX6, "cueAt", "(I)I"⟩
abbrev cX6_timeOf : ByteArray := prog_8_method_31_code
def yX6_timeOf : MethodName := ⟨RX6, "timeOf", "(I)I"⟩
abbrev cX6_foldedInto : ByteArray := prog_8_method_32_code
def yX6_foldedInto : MethodName := ⟨RX6, "foldedInto", "(I)I"⟩
abbrev cX6_changesAt : ByteArray := prog_8_method_33_code
def yX6_changesAt : MethodName := ⟨RX6, "changesAt", "(II)I"⟩
abbrev cX6_changes : ByteArray := prog_8_method_34_code
def yX6_changes : MethodName := ⟨RX6, "changes", "(II)I"⟩
abbrev cX6_behind : ByteArray := prog_8_method_35_code
def yX6_behind : MethodName := ⟨RX6, "behind", "(IIII)I"⟩
abbrev cX6_level : ByteArray := prog_8_method_36_code
def yX6_level : MethodName := ⟨RX6, "level", "(II)I"⟩
abbrev cX6_levelNow : ByteArray := prog_8_method_37_code
def yX6_levelNow : MethodName := ⟨RX6, "levelNow", "(II)I"⟩
abbrev cX6_levelAt : ByteArray := prog_8_method_38_code
def yX6_levelAt : MethodName := ⟨RX6, "levelAt", "(II)I"⟩
abbrev cX6_levelBySeconds : ByteArray := prog_8_method_39_code
def yX6_levelBySeconds : MethodName := ⟨RX6, "levelBySeconds", "(II)I"⟩
abbrev cX6_isLamp : ByteArray := prog_8_method_40_code
def yX6_isLamp : MethodName := ⟨RX6, "isLamp", "(I)Z"⟩
abbrev cX6_addLamp : ByteArray := prog_8_method_41_code
def yX6_addLamp : MethodName := ⟨RX6, "addLamp", "(IIII)I"⟩
abbrev cX6_isHome : ByteArray := prog_8_method_42_code
def yX6_isHome : MethodName := ⟨RX6, "isHome", "(I)Z"⟩
abbrev cX6_borrow : ByteArray := prog_8_method_43_code
def yX6_borrow : MethodName := ⟨RX6, "borrow", "(III)I"⟩
abbrev cX6_bringBack : ByteArray := prog_8_method_44_code
def yX6_bringBack : MethodName := ⟨RX6, "bringBack", "(I)I"⟩
abbrev cX6_replace : ByteArray := prog_8_method_45_code
def yX6_replace : MethodName := ⟨RX6, "replace", "(I)I"⟩
abbrev cX6_lamps : ByteArray := prog_8_method_46_code
def yX6_lamps : MethodName := ⟨RX6, "lamps", "()I"⟩
abbrev cX6_whereIs : ByteArray := prog_8_method_47_code
def yX6_whereIs : MethodName := ⟨RX6, "whereIs", "(I)I"⟩
abbrev cX6_wear : ByteArray := prog_8_method_48_code
def yX6_wear : MethodName := ⟨RX6, "wear", "(I)I"⟩
abbrev cX6_lays : ByteArray := prog_8_method_49_code
def yX6_lays : MethodName := ⟨RX6, "lays", "(II)I"⟩
abbrev cX6_laidOn : ByteArray := prog_8_method_50_code
def yX6_laidOn : MethodName := ⟨RX6, "laidOn", "(II)I"⟩
abbrev cX6_lights : ByteArray := prog_8_method_51_code
def yX6_lights : MethodName := ⟨RX6, "lights", "(I)V"⟩
abbrev cX6_laysAll : ByteArray := prog_8_method_52_code
def yX6_laysAll : MethodName := ⟨RX6, "laysAll", "(I)V"⟩
abbrev cX6_lampNow : ByteArray := prog_8_method_53_code
def yX6_lampNow : MethodName := ⟨RX6, "lampNow", "(I)I"⟩
abbrev cX6_lightNow : ByteArray := prog_8_method_54_code
def yX6_lightNow : MethodName := ⟨RX6, "lightNow", "(II)I"⟩
abbrev cX6_lampLevel : ByteArray := prog_8_method_55_code
def yX6_lampLevel : MethodName := ⟨RX6, "lampLevel", "(II)I"⟩
abbrev cX6_light : ByteArray := prog_8_method_56_code
def yX6_light : MethodName := ⟨RX6, "light", "(III)I"⟩
abbrev cX6_shorts : ByteArray := prog_8_method_57_code
def yX6_shorts : MethodName := ⟨RX6, "shorts", "(II)I"⟩
abbrev cX6_shortOf : ByteArray := prog_8_method_58_code
def yX6_shortOf : MethodName := ⟨RX6, "shortOf", "(II)I"⟩
abbrev cX6_shortLines : ByteArray := prog_8_method_59_code
def yX6_shortLines : MethodName := ⟨RX6, "shortLines", "(I)I"⟩
abbrev cX6_bestStage : ByteArray := prog_8_method_60_code
def yX6_bestStage : MethodName := ⟨RX6, "bestStage", "()I"⟩
abbrev cX6_bestToBorrow : ByteArray := prog_8_method_61_code
def yX6_bestToBorrow : MethodName := ⟨RX6, "bestToBorrow", "(II)I"⟩
abbrev cX6_wears : ByteArray := prog_8_method_62_code
def yX6_wears : MethodName := ⟨RX6, "wears", "(I)V"⟩
abbrev cX6_perform : ByteArray := prog_8_method_63_code
def yX6_perform : MethodName := ⟨RX6, "perform", "(I)I"⟩
abbrev cX6_logs : ByteArray := prog_8_method_64_code
def yX6_logs : MethodName := ⟨RX6, "logs", "()I"⟩
abbrev cX6_isLog : ByteArray := prog_8_method_65_code
def yX6_isLog : MethodName := ⟨RX6, "isLog", "(I)Z"⟩
abbrev cX6_stageOf : ByteArray := prog_8_method_66_code
def yX6_stageOf : MethodName := ⟨RX6, "stageOf", "(I)I"⟩
abbrev cX6_wasShortOf : ByteArray := prog_8_method_67_code
def yX6_wasShortOf : MethodName := ⟨RX6, "wasShortOf", "(II)I"⟩
abbrev cX6_timesShort : ByteArray := prog_8_method_68_code
def yX6_timesShort : MethodName := ⟨RX6, "timesShort", "(I)I"⟩
def RJ0 : String := "java/lang/String"
def TJ0 : u_T := fun k => match k with
  | _ => ("", "", "", false)
def tyJ0 : Nat → FieldType := fun k => match k with
  | _ => .int
abbrev wsJ00 : List Cond := u_ws RJ0 TJ0 0
theorem nmJ0 : ∀ a, a < 0 → ∀ b, b < 0 → a ≠ b → (TJ0 a).2.1 ≠ (TJ0 b).2.1 := by decide +kernel
theorem tyJ0_ok : ∀ k, k < 0 → parseFieldDescriptor (TJ0 k).2.2.1 = some (tyJ0 k) := by decide +kernel
def RL : String := "CueTourLaw"
abbrev cL_addLine : ByteArray := method_3_code
def yL_addLine : MethodName := ⟨RL, "addLine", "(LCueTour;I[J)I"⟩
abbrev cL_need : ByteArray := method_4_code
def yL_need : MethodName := ⟨RL, "need", "(LCueTour;III[J)I"⟩
abbrev cL_cut : ByteArray := method_5_code
def yL_cut : MethodName := ⟨RL, "cut", "(LCueTour;IZ[J)I"⟩
abbrev cL_startOf : ByteArray := method_6_code
def yL_startOf : MethodName := ⟨RL, "startOf", "(LCueTour;I[J)I"⟩
abbrev cL_setChannel : ByteArray := method_7_code
def yL_setChannel : MethodName := ⟨RL, "setChannel", "(LCueTour;III[J)I"⟩
abbrev cL_addCue : ByteArray := method_8_code
def yL_addCue : MethodName := ⟨RL, "addCue", "(LCueTour;III[J)I"⟩
abbrev cL_move : ByteArray := method_9_code
def yL_move : MethodName := ⟨RL, "move", "(LCueTour;IIII[J)I"⟩
abbrev cL_change : ByteArray := method_10_code
def yL_change : MethodName := ⟨RL, "change", "(LCueTour;III[J)I"⟩
abbrev cL_cueAt : ByteArray := method_11_code
def yL_cueAt : MethodName := ⟨RL, "cueAt", "(LCueTour;I[J)I"⟩
abbrev cL_timeOf : ByteArray := method_12_code
def yL_timeOf : MethodName := ⟨RL, "timeOf", "(LCueTour;I[J)I"⟩
abbrev cL_foldedInto : ByteArray := method_13_code
def yL_foldedInto : MethodName := ⟨RL, "foldedInto", "(LCueTour;I[J)I"⟩
abbrev cL_changes : ByteArray := method_14_code
def yL_changes : MethodName := ⟨RL, "changes", "(LCueTour;II[J)I"⟩
abbrev cL_levelAt : ByteArray := method_15_code
def yL_levelAt : MethodName := ⟨RL, "levelAt", "(LCueTour;II[J)I"⟩
abbrev cL_levelBySeconds : ByteArray := method_16_code
def yL_levelBySeconds : MethodName := ⟨RL, "levelBySeconds", "(LCueTour;II[J)I"⟩
abbrev cL_addLamp : ByteArray := method_17_code
def yL_addLamp : MethodName := ⟨RL, "addLamp", "(LCueTour;IIII[J)I"⟩
abbrev cL_borrow : ByteArray := method_18_code
def yL_borrow : MethodName := ⟨RL, "borrow", "(LCueTour;III[J)I"⟩
abbrev cL_bringBack : ByteArray := method_19_code
def yL_bringBack : MethodName := ⟨RL, "bringBack", "(LCueTour;I[J)I"⟩
abbrev cL_replace : ByteArray := method_20_code
def yL_replace : MethodName := ⟨RL, "replace", "(LCueTour;I[J)I"⟩
abbrev cL_whereIs : ByteArray := method_21_code
def yL_whereIs : MethodName := ⟨RL, "whereIs", "(LCueTour;I[J)I"⟩
abbrev cL_wear : ByteArray := method_22_code
def yL_wear : MethodName := ⟨RL, "wear", "(LCueTour;I[J)I"⟩
abbrev cL_laidOn : ByteArray := method_23_code
def yL_laidOn : MethodName := ⟨RL, "laidOn", "(LCueTour;II[J)I"⟩
abbrev cL_lampLevel : ByteArray := method_24_code
def yL_lampLevel : MethodName := ⟨RL, "lampLevel", "(LCueTour;II[J)I"⟩
abbrev cL_light : ByteArray := method_25_code
def yL_light : MethodName := ⟨RL, "light", "(LCueTour;III[J)I"⟩
abbrev cL_shortOf : ByteArray := method_26_code
def yL_shortOf : MethodName := ⟨RL, "shortOf", "(LCueTour;II[J)I"⟩
abbrev cL_bestToBorrow : ByteArray := method_27_code
def yL_bestToBorrow : MethodName := ⟨RL, "bestToBorrow", "(LCueTour;II[J)I"⟩
abbrev cL_perform : ByteArray := method_28_code
def yL_perform : MethodName := ⟨RL, "perform", "(LCueTour;I[J)I"⟩
abbrev cL_stageOf : ByteArray := method_29_code
def yL_stageOf : MethodName := ⟨RL, "stageOf", "(LCueTour;I[J)I"⟩
abbrev cL_wasShortOf : ByteArray := method_30_code
def yL_wasShortOf : MethodName := ⟨RL, "wasShortOf", "(LCueTour;II[J)I"⟩
abbrev cL_timesShort : ByteArray := method_31_code
def yL_timesShort : MethodName := ⟨RL, "timesShort", "(LCueTour;I[J)I"⟩
abbrev cL_law : ByteArray := code
def yL_law : MethodName := ⟨RL, "law", "([I)Z"⟩
def wsX0_init : List Cond := .code yX0_init cX0_init 1 none :: ([.methodLink RX0 3 objectInit, .instanceMethod objectInit, .code objectInit ⟨#[0xb1]⟩ 1 none, .arrayClass .int, .fieldLink RX0 9 "CueTour$Book" "stages" "[I", .classLink RX0 15 "[[I", .fieldLink RX0 17 "CueTour$Book" "shorts" "[[I", .fieldLink RX0 20 "CueTour$Book" "count" "I"] ++ wsX00)
def wsX0_append : List Cond := .code yX0_append cX0_append 2 (some .int) :: ([.fieldLink RX0 9 "CueTour$Book" "stages" "[I", .fieldLink RX0 20 "CueTour$Book" "count" "I"] ++ wsX00)
def wsX0_countShortLogs : List Cond := .code yX0_countShortLogs cX0_countShortLogs 4 (some .int) :: ([.fieldLink RX0 20 "CueTour$Book" "count" "I", .fieldLink RX0 17 "CueTour$Book" "shorts" "[[I"] ++ wsX00)
def wsX1_init : List Cond := .code yX1_init cX1_init 1 none :: ([.methodLink RX1 3 objectInit, .instanceMethod objectInit, .code objectInit ⟨#[0xb1]⟩ 1 none, .arrayClass .int, .fieldLink RX1 9 "CueTour$CueList" "lineOf" "[I", .fieldLink RX1 15 "CueTour$CueList" "offsets" "[I", .fieldLink RX1 18 "CueTour$CueList" "fades" "[I", .classLink RX1 21 "[[I", .fieldLink RX1 23 "CueTour$CueList" "own" "[[I", .fieldLink RX1 26 "CueTour$CueList" "count" "I", .fieldLink RX1 30 "CueTour$CueList" "order" "[I", .fieldLink RX1 33 "CueTour$CueList" "times" "[I", .fieldLink RX1 36 "CueTour$CueList" "into" "[I", .fieldLink RX1 39 "CueTour$CueList" "made" "[[I", .fieldLink RX1 42 "CueTour$CueList" "plays" "[I", .fieldLink RX1 45 "CueTour$CueList" "playCount" "I"] ++ wsX10)
def wsX1_append : List Cond := .code yX1_append cX1_append 2 (some .int) :: ([.fieldLink RX1 23 "CueTour$CueList" "own" "[[I", .fieldLink RX1 26 "CueTour$CueList" "count" "I"] ++ wsX10)
def wsX1_place : List Cond := .code yX1_place cX1_place 5 none :: ([.fieldLink RX1 9 "CueTour$CueList" "lineOf" "[I", .fieldLink RX1 15 "CueTour$CueList" "offsets" "[I", .fieldLink RX1 18 "CueTour$CueList" "fades" "[I"] ++ wsX10)
def wsX1_comesAhead : List Cond := .code yX1_comesAhead cX1_comesAhead 3 (some .boolean) :: ([.fieldLink RX1 9 "CueTour$CueList" "lineOf" "[I", .fieldLink RX1 15 "CueTour$CueList" "offsets" "[I"] ++ wsX10)
def wsX1_sortCues : List Cond := .code yX1_sortCues cX1_sortCues 3 none :: ([.fieldLink RX1 26 "CueTour$CueList" "count" "I", .fieldLink RX1 30 "CueTour$CueList" "order" "[I", .methodLink RX1 61 yX1_comesAhead, .instanceMethod yX1_comesAhead, .selects RX1 yX1_comesAhead yX1_comesAhead, .initialized RX1, .code yX1_comesAhead cX1_comesAhead 3 (some .boolean), .fieldLink RX1 9 "CueTour$CueList" "lineOf" "[I", .fieldLink RX1 15 "CueTour$CueList" "offsets" "[I"] ++ wsX10)
def wsX4_secondsAhead : List Cond := .code yX4_secondsAhead cX4_secondsAhead 4 (some .int) :: ([.fieldLink RX4 15 "CueTour$Script" "isOut" "[Z", .fieldLink RX4 9 "CueTour$Script" "seconds" "[I"] ++ wsX40)
def wsX1_setTimes : List Cond := .code yX1_setTimes cX1_setTimes 4 none :: ([.fieldLink RX1 26 "CueTour$CueList" "count" "I", .fieldLink RX1 9 "CueTour$CueList" "lineOf" "[I", .fieldLink RX1 33 "CueTour$CueList" "times" "[I", .fieldLink RX1 15 "CueTour$CueList" "offsets" "[I", .methodLink RX1 71 yX4_secondsAhead, .instanceMethod yX4_secondsAhead, .selects RX4 yX4_secondsAhead yX4_secondsAhead, .initialized RX4, .code yX4_secondsAhead cX4_secondsAhead 4 (some .int), .fieldLink RX4 15 "CueTour$Script" "isOut" "[Z", .fieldLink RX4 9 "CueTour$Script" "seconds" "[I"] ++ wsX10 ++ wsX40)
def wsX1_forget : List Cond := .code yX1_forget cX1_forget 3 none :: ([.fieldLink RX1 39 "CueTour$CueList" "made" "[[I"] ++ wsX10)
def wsX1_fillIn : List Cond := .code yX1_fillIn cX1_fillIn 4 none :: ([.fieldLink RX1 39 "CueTour$CueList" "made" "[[I", .fieldLink RX1 23 "CueTour$CueList" "own" "[[I"] ++ wsX10)
def wsX1_fold : List Cond := .code yX1_fold cX1_fold 4 none :: ([.fieldLink RX1 26 "CueTour$CueList" "count" "I", .fieldLink RX1 30 "CueTour$CueList" "order" "[I", .fieldLink RX1 33 "CueTour$CueList" "times" "[I", .fieldLink RX1 36 "CueTour$CueList" "into" "[I", .methodLink RX1 75 yX1_forget, .instanceMethod yX1_forget, .selects RX1 yX1_forget yX1_forget, .initialized RX1, .code yX1_forget cX1_forget 3 none, .fieldLink RX1 39 "CueTour$CueList" "made" "[[I", .methodLink RX1 79 yX1_fillIn, .instanceMethod yX1_fillIn, .selects RX1 yX1_fillIn yX1_fillIn, .code yX1_fillIn cX1_fillIn 4 none, .fieldLink RX1 23 "CueTour$CueList" "own" "[[I"] ++ wsX10)
def wsX1_insertPlay : List Cond := .code yX1_insertPlay cX1_insertPlay 3 none :: ([.fieldLink RX1 45 "CueTour$CueList" "playCount" "I", .fieldLink RX1 33 "CueTour$CueList" "times" "[I", .fieldLink RX1 42 "CueTour$CueList" "plays" "[I"] ++ wsX10)
def wsX1_sortPlays : List Cond := .code yX1_sortPlays cX1_sortPlays 2 none :: ([.fieldLink RX1 45 "CueTour$CueList" "playCount" "I", .fieldLink RX1 26 "CueTour$CueList" "count" "I", .fieldLink RX1 33 "CueTour$CueList" "times" "[I", .fieldLink RX1 30 "CueTour$CueList" "order" "[I", .methodLink RX1 83 yX1_insertPlay, .instanceMethod yX1_insertPlay, .selects RX1 yX1_insertPlay yX1_insertPlay, .initialized RX1, .code yX1_insertPlay cX1_insertPlay 3 none, .fieldLink RX1 42 "CueTour$CueList" "plays" "[I"] ++ wsX10)
def wsX1_arrange_r1 : List Cond := [Cond.methodLink RX1 48 yX1_sortCues, Cond.instanceMethod yX1_sortCues, Cond.selects RX1 yX1_sortCues yX1_sortCues, Cond.initialized RX1, Cond.code yX1_sortCues cX1_sortCues 3 none, Cond.fieldLink RX1 26 "CueTour$CueList" "count" "I", Cond.fieldLink RX1 30 "CueTour$CueList" "order" "[I", Cond.methodLink RX1 61 yX1_comesAhead, Cond.instanceMethod yX1_comesAhead, Cond.selects RX1 yX1_comesAhead yX1_comesAhead, Cond.code yX1_comesAhead cX1_comesAhead 3 (some .boolean), Cond.fieldLink RX1 9 "CueTour$CueList" "lineOf" "[I", Cond.fieldLink RX1 15 "CueTour$CueList" "offsets" "[I", Cond.methodLink RX1 51 yX1_setTimes, Cond.instanceMethod yX1_setTimes, Cond.selects RX1 yX1_setTimes yX1_setTimes, Cond.code yX1_setTimes cX1_setTimes 4 none, Cond.fieldLink RX1 33 "CueTour$CueList" "times" "[I", Cond.methodLink RX1 71 yX4_secondsAhead, Cond.instanceMethod yX4_secondsAhead, Cond.selects RX4 yX4_secondsAhead yX4_secondsAhead, Cond.initialized RX4, Cond.code yX4_secondsAhead cX4_secondsAhead 4 (some .int), Cond.fieldLink RX4 15 "CueTour$Script" "isOut" "[Z"]
def wsX1_arrange_r2 : List Cond := [Cond.fieldLink RX4 9 "CueTour$Script" "seconds" "[I", Cond.methodLink RX1 55 yX1_fold, Cond.instanceMethod yX1_fold, Cond.selects RX1 yX1_fold yX1_fold, Cond.code yX1_fold cX1_fold 4 none, Cond.fieldLink RX1 36 "CueTour$CueList" "into" "[I", Cond.methodLink RX1 75 yX1_forget, Cond.instanceMethod yX1_forget, Cond.selects RX1 yX1_forget yX1_forget, Cond.code yX1_forget cX1_forget 3 none, Cond.fieldLink RX1 39 "CueTour$CueList" "made" "[[I", Cond.methodLink RX1 79 yX1_fillIn, Cond.instanceMethod yX1_fillIn, Cond.selects RX1 yX1_fillIn yX1_fillIn, Cond.code yX1_fillIn cX1_fillIn 4 none, Cond.fieldLink RX1 23 "CueTour$CueList" "own" "[[I", Cond.methodLink RX1 58 yX1_sortPlays, Cond.instanceMethod yX1_sortPlays, Cond.selects RX1 yX1_sortPlays yX1_sortPlays, Cond.code yX1_sortPlays cX1_sortPlays 2 none, Cond.fieldLink RX1 45 "CueTour$CueList" "playCount" "I", Cond.methodLink RX1 83 yX1_insertPlay, Cond.instanceMethod yX1_insertPlay, Cond.selects RX1 yX1_insertPlay yX1_insertPlay]
def wsX1_arrange_r3 : List Cond := [Cond.code yX1_insertPlay cX1_insertPlay 3 none, Cond.fieldLink RX1 42 "CueTour$CueList" "plays" "[I"]
def wsX1_arrange : List Cond := .code yX1_arrange cX1_arrange 2 none :: ((wsX1_arrange_r1 ++ (wsX1_arrange_r2 ++ wsX1_arrange_r3)) ++ wsX10 ++ wsX40)
def wsX1_levelBehind : List Cond := .code yX1_levelBehind cX1_levelBehind 4 (some .int) :: ([])
def wsX1_levelByFades : List Cond := .code yX1_levelByFades cX1_levelByFades 9 (some .int) :: ([.fieldLink RX1 45 "CueTour$CueList" "playCount" "I", .fieldLink RX1 33 "CueTour$CueList" "times" "[I", .fieldLink RX1 42 "CueTour$CueList" "plays" "[I", .fieldLink RX1 39 "CueTour$CueList" "made" "[[I", .fieldLink RX1 18 "CueTour$CueList" "fades" "[I", .methodLink RX1 86 yX1_levelBehind, .static yX1_levelBehind, .initialized RX1, .code yX1_levelBehind cX1_levelBehind 4 (some .int)] ++ wsX10)
def wsX1_levelByTicks : List Cond := .code yX1_levelByTicks cX1_levelByTicks 11 (some .int) :: ([.fieldLink RX1 45 "CueTour$CueList" "playCount" "I", .fieldLink RX1 33 "CueTour$CueList" "times" "[I", .fieldLink RX1 42 "CueTour$CueList" "plays" "[I", .fieldLink RX1 39 "CueTour$CueList" "made" "[[I", .fieldLink RX1 18 "CueTour$CueList" "fades" "[I", .methodLink RX1 86 yX1_levelBehind, .static yX1_levelBehind, .initialized RX1, .code yX1_levelBehind cX1_levelBehind 4 (some .int)] ++ wsX10)
def wsX1_fillLevels : List Cond := .code yX1_fillLevels cX1_fillLevels 4 none :: ([.methodLink RX1 90 yX1_levelByFades, .instanceMethod yX1_levelByFades, .selects RX1 yX1_levelByFades yX1_levelByFades, .initialized RX1, .code yX1_levelByFades cX1_levelByFades 9 (some .int), .fieldLink RX1 45 "CueTour$CueList" "playCount" "I", .fieldLink RX1 33 "CueTour$CueList" "times" "[I", .fieldLink RX1 42 "CueTour$CueList" "plays" "[I", .fieldLink RX1 39 "CueTour$CueList" "made" "[[I", .fieldLink RX1 18 "CueTour$CueList" "fades" "[I", .methodLink RX1 86 yX1_levelBehind, .static yX1_levelBehind, .code yX1_levelBehind cX1_levelBehind 4 (some .int)] ++ wsX10)
def wsX2_init : List Cond := .code yX2_init cX2_init 2 none :: ([.methodLink RX2 3 objectInit, .instanceMethod objectInit, .code objectInit ⟨#[0xb1]⟩ 1 none, .arrayClass .int, .fieldLink RX2 9 "CueTour$Patch" "areas" "[I", .fieldLink RX2 15 "CueTour$Patch" "colours" "[I"] ++ wsX20)
def wsX3_init : List Cond := .code yX3_init cX3_init 1 none :: ([.methodLink RX3 3 objectInit, .instanceMethod objectInit, .code objectInit ⟨#[0xb1]⟩ 1 none, .arrayClass .int, .fieldLink RX3 9 "CueTour$Rig" "homes" "[I", .fieldLink RX3 15 "CueTour$Rig" "homeAreas" "[I", .fieldLink RX3 18 "CueTour$Rig" "colours" "[I", .fieldLink RX3 21 "CueTour$Rig" "powers" "[I", .fieldLink RX3 24 "CueTour$Rig" "stages" "[I", .fieldLink RX3 27 "CueTour$Rig" "areas" "[I", .fieldLink RX3 30 "CueTour$Rig" "wears" "[I", .fieldLink RX3 33 "CueTour$Rig" "burnt" "[I", .fieldLink RX3 36 "CueTour$Rig" "count" "I"] ++ wsX30)
def wsX3_put : List Cond := .code yX3_put cX3_put 4 none :: ([.fieldLink RX3 24 "CueTour$Rig" "stages" "[I", .fieldLink RX3 27 "CueTour$Rig" "areas" "[I"] ++ wsX30)
def wsX3_putHome : List Cond := .code yX3_putHome cX3_putHome 2 none :: ([.fieldLink RX3 9 "CueTour$Rig" "homes" "[I", .fieldLink RX3 15 "CueTour$Rig" "homeAreas" "[I", .methodLink RX3 48 yX3_put, .instanceMethod yX3_put, .selects RX3 yX3_put yX3_put, .initialized RX3, .code yX3_put cX3_put 4 none, .fieldLink RX3 24 "CueTour$Rig" "stages" "[I", .fieldLink RX3 27 "CueTour$Rig" "areas" "[I"] ++ wsX30)
def wsX3_append : List Cond := .code yX3_append cX3_append 6 (some .int) :: ([.fieldLink RX3 36 "CueTour$Rig" "count" "I", .fieldLink RX3 9 "CueTour$Rig" "homes" "[I", .fieldLink RX3 15 "CueTour$Rig" "homeAreas" "[I", .fieldLink RX3 18 "CueTour$Rig" "colours" "[I", .fieldLink RX3 21 "CueTour$Rig" "powers" "[I", .methodLink RX3 40 yX3_putHome, .instanceMethod yX3_putHome, .selects RX3 yX3_putHome yX3_putHome, .initialized RX3, .code yX3_putHome cX3_putHome 2 none, .methodLink RX3 48 yX3_put, .instanceMethod yX3_put, .selects RX3 yX3_put yX3_put, .code yX3_put cX3_put 4 none, .fieldLink RX3 24 "CueTour$Rig" "stages" "[I", .fieldLink RX3 27 "CueTour$Rig" "areas" "[I"] ++ wsX30)
def wsX3_isHome : List Cond := .code yX3_isHome cX3_isHome 2 (some .boolean) :: ([.fieldLink RX3 24 "CueTour$Rig" "stages" "[I", .fieldLink RX3 9 "CueTour$Rig" "homes" "[I"] ++ wsX30)
def wsX3_canGo : List Cond := .code yX3_canGo cX3_canGo 3 (some .boolean) :: ([.fieldLink RX3 9 "CueTour$Rig" "homes" "[I", .methodLink RX3 44 yX3_isHome, .instanceMethod yX3_isHome, .selects RX3 yX3_isHome yX3_isHome, .initialized RX3, .code yX3_isHome cX3_isHome 2 (some .boolean), .fieldLink RX3 24 "CueTour$Rig" "stages" "[I"] ++ wsX30)
def wsX3_isFor : List Cond := .code yX3_isFor cX3_isFor 4 (some .boolean) :: ([.fieldLink RX3 24 "CueTour$Rig" "stages" "[I", .fieldLink RX3 27 "CueTour$Rig" "areas" "[I"] ++ wsX30)
def wsX3_lampsFor : List Cond := .code yX3_lampsFor cX3_lampsFor 7 (some .int) :: ([.fieldLink RX3 36 "CueTour$Rig" "count" "I", .fieldLink RX3 18 "CueTour$Rig" "colours" "[I", .methodLink RX3 52 yX3_isFor, .instanceMethod yX3_isFor, .selects RX3 yX3_isFor yX3_isFor, .initialized RX3, .code yX3_isFor cX3_isFor 4 (some .boolean), .fieldLink RX3 24 "CueTour$Rig" "stages" "[I", .fieldLink RX3 27 "CueTour$Rig" "areas" "[I"] ++ wsX30)
def wsX3_lay : List Cond := .code yX3_lay cX3_lay 5 none :: ([.methodLink RX3 60 yX3_lampsFor, .instanceMethod yX3_lampsFor, .selects RX3 yX3_lampsFor yX3_lampsFor, .initialized RX3, .code yX3_lampsFor cX3_lampsFor 7 (some .int), .fieldLink RX3 36 "CueTour$Rig" "count" "I", .fieldLink RX3 18 "CueTour$Rig" "colours" "[I", .methodLink RX3 52 yX3_isFor, .instanceMethod yX3_isFor, .selects RX3 yX3_isFor yX3_isFor, .code yX3_isFor cX3_isFor 4 (some .boolean), .fieldLink RX3 24 "CueTour$Rig" "stages" "[I", .fieldLink RX3 27 "CueTour$Rig" "areas" "[I"] ++ wsX20 ++ wsX30)
def wsX3_levelOf : List Cond := .code yX3_levelOf cX3_levelOf 6 (some .int) :: ([.fieldLink RX3 30 "CueTour$Rig" "wears" "[I"] ++ wsX30)
def wsX3_lightOf : List Cond := .code yX3_lightOf cX3_lightOf 7 (some .int) :: ([.fieldLink RX3 36 "CueTour$Rig" "count" "I", .fieldLink RX3 21 "CueTour$Rig" "powers" "[I", .methodLink RX3 52 yX3_isFor, .instanceMethod yX3_isFor, .selects RX3 yX3_isFor yX3_isFor, .initialized RX3, .code yX3_isFor cX3_isFor 4 (some .boolean), .fieldLink RX3 24 "CueTour$Rig" "stages" "[I", .fieldLink RX3 27 "CueTour$Rig" "areas" "[I", .methodLink RX3 64 yX3_levelOf, .instanceMethod yX3_levelOf, .selects RX3 yX3_levelOf yX3_levelOf, .code yX3_levelOf cX3_levelOf 6 (some .int), .fieldLink RX3 30 "CueTour$Rig" "wears" "[I"] ++ wsX30)
def wsX3_startBurning : List Cond := .code yX3_startBurning cX3_startBurning 2 none :: ([.fieldLink RX3 36 "CueTour$Rig" "count" "I", .fieldLink RX3 33 "CueTour$Rig" "burnt" "[I"] ++ wsX30)
def wsX3_burn : List Cond := .code yX3_burn cX3_burn 5 none :: ([.fieldLink RX3 36 "CueTour$Rig" "count" "I", .fieldLink RX3 24 "CueTour$Rig" "stages" "[I", .fieldLink RX3 33 "CueTour$Rig" "burnt" "[I", .methodLink RX3 64 yX3_levelOf, .instanceMethod yX3_levelOf, .selects RX3 yX3_levelOf yX3_levelOf, .initialized RX3, .code yX3_levelOf cX3_levelOf 6 (some .int), .fieldLink RX3 30 "CueTour$Rig" "wears" "[I"] ++ wsX30)
def wsX3_addBurnt : List Cond := .code yX3_addBurnt cX3_addBurnt 2 none :: ([.fieldLink RX3 36 "CueTour$Rig" "count" "I", .fieldLink RX3 30 "CueTour$Rig" "wears" "[I", .fieldLink RX3 33 "CueTour$Rig" "burnt" "[I"] ++ wsX30)
def wsX4_init : List Cond := .code yX4_init cX4_init 1 none :: ([.methodLink RX4 3 objectInit, .instanceMethod objectInit, .code objectInit ⟨#[0xb1]⟩ 1 none, .arrayClass .int, .fieldLink RX4 9 "CueTour$Script" "seconds" "[I", .arrayClass .boolean, .fieldLink RX4 15 "CueTour$Script" "isOut" "[Z", .classLink RX4 19 "[[I", .fieldLink RX4 21 "CueTour$Script" "needs" "[[I", .fieldLink RX4 24 "CueTour$Script" "count" "I"] ++ wsX40)
def wsX4_append : List Cond := .code yX4_append cX4_append 2 (some .int) :: ([.fieldLink RX4 9 "CueTour$Script" "seconds" "[I", .fieldLink RX4 24 "CueTour$Script" "count" "I"] ++ wsX40)
def wsX4_lastSecondOf : List Cond := .code yX4_lastSecondOf cX4_lastSecondOf 2 (some .int) :: ([.fieldLink RX4 9 "CueTour$Script" "seconds" "[I", .methodLink RX4 28 yX4_secondsAhead, .instanceMethod yX4_secondsAhead, .selects RX4 yX4_secondsAhead yX4_secondsAhead, .initialized RX4, .code yX4_secondsAhead cX4_secondsAhead 4 (some .int), .fieldLink RX4 15 "CueTour$Script" "isOut" "[Z"] ++ wsX40)
def wsX4_total : List Cond := .code yX4_total cX4_total 1 (some .int) :: ([.fieldLink RX4 24 "CueTour$Script" "count" "I", .methodLink RX4 28 yX4_secondsAhead, .instanceMethod yX4_secondsAhead, .selects RX4 yX4_secondsAhead yX4_secondsAhead, .initialized RX4, .code yX4_secondsAhead cX4_secondsAhead 4 (some .int), .fieldLink RX4 15 "CueTour$Script" "isOut" "[Z", .fieldLink RX4 9 "CueTour$Script" "seconds" "[I"] ++ wsX40)
def wsX5_init_r1 : List Cond := [Cond.methodLink RX5 1 objectInit, Cond.instanceMethod objectInit, Cond.code objectInit ⟨#[0xb1]⟩ 1 none, Cond.classLink RX5 7 RX4, Cond.instantiable RX4 4, Cond.initialized RX4, Cond.fieldLink RX5 10 "CueTour" "script" "LCueTour$Script;", Cond.classLink RX5 16 RX2, Cond.instantiable RX2 2, Cond.initialized RX2, Cond.fieldLink RX5 19 "CueTour" "patch" "LCueTour$Patch;", Cond.classLink RX5 23 RX1, Cond.instantiable RX1 11, Cond.initialized RX1, Cond.fieldLink RX5 26 "CueTour" "cueList" "LCueTour$CueList;", Cond.classLink RX5 30 RX3, Cond.instantiable RX3 9, Cond.initialized RX3, Cond.fieldLink RX5 33 "CueTour" "rig" "LCueTour$Rig;", Cond.classLink RX5 37 RX0, Cond.instantiable RX0 3, Cond.initialized RX0, Cond.fieldLink RX5 40 "CueTour" "book" "LCueTour$Book;", Cond.arrayClass .int]
def wsX5_init_r2 : List Cond := [Cond.fieldLink RX5 44 "CueTour" "levels" "[I", Cond.fieldLink RX5 48 "CueTour" "laid" "[I", Cond.classLink RX5 51 "[[I", Cond.fieldLink RX5 53 "CueTour" "endLevels" "[[I", Cond.instanceMethod yX4_init, Cond.code yX4_init cX4_init 1 none, Cond.methodLink RX4 3 objectInit, Cond.fieldLink RX4 9 "CueTour$Script" "seconds" "[I", Cond.arrayClass .boolean, Cond.fieldLink RX4 15 "CueTour$Script" "isOut" "[Z", Cond.classLink RX4 19 "[[I", Cond.fieldLink RX4 21 "CueTour$Script" "needs" "[[I", Cond.fieldLink RX4 24 "CueTour$Script" "count" "I", Cond.methodLink RX5 18 yX2_init, Cond.instanceMethod yX2_init, Cond.code yX2_init cX2_init 2 none, Cond.methodLink RX2 3 objectInit, Cond.fieldLink RX2 9 "CueTour$Patch" "areas" "[I", Cond.fieldLink RX2 15 "CueTour$Patch" "colours" "[I", Cond.instanceMethod yX1_init, Cond.code yX1_init cX1_init 1 none, Cond.methodLink RX1 3 objectInit, Cond.fieldLink RX1 9 "CueTour$CueList" "lineOf" "[I", Cond.fieldLink RX1 15 "CueTour$CueList" "offsets" "[I"]
def wsX5_init_r3 : List Cond := [Cond.fieldLink RX1 18 "CueTour$CueList" "fades" "[I", Cond.classLink RX1 21 "[[I", Cond.fieldLink RX1 23 "CueTour$CueList" "own" "[[I", Cond.fieldLink RX1 26 "CueTour$CueList" "count" "I", Cond.fieldLink RX1 30 "CueTour$CueList" "order" "[I", Cond.fieldLink RX1 33 "CueTour$CueList" "times" "[I", Cond.fieldLink RX1 36 "CueTour$CueList" "into" "[I", Cond.fieldLink RX1 39 "CueTour$CueList" "made" "[[I", Cond.fieldLink RX1 42 "CueTour$CueList" "plays" "[I", Cond.fieldLink RX1 45 "CueTour$CueList" "playCount" "I", Cond.instanceMethod yX3_init, Cond.code yX3_init cX3_init 1 none, Cond.methodLink RX3 3 objectInit, Cond.fieldLink RX3 9 "CueTour$Rig" "homes" "[I", Cond.fieldLink RX3 15 "CueTour$Rig" "homeAreas" "[I", Cond.fieldLink RX3 18 "CueTour$Rig" "colours" "[I", Cond.fieldLink RX3 21 "CueTour$Rig" "powers" "[I", Cond.fieldLink RX3 24 "CueTour$Rig" "stages" "[I", Cond.fieldLink RX3 27 "CueTour$Rig" "areas" "[I", Cond.fieldLink RX3 30 "CueTour$Rig" "wears" "[I", Cond.fieldLink RX3 33 "CueTour$Rig" "burnt" "[I", Cond.fieldLink RX3 36 "CueTour$Rig" "count" "I", Cond.instanceMethod yX0_init, Cond.code yX0_init cX0_init 1 none]
def wsX5_init_r4 : List Cond := [Cond.methodLink RX0 3 objectInit, Cond.fieldLink RX0 9 "CueTour$Book" "stages" "[I", Cond.classLink RX0 15 "[[I", Cond.fieldLink RX0 17 "CueTour$Book" "shorts" "[[I", Cond.fieldLink RX0 20 "CueTour$Book" "count" "I"]
def wsX5_init : List Cond := .code yX5_init cX5_init 1 none :: ((wsX5_init_r1 ++ (wsX5_init_r2 ++ (wsX5_init_r3 ++ wsX5_init_r4))) ++ wsX40 ++ wsX50 ++ wsX20 ++ wsX10 ++ wsX30 ++ wsX00)
def wsX5_checkRange : List Cond := .code yX5_checkRange cX5_checkRange 3 none :: ([.classLink RX5 219 "java/lang/IllegalArgumentException", .initialized "java/lang/IllegalArgumentException"] ++ (vx_atS RX5 223 "java/lang/IllegalArgumentException" ["java/lang/RuntimeException", "java/lang/Exception"]).filter goodWord)
def wsX5_checkRoom : List Cond := .code yX5_checkRoom cX5_checkRoom 2 none :: ([.classLink RX5 224 "java/lang/IllegalStateException", .initialized "java/lang/IllegalStateException"] ++ (vx_atS RX5 228 "java/lang/IllegalStateException" ["java/lang/RuntimeException", "java/lang/Exception"]).filter goodWord)
def wsX5_addLine : List Cond := .code yX5_addLine cX5_addLine 2 (some .int) :: ([.fieldLink RX5 10 "CueTour" "script" "LCueTour$Script;", .methodLink RX5 56 yX5_checkRange, .static yX5_checkRange, .initialized RX5, .code yX5_checkRange cX5_checkRange 3 none, .classLink RX5 219 "java/lang/IllegalArgumentException", .initialized "java/lang/IllegalArgumentException", .methodLink RX5 64 yX5_checkRoom, .static yX5_checkRoom, .code yX5_checkRoom cX5_checkRoom 2 none, .classLink RX5 224 "java/lang/IllegalStateException", .initialized "java/lang/IllegalStateException", .methodLink RX5 68 yX4_append, .instanceMethod yX4_append, .selects RX4 yX4_append yX4_append, .initialized RX4, .code yX4_append cX4_append 2 (some .int), .fieldLink RX4 9 "CueTour$Script" "seconds" "[I", .fieldLink RX4 24 "CueTour$Script" "count" "I"] ++ wsX50 ++ wsX40 ++ (vx_atS RX5 223 "java/lang/IllegalArgumentException" ["java/lang/RuntimeException", "java/lang/Exception"]).filter goodWord ++ (vx_atS RX5 228 "java/lang/IllegalStateException" ["java/lang/RuntimeException", "java/lang/Exception"]).filter goodWord)
def wsX5_checkNumber : List Cond := .code yX5_checkNumber cX5_checkNumber 2 none :: ([.classLink RX5 212 "java/lang/IndexOutOfBoundsException", .initialized "java/lang/IndexOutOfBoundsException"] ++ (vx_atS RX5 216 "java/lang/IndexOutOfBoundsException" ["java/lang/RuntimeException", "java/lang/Exception"]).filter goodWord)
def wsX5_need : List Cond := .code yX5_need cX5_need 5 (some .int) :: ([.fieldLink RX5 10 "CueTour" "script" "LCueTour$Script;", .methodLink RX5 72 yX5_checkNumber, .static yX5_checkNumber, .initialized RX5, .code yX5_checkNumber cX5_checkNumber 2 none, .classLink RX5 212 "java/lang/IndexOutOfBoundsException", .initialized "java/lang/IndexOutOfBoundsException", .methodLink RX5 56 yX5_checkRange, .static yX5_checkRange, .code yX5_checkRange cX5_checkRange 3 none, .classLink RX5 219 "java/lang/IllegalArgumentException", .initialized "java/lang/IllegalArgumentException"] ++ wsX50 ++ wsX40 ++ (vx_atS RX5 216 "java/lang/IndexOutOfBoundsException" ["java/lang/RuntimeException", "java/lang/Exception"]).filter goodWord ++ (vx_atS RX5 223 "java/lang/IllegalArgumentException" ["java/lang/RuntimeException", "java/lang/Exception"]).filter goodWord)
def wsX5_cut_r1 : List Cond := [Cond.fieldLink RX5 10 "CueTour" "script" "LCueTour$Script;", Cond.fieldLink RX5 26 "CueTour" "cueList" "LCueTour$CueList;", Cond.methodLink RX5 72 yX5_checkNumber, Cond.static yX5_checkNumber, Cond.initialized RX5, Cond.code yX5_checkNumber cX5_checkNumber 2 none, Cond.classLink RX5 212 "java/lang/IndexOutOfBoundsException", Cond.initialized "java/lang/IndexOutOfBoundsException", Cond.methodLink RX5 82 yX1_arrange, Cond.instanceMethod yX1_arrange, Cond.selects RX1 yX1_arrange yX1_arrange, Cond.initialized RX1, Cond.code yX1_arrange cX1_arrange 2 none, Cond.methodLink RX1 48 yX1_sortCues, Cond.instanceMethod yX1_sortCues, Cond.selects RX1 yX1_sortCues yX1_sortCues, Cond.code yX1_sortCues cX1_sortCues 3 none, Cond.fieldLink RX1 26 "CueTour$CueList" "count" "I", Cond.fieldLink RX1 30 "CueTour$CueList" "order" "[I", Cond.methodLink RX1 61 yX1_comesAhead, Cond.instanceMethod yX1_comesAhead, Cond.selects RX1 yX1_comesAhead yX1_comesAhead, Cond.code yX1_comesAhead cX1_comesAhead 3 (some .boolean), Cond.fieldLink RX1 9 "CueTour$CueList" "lineOf" "[I"]
def wsX5_cut_r2 : List Cond := [Cond.fieldLink RX1 15 "CueTour$CueList" "offsets" "[I", Cond.methodLink RX1 51 yX1_setTimes, Cond.instanceMethod yX1_setTimes, Cond.selects RX1 yX1_setTimes yX1_setTimes, Cond.code yX1_setTimes cX1_setTimes 4 none, Cond.fieldLink RX1 33 "CueTour$CueList" "times" "[I", Cond.methodLink RX1 71 yX4_secondsAhead, Cond.instanceMethod yX4_secondsAhead, Cond.selects RX4 yX4_secondsAhead yX4_secondsAhead, Cond.initialized RX4, Cond.code yX4_secondsAhead cX4_secondsAhead 4 (some .int), Cond.fieldLink RX4 15 "CueTour$Script" "isOut" "[Z", Cond.fieldLink RX4 9 "CueTour$Script" "seconds" "[I", Cond.methodLink RX1 55 yX1_fold, Cond.instanceMethod yX1_fold, Cond.selects RX1 yX1_fold yX1_fold, Cond.code yX1_fold cX1_fold 4 none, Cond.fieldLink RX1 36 "CueTour$CueList" "into" "[I", Cond.methodLink RX1 75 yX1_forget, Cond.instanceMethod yX1_forget, Cond.selects RX1 yX1_forget yX1_forget, Cond.code yX1_forget cX1_forget 3 none, Cond.fieldLink RX1 39 "CueTour$CueList" "made" "[[I", Cond.methodLink RX1 79 yX1_fillIn]
def wsX5_cut_r3 : List Cond := [Cond.instanceMethod yX1_fillIn, Cond.selects RX1 yX1_fillIn yX1_fillIn, Cond.code yX1_fillIn cX1_fillIn 4 none, Cond.fieldLink RX1 23 "CueTour$CueList" "own" "[[I", Cond.methodLink RX1 58 yX1_sortPlays, Cond.instanceMethod yX1_sortPlays, Cond.selects RX1 yX1_sortPlays yX1_sortPlays, Cond.code yX1_sortPlays cX1_sortPlays 2 none, Cond.fieldLink RX1 45 "CueTour$CueList" "playCount" "I", Cond.methodLink RX1 83 yX1_insertPlay, Cond.instanceMethod yX1_insertPlay, Cond.selects RX1 yX1_insertPlay yX1_insertPlay, Cond.code yX1_insertPlay cX1_insertPlay 3 none, Cond.fieldLink RX1 42 "CueTour$CueList" "plays" "[I", Cond.methodLink RX5 86 yX4_total, Cond.instanceMethod yX4_total, Cond.selects RX4 yX4_total yX4_total, Cond.code yX4_total cX4_total 1 (some .int), Cond.fieldLink RX4 24 "CueTour$Script" "count" "I", Cond.methodLink RX4 28 yX4_secondsAhead]
def wsX5_cut : List Cond := .code yX5_cut cX5_cut 3 (some .int) :: ((wsX5_cut_r1 ++ (wsX5_cut_r2 ++ wsX5_cut_r3)) ++ wsX50 ++ wsX40 ++ wsX10 ++ (vx_atS RX5 216 "java/lang/IndexOutOfBoundsException" ["java/lang/RuntimeException", "java/lang/Exception"]).filter goodWord)
def wsX5_lines : List Cond := .code yX5_lines cX5_lines 1 (some .int) :: ([.fieldLink RX5 10 "CueTour" "script" "LCueTour$Script;"] ++ wsX50 ++ wsX40)
def wsX5_startOf : List Cond := .code yX5_startOf cX5_startOf 2 (some .int) :: ([.fieldLink RX5 10 "CueTour" "script" "LCueTour$Script;", .methodLink RX5 72 yX5_checkNumber, .static yX5_checkNumber, .initialized RX5, .code yX5_checkNumber cX5_checkNumber 2 none, .classLink RX5 212 "java/lang/IndexOutOfBoundsException", .initialized "java/lang/IndexOutOfBoundsException", .methodLink RX5 90 yX4_secondsAhead, .instanceMethod yX4_secondsAhead, .selects RX4 yX4_secondsAhead yX4_secondsAhead, .initialized RX4, .code yX4_secondsAhead cX4_secondsAhead 4 (some .int), .fieldLink RX4 15 "CueTour$Script" "isOut" "[Z", .fieldLink RX4 9 "CueTour$Script" "seconds" "[I"] ++ wsX50 ++ wsX40 ++ (vx_atS RX5 216 "java/lang/IndexOutOfBoundsException" ["java/lang/RuntimeException", "java/lang/Exception"]).filter goodWord)
def wsX5_length : List Cond := .code yX5_length cX5_length 1 (some .int) :: ([.fieldLink RX5 10 "CueTour" "script" "LCueTour$Script;", .methodLink RX5 86 yX4_total, .instanceMethod yX4_total, .selects RX4 yX4_total yX4_total, .initialized RX4, .code yX4_total cX4_total 1 (some .int), .fieldLink RX4 24 "CueTour$Script" "count" "I", .methodLink RX4 28 yX4_secondsAhead, .instanceMethod yX4_secondsAhead, .selects RX4 yX4_secondsAhead yX4_secondsAhead, .code yX4_secondsAhead cX4_secondsAhead 4 (some .int), .fieldLink RX4 15 "CueTour$Script" "isOut" "[Z", .fieldLink RX4 9 "CueTour$Script" "seconds" "[I"] ++ wsX50 ++ wsX40)
def wsX5_setChannel : List Cond := .code yX5_setChannel cX5_setChannel 5 (some .int) :: ([.fieldLink RX5 19 "CueTour" "patch" "LCueTour$Patch;", .methodLink RX5 72 yX5_checkNumber, .static yX5_checkNumber, .initialized RX5, .code yX5_checkNumber cX5_checkNumber 2 none, .classLink RX5 212 "java/lang/IndexOutOfBoundsException", .initialized "java/lang/IndexOutOfBoundsException", .methodLink RX5 56 yX5_checkRange, .static yX5_checkRange, .code yX5_checkRange cX5_checkRange 3 none, .classLink RX5 219 "java/lang/IllegalArgumentException", .initialized "java/lang/IllegalArgumentException"] ++ wsX50 ++ wsX20 ++ (vx_atS RX5 216 "java/lang/IndexOutOfBoundsException" ["java/lang/RuntimeException", "java/lang/Exception"]).filter goodWord ++ (vx_atS RX5 223 "java/lang/IllegalArgumentException" ["java/lang/RuntimeException", "java/lang/Exception"]).filter goodWord)
def wsX5_addCue_r1 : List Cond := [Cond.fieldLink RX5 10 "CueTour" "script" "LCueTour$Script;", Cond.fieldLink RX5 26 "CueTour" "cueList" "LCueTour$CueList;", Cond.methodLink RX5 72 yX5_checkNumber, Cond.static yX5_checkNumber, Cond.initialized RX5, Cond.code yX5_checkNumber cX5_checkNumber 2 none, Cond.classLink RX5 212 "java/lang/IndexOutOfBoundsException", Cond.initialized "java/lang/IndexOutOfBoundsException", Cond.methodLink RX5 56 yX5_checkRange, Cond.static yX5_checkRange, Cond.code yX5_checkRange cX5_checkRange 3 none, Cond.classLink RX5 219 "java/lang/IllegalArgumentException", Cond.initialized "java/lang/IllegalArgumentException", Cond.methodLink RX5 64 yX5_checkRoom, Cond.static yX5_checkRoom, Cond.code yX5_checkRoom cX5_checkRoom 2 none, Cond.classLink RX5 224 "java/lang/IllegalStateException", Cond.initialized "java/lang/IllegalStateException", Cond.methodLink RX5 100 yX1_append, Cond.instanceMethod yX1_append, Cond.selects RX1 yX1_append yX1_append, Cond.initialized RX1, Cond.code yX1_append cX1_append 2 (some .int), Cond.fieldLink RX1 23 "CueTour$CueList" "own" "[[I"]
def wsX5_addCue_r2 : List Cond := [Cond.fieldLink RX1 26 "CueTour$CueList" "count" "I", Cond.methodLink RX5 102 yX1_place, Cond.instanceMethod yX1_place, Cond.selects RX1 yX1_place yX1_place, Cond.code yX1_place cX1_place 5 none, Cond.fieldLink RX1 9 "CueTour$CueList" "lineOf" "[I", Cond.fieldLink RX1 15 "CueTour$CueList" "offsets" "[I", Cond.fieldLink RX1 18 "CueTour$CueList" "fades" "[I", Cond.methodLink RX5 82 yX1_arrange, Cond.instanceMethod yX1_arrange, Cond.selects RX1 yX1_arrange yX1_arrange, Cond.code yX1_arrange cX1_arrange 2 none, Cond.methodLink RX1 48 yX1_sortCues, Cond.instanceMethod yX1_sortCues, Cond.selects RX1 yX1_sortCues yX1_sortCues, Cond.code yX1_sortCues cX1_sortCues 3 none, Cond.fieldLink RX1 30 "CueTour$CueList" "order" "[I", Cond.methodLink RX1 61 yX1_comesAhead, Cond.instanceMethod yX1_comesAhead, Cond.selects RX1 yX1_comesAhead yX1_comesAhead, Cond.code yX1_comesAhead cX1_comesAhead 3 (some .boolean), Cond.methodLink RX1 51 yX1_setTimes, Cond.instanceMethod yX1_setTimes, Cond.selects RX1 yX1_setTimes yX1_setTimes]
def wsX5_addCue_r3 : List Cond := [Cond.code yX1_setTimes cX1_setTimes 4 none, Cond.fieldLink RX1 33 "CueTour$CueList" "times" "[I", Cond.methodLink RX1 71 yX4_secondsAhead, Cond.instanceMethod yX4_secondsAhead, Cond.selects RX4 yX4_secondsAhead yX4_secondsAhead, Cond.initialized RX4, Cond.code yX4_secondsAhead cX4_secondsAhead 4 (some .int), Cond.fieldLink RX4 15 "CueTour$Script" "isOut" "[Z", Cond.fieldLink RX4 9 "CueTour$Script" "seconds" "[I", Cond.methodLink RX1 55 yX1_fold, Cond.instanceMethod yX1_fold, Cond.selects RX1 yX1_fold yX1_fold, Cond.code yX1_fold cX1_fold 4 none, Cond.fieldLink RX1 36 "CueTour$CueList" "into" "[I", Cond.methodLink RX1 75 yX1_forget, Cond.instanceMethod yX1_forget, Cond.selects RX1 yX1_forget yX1_forget, Cond.code yX1_forget cX1_forget 3 none, Cond.fieldLink RX1 39 "CueTour$CueList" "made" "[[I", Cond.methodLink RX1 79 yX1_fillIn, Cond.instanceMethod yX1_fillIn, Cond.selects RX1 yX1_fillIn yX1_fillIn, Cond.code yX1_fillIn cX1_fillIn 4 none, Cond.methodLink RX1 58 yX1_sortPlays]
def wsX5_addCue_r4 : List Cond := [Cond.instanceMethod yX1_sortPlays, Cond.selects RX1 yX1_sortPlays yX1_sortPlays, Cond.code yX1_sortPlays cX1_sortPlays 2 none, Cond.fieldLink RX1 45 "CueTour$CueList" "playCount" "I", Cond.methodLink RX1 83 yX1_insertPlay, Cond.instanceMethod yX1_insertPlay, Cond.selects RX1 yX1_insertPlay yX1_insertPlay, Cond.code yX1_insertPlay cX1_insertPlay 3 none, Cond.fieldLink RX1 42 "CueTour$CueList" "plays" "[I"]
def wsX5_addCue : List Cond := .code yX5_addCue cX5_addCue 5 (some .int) :: ((wsX5_addCue_r1 ++ (wsX5_addCue_r2 ++ (wsX5_addCue_r3 ++ wsX5_addCue_r4))) ++ wsX50 ++ wsX40 ++ wsX10 ++ (vx_atS RX5 216 "java/lang/IndexOutOfBoundsException" ["java/lang/RuntimeException", "java/lang/Exception"]).filter goodWord ++ (vx_atS RX5 223 "java/lang/IllegalArgumentException" ["java/lang/RuntimeException", "java/lang/Exception"]).filter goodWord ++ (vx_atS RX5 228 "java/lang/IllegalStateException" ["java/lang/RuntimeException", "java/lang/Exception"]).filter goodWord)
def wsX5_move_r1 : List Cond := [Cond.fieldLink RX5 26 "CueTour" "cueList" "LCueTour$CueList;", Cond.fieldLink RX5 10 "CueTour" "script" "LCueTour$Script;", Cond.methodLink RX5 72 yX5_checkNumber, Cond.static yX5_checkNumber, Cond.initialized RX5, Cond.code yX5_checkNumber cX5_checkNumber 2 none, Cond.classLink RX5 212 "java/lang/IndexOutOfBoundsException", Cond.initialized "java/lang/IndexOutOfBoundsException", Cond.methodLink RX5 56 yX5_checkRange, Cond.static yX5_checkRange, Cond.code yX5_checkRange cX5_checkRange 3 none, Cond.classLink RX5 219 "java/lang/IllegalArgumentException", Cond.initialized "java/lang/IllegalArgumentException", Cond.methodLink RX5 102 yX1_place, Cond.instanceMethod yX1_place, Cond.selects RX1 yX1_place yX1_place, Cond.initialized RX1, Cond.code yX1_place cX1_place 5 none, Cond.fieldLink RX1 9 "CueTour$CueList" "lineOf" "[I", Cond.fieldLink RX1 15 "CueTour$CueList" "offsets" "[I", Cond.fieldLink RX1 18 "CueTour$CueList" "fades" "[I", Cond.methodLink RX5 82 yX1_arrange, Cond.instanceMethod yX1_arrange, Cond.selects RX1 yX1_arrange yX1_arrange]
def wsX5_move_r2 : List Cond := [Cond.code yX1_arrange cX1_arrange 2 none, Cond.methodLink RX1 48 yX1_sortCues, Cond.instanceMethod yX1_sortCues, Cond.selects RX1 yX1_sortCues yX1_sortCues, Cond.code yX1_sortCues cX1_sortCues 3 none, Cond.fieldLink RX1 26 "CueTour$CueList" "count" "I", Cond.fieldLink RX1 30 "CueTour$CueList" "order" "[I", Cond.methodLink RX1 61 yX1_comesAhead, Cond.instanceMethod yX1_comesAhead, Cond.selects RX1 yX1_comesAhead yX1_comesAhead, Cond.code yX1_comesAhead cX1_comesAhead 3 (some .boolean), Cond.methodLink RX1 51 yX1_setTimes, Cond.instanceMethod yX1_setTimes, Cond.selects RX1 yX1_setTimes yX1_setTimes, Cond.code yX1_setTimes cX1_setTimes 4 none, Cond.fieldLink RX1 33 "CueTour$CueList" "times" "[I", Cond.methodLink RX1 71 yX4_secondsAhead, Cond.instanceMethod yX4_secondsAhead, Cond.selects RX4 yX4_secondsAhead yX4_secondsAhead, Cond.initialized RX4, Cond.code yX4_secondsAhead cX4_secondsAhead 4 (some .int), Cond.fieldLink RX4 15 "CueTour$Script" "isOut" "[Z", Cond.fieldLink RX4 9 "CueTour$Script" "seconds" "[I", Cond.methodLink RX1 55 yX1_fold]
def wsX5_move_r3 : List Cond := [Cond.instanceMethod yX1_fold, Cond.selects RX1 yX1_fold yX1_fold, Cond.code yX1_fold cX1_fold 4 none, Cond.fieldLink RX1 36 "CueTour$CueList" "into" "[I", Cond.methodLink RX1 75 yX1_forget, Cond.instanceMethod yX1_forget, Cond.selects RX1 yX1_forget yX1_forget, Cond.code yX1_forget cX1_forget 3 none, Cond.fieldLink RX1 39 "CueTour$CueList" "made" "[[I", Cond.methodLink RX1 79 yX1_fillIn, Cond.instanceMethod yX1_fillIn, Cond.selects RX1 yX1_fillIn yX1_fillIn, Cond.code yX1_fillIn cX1_fillIn 4 none, Cond.fieldLink RX1 23 "CueTour$CueList" "own" "[[I", Cond.methodLink RX1 58 yX1_sortPlays, Cond.instanceMethod yX1_sortPlays, Cond.selects RX1 yX1_sortPlays yX1_sortPlays, Cond.code yX1_sortPlays cX1_sortPlays 2 none, Cond.fieldLink RX1 45 "CueTour$CueList" "playCount" "I", Cond.methodLink RX1 83 yX1_insertPlay, Cond.instanceMethod yX1_insertPlay, Cond.selects RX1 yX1_insertPlay yX1_insertPlay, Cond.code yX1_insertPlay cX1_insertPlay 3 none, Cond.fieldLink RX1 42 "CueTour$CueList" "plays" "[I"]
def wsX5_move : List Cond := .code yX5_move cX5_move 6 (some .int) :: ((wsX5_move_r1 ++ (wsX5_move_r2 ++ wsX5_move_r3)) ++ wsX50 ++ wsX10 ++ wsX40 ++ (vx_atS RX5 216 "java/lang/IndexOutOfBoundsException" ["java/lang/RuntimeException", "java/lang/Exception"]).filter goodWord ++ (vx_atS RX5 223 "java/lang/IllegalArgumentException" ["java/lang/RuntimeException", "java/lang/Exception"]).filter goodWord)
def wsX5_change_r1 : List Cond := [Cond.fieldLink RX5 26 "CueTour" "cueList" "LCueTour$CueList;", Cond.fieldLink RX5 10 "CueTour" "script" "LCueTour$Script;", Cond.methodLink RX5 72 yX5_checkNumber, Cond.static yX5_checkNumber, Cond.initialized RX5, Cond.code yX5_checkNumber cX5_checkNumber 2 none, Cond.classLink RX5 212 "java/lang/IndexOutOfBoundsException", Cond.initialized "java/lang/IndexOutOfBoundsException", Cond.methodLink RX5 56 yX5_checkRange, Cond.static yX5_checkRange, Cond.code yX5_checkRange cX5_checkRange 3 none, Cond.classLink RX5 219 "java/lang/IllegalArgumentException", Cond.initialized "java/lang/IllegalArgumentException", Cond.methodLink RX5 82 yX1_arrange, Cond.instanceMethod yX1_arrange, Cond.selects RX1 yX1_arrange yX1_arrange, Cond.initialized RX1, Cond.code yX1_arrange cX1_arrange 2 none, Cond.methodLink RX1 48 yX1_sortCues, Cond.instanceMethod yX1_sortCues, Cond.selects RX1 yX1_sortCues yX1_sortCues, Cond.code yX1_sortCues cX1_sortCues 3 none, Cond.fieldLink RX1 26 "CueTour$CueList" "count" "I", Cond.fieldLink RX1 30 "CueTour$CueList" "order" "[I"]
def wsX5_change_r2 : List Cond := [Cond.methodLink RX1 61 yX1_comesAhead, Cond.instanceMethod yX1_comesAhead, Cond.selects RX1 yX1_comesAhead yX1_comesAhead, Cond.code yX1_comesAhead cX1_comesAhead 3 (some .boolean), Cond.fieldLink RX1 9 "CueTour$CueList" "lineOf" "[I", Cond.fieldLink RX1 15 "CueTour$CueList" "offsets" "[I", Cond.methodLink RX1 51 yX1_setTimes, Cond.instanceMethod yX1_setTimes, Cond.selects RX1 yX1_setTimes yX1_setTimes, Cond.code yX1_setTimes cX1_setTimes 4 none, Cond.fieldLink RX1 33 "CueTour$CueList" "times" "[I", Cond.methodLink RX1 71 yX4_secondsAhead, Cond.instanceMethod yX4_secondsAhead, Cond.selects RX4 yX4_secondsAhead yX4_secondsAhead, Cond.initialized RX4, Cond.code yX4_secondsAhead cX4_secondsAhead 4 (some .int), Cond.fieldLink RX4 15 "CueTour$Script" "isOut" "[Z", Cond.fieldLink RX4 9 "CueTour$Script" "seconds" "[I", Cond.methodLink RX1 55 yX1_fold, Cond.instanceMethod yX1_fold, Cond.selects RX1 yX1_fold yX1_fold, Cond.code yX1_fold cX1_fold 4 none, Cond.fieldLink RX1 36 "CueTour$CueList" "into" "[I", Cond.methodLink RX1 75 yX1_forget]
def wsX5_change_r3 : List Cond := [Cond.instanceMethod yX1_forget, Cond.selects RX1 yX1_forget yX1_forget, Cond.code yX1_forget cX1_forget 3 none, Cond.fieldLink RX1 39 "CueTour$CueList" "made" "[[I", Cond.methodLink RX1 79 yX1_fillIn, Cond.instanceMethod yX1_fillIn, Cond.selects RX1 yX1_fillIn yX1_fillIn, Cond.code yX1_fillIn cX1_fillIn 4 none, Cond.fieldLink RX1 23 "CueTour$CueList" "own" "[[I", Cond.methodLink RX1 58 yX1_sortPlays, Cond.instanceMethod yX1_sortPlays, Cond.selects RX1 yX1_sortPlays yX1_sortPlays, Cond.code yX1_sortPlays cX1_sortPlays 2 none, Cond.fieldLink RX1 45 "CueTour$CueList" "playCount" "I", Cond.methodLink RX1 83 yX1_insertPlay, Cond.instanceMethod yX1_insertPlay, Cond.selects RX1 yX1_insertPlay yX1_insertPlay, Cond.code yX1_insertPlay cX1_insertPlay 3 none, Cond.fieldLink RX1 42 "CueTour$CueList" "plays" "[I"]
def wsX5_change : List Cond := .code yX5_change cX5_change 5 (some .int) :: ((wsX5_change_r1 ++ (wsX5_change_r2 ++ wsX5_change_r3)) ++ wsX50 ++ wsX10 ++ wsX40 ++ (vx_atS RX5 216 "java/lang/IndexOutOfBoundsException" ["java/lang/RuntimeException", "java/lang/Exception"]).filter goodWord ++ (vx_atS RX5 223 "java/lang/IllegalArgumentException" ["java/lang/RuntimeException", "java/lang/Exception"]).filter goodWord)
def wsX5_cues : List Cond := .code yX5_cues cX5_cues 1 (some .int) :: ([.fieldLink RX5 26 "CueTour" "cueList" "LCueTour$CueList;"] ++ wsX50 ++ wsX10)
def wsX5_cueAt : List Cond := .code yX5_cueAt cX5_cueAt 2 (some .int) :: ([.fieldLink RX5 26 "CueTour" "cueList" "LCueTour$CueList;", .methodLink RX5 72 yX5_checkNumber, .static yX5_checkNumber, .initialized RX5, .code yX5_checkNumber cX5_checkNumber 2 none, .classLink RX5 212 "java/lang/IndexOutOfBoundsException", .initialized "java/lang/IndexOutOfBoundsException"] ++ wsX50 ++ wsX10 ++ (vx_atS RX5 216 "java/lang/IndexOutOfBoundsException" ["java/lang/RuntimeException", "java/lang/Exception"]).filter goodWord)
def wsX5_timeOf : List Cond := .code yX5_timeOf cX5_timeOf 2 (some .int) :: ([.fieldLink RX5 26 "CueTour" "cueList" "LCueTour$CueList;", .methodLink RX5 72 yX5_checkNumber, .static yX5_checkNumber, .initialized RX5, .code yX5_checkNumber cX5_checkNumber 2 none, .classLink RX5 212 "java/lang/IndexOutOfBoundsException", .initialized "java/lang/IndexOutOfBoundsException"] ++ wsX50 ++ wsX10 ++ (vx_atS RX5 216 "java/lang/IndexOutOfBoundsException" ["java/lang/RuntimeException", "java/lang/Exception"]).filter goodWord)
def wsX5_foldedInto : List Cond := .code yX5_foldedInto cX5_foldedInto 2 (some .int) :: ([.fieldLink RX5 26 "CueTour" "cueList" "LCueTour$CueList;", .methodLink RX5 72 yX5_checkNumber, .static yX5_checkNumber, .initialized RX5, .code yX5_checkNumber cX5_checkNumber 2 none, .classLink RX5 212 "java/lang/IndexOutOfBoundsException", .initialized "java/lang/IndexOutOfBoundsException"] ++ wsX50 ++ wsX10 ++ (vx_atS RX5 216 "java/lang/IndexOutOfBoundsException" ["java/lang/RuntimeException", "java/lang/Exception"]).filter goodWord)
def wsX5_changes : List Cond := .code yX5_changes cX5_changes 3 (some .int) :: ([.fieldLink RX5 26 "CueTour" "cueList" "LCueTour$CueList;", .methodLink RX5 72 yX5_checkNumber, .static yX5_checkNumber, .initialized RX5, .code yX5_checkNumber cX5_checkNumber 2 none, .classLink RX5 212 "java/lang/IndexOutOfBoundsException", .initialized "java/lang/IndexOutOfBoundsException"] ++ wsX50 ++ wsX10 ++ (vx_atS RX5 216 "java/lang/IndexOutOfBoundsException" ["java/lang/RuntimeException", "java/lang/Exception"]).filter goodWord)
def wsX5_levelAt_r1 : List Cond := [Cond.fieldLink RX5 26 "CueTour" "cueList" "LCueTour$CueList;", Cond.methodLink RX5 72 yX5_checkNumber, Cond.static yX5_checkNumber, Cond.initialized RX5, Cond.code yX5_checkNumber cX5_checkNumber 2 none, Cond.classLink RX5 212 "java/lang/IndexOutOfBoundsException", Cond.initialized "java/lang/IndexOutOfBoundsException", Cond.methodLink RX5 56 yX5_checkRange, Cond.static yX5_checkRange, Cond.code yX5_checkRange cX5_checkRange 3 none, Cond.classLink RX5 219 "java/lang/IllegalArgumentException", Cond.initialized "java/lang/IllegalArgumentException", Cond.methodLink RX5 124 yX1_levelByFades, Cond.instanceMethod yX1_levelByFades, Cond.selects RX1 yX1_levelByFades yX1_levelByFades, Cond.initialized RX1, Cond.code yX1_levelByFades cX1_levelByFades 9 (some .int), Cond.fieldLink RX1 45 "CueTour$CueList" "playCount" "I", Cond.fieldLink RX1 33 "CueTour$CueList" "times" "[I", Cond.fieldLink RX1 42 "CueTour$CueList" "plays" "[I", Cond.fieldLink RX1 39 "CueTour$CueList" "made" "[[I", Cond.fieldLink RX1 18 "CueTour$CueList" "fades" "[I", Cond.methodLink RX1 86 yX1_levelBehind, Cond.static yX1_levelBehind]
def wsX5_levelAt_r2 : List Cond := [Cond.code yX1_levelBehind cX1_levelBehind 4 (some .int)]
def wsX5_levelAt : List Cond := .code yX5_levelAt cX5_levelAt 3 (some .int) :: ((wsX5_levelAt_r1 ++ wsX5_levelAt_r2) ++ wsX50 ++ wsX10 ++ (vx_atS RX5 216 "java/lang/IndexOutOfBoundsException" ["java/lang/RuntimeException", "java/lang/Exception"]).filter goodWord ++ (vx_atS RX5 223 "java/lang/IllegalArgumentException" ["java/lang/RuntimeException", "java/lang/Exception"]).filter goodWord)
def wsX5_levelBySeconds_r1 : List Cond := [Cond.fieldLink RX5 26 "CueTour" "cueList" "LCueTour$CueList;", Cond.methodLink RX5 72 yX5_checkNumber, Cond.static yX5_checkNumber, Cond.initialized RX5, Cond.code yX5_checkNumber cX5_checkNumber 2 none, Cond.classLink RX5 212 "java/lang/IndexOutOfBoundsException", Cond.initialized "java/lang/IndexOutOfBoundsException", Cond.methodLink RX5 56 yX5_checkRange, Cond.static yX5_checkRange, Cond.code yX5_checkRange cX5_checkRange 3 none, Cond.classLink RX5 219 "java/lang/IllegalArgumentException", Cond.initialized "java/lang/IllegalArgumentException", Cond.methodLink RX5 128 yX1_levelByTicks, Cond.instanceMethod yX1_levelByTicks, Cond.selects RX1 yX1_levelByTicks yX1_levelByTicks, Cond.initialized RX1, Cond.code yX1_levelByTicks cX1_levelByTicks 11 (some .int), Cond.fieldLink RX1 45 "CueTour$CueList" "playCount" "I", Cond.fieldLink RX1 33 "CueTour$CueList" "times" "[I", Cond.fieldLink RX1 42 "CueTour$CueList" "plays" "[I", Cond.fieldLink RX1 39 "CueTour$CueList" "made" "[[I", Cond.fieldLink RX1 18 "CueTour$CueList" "fades" "[I", Cond.methodLink RX1 86 yX1_levelBehind, Cond.static yX1_levelBehind]
def wsX5_levelBySeconds_r2 : List Cond := [Cond.code yX1_levelBehind cX1_levelBehind 4 (some .int)]
def wsX5_levelBySeconds : List Cond := .code yX5_levelBySeconds cX5_levelBySeconds 3 (some .int) :: ((wsX5_levelBySeconds_r1 ++ wsX5_levelBySeconds_r2) ++ wsX50 ++ wsX10 ++ (vx_atS RX5 216 "java/lang/IndexOutOfBoundsException" ["java/lang/RuntimeException", "java/lang/Exception"]).filter goodWord ++ (vx_atS RX5 223 "java/lang/IllegalArgumentException" ["java/lang/RuntimeException", "java/lang/Exception"]).filter goodWord)
def wsX5_addLamp_r1 : List Cond := [Cond.fieldLink RX5 33 "CueTour" "rig" "LCueTour$Rig;", Cond.methodLink RX5 72 yX5_checkNumber, Cond.static yX5_checkNumber, Cond.initialized RX5, Cond.code yX5_checkNumber cX5_checkNumber 2 none, Cond.classLink RX5 212 "java/lang/IndexOutOfBoundsException", Cond.initialized "java/lang/IndexOutOfBoundsException", Cond.methodLink RX5 56 yX5_checkRange, Cond.static yX5_checkRange, Cond.code yX5_checkRange cX5_checkRange 3 none, Cond.classLink RX5 219 "java/lang/IllegalArgumentException", Cond.initialized "java/lang/IllegalArgumentException", Cond.methodLink RX5 64 yX5_checkRoom, Cond.static yX5_checkRoom, Cond.code yX5_checkRoom cX5_checkRoom 2 none, Cond.classLink RX5 224 "java/lang/IllegalStateException", Cond.initialized "java/lang/IllegalStateException", Cond.methodLink RX5 132 yX3_append, Cond.instanceMethod yX3_append, Cond.selects RX3 yX3_append yX3_append, Cond.initialized RX3, Cond.code yX3_append cX3_append 6 (some .int), Cond.fieldLink RX3 36 "CueTour$Rig" "count" "I", Cond.fieldLink RX3 9 "CueTour$Rig" "homes" "[I"]
def wsX5_addLamp_r2 : List Cond := [Cond.fieldLink RX3 15 "CueTour$Rig" "homeAreas" "[I", Cond.fieldLink RX3 18 "CueTour$Rig" "colours" "[I", Cond.fieldLink RX3 21 "CueTour$Rig" "powers" "[I", Cond.methodLink RX3 40 yX3_putHome, Cond.instanceMethod yX3_putHome, Cond.selects RX3 yX3_putHome yX3_putHome, Cond.code yX3_putHome cX3_putHome 2 none, Cond.methodLink RX3 48 yX3_put, Cond.instanceMethod yX3_put, Cond.selects RX3 yX3_put yX3_put, Cond.code yX3_put cX3_put 4 none, Cond.fieldLink RX3 24 "CueTour$Rig" "stages" "[I", Cond.fieldLink RX3 27 "CueTour$Rig" "areas" "[I"]
def wsX5_addLamp : List Cond := .code yX5_addLamp cX5_addLamp 5 (some .int) :: ((wsX5_addLamp_r1 ++ wsX5_addLamp_r2) ++ wsX50 ++ wsX30 ++ (vx_atS RX5 216 "java/lang/IndexOutOfBoundsException" ["java/lang/RuntimeException", "java/lang/Exception"]).filter goodWord ++ (vx_atS RX5 223 "java/lang/IllegalArgumentException" ["java/lang/RuntimeException", "java/lang/Exception"]).filter goodWord ++ (vx_atS RX5 228 "java/lang/IllegalStateException" ["java/lang/RuntimeException", "java/lang/Exception"]).filter goodWord)
def wsX5_checkState : List Cond := .code yX5_checkState cX5_checkState 1 none :: ([.classLink RX5 224 "java/lang/IllegalStateException", .initialized "java/lang/IllegalStateException"] ++ (vx_atS RX5 228 "java/lang/IllegalStateException" ["java/lang/RuntimeException", "java/lang/Exception"]).filter goodWord)
def wsX5_borrow_r1 : List Cond := [Cond.fieldLink RX5 33 "CueTour" "rig" "LCueTour$Rig;", Cond.methodLink RX5 72 yX5_checkNumber, Cond.static yX5_checkNumber, Cond.initialized RX5, Cond.code yX5_checkNumber cX5_checkNumber 2 none, Cond.classLink RX5 212 "java/lang/IndexOutOfBoundsException", Cond.initialized "java/lang/IndexOutOfBoundsException", Cond.methodLink RX5 135 yX3_canGo, Cond.instanceMethod yX3_canGo, Cond.selects RX3 yX3_canGo yX3_canGo, Cond.initialized RX3, Cond.code yX3_canGo cX3_canGo 3 (some .boolean), Cond.fieldLink RX3 9 "CueTour$Rig" "homes" "[I", Cond.methodLink RX3 44 yX3_isHome, Cond.instanceMethod yX3_isHome, Cond.selects RX3 yX3_isHome yX3_isHome, Cond.code yX3_isHome cX3_isHome 2 (some .boolean), Cond.fieldLink RX3 24 "CueTour$Rig" "stages" "[I", Cond.methodLink RX5 139 yX5_checkState, Cond.static yX5_checkState, Cond.code yX5_checkState cX5_checkState 1 none, Cond.classLink RX5 224 "java/lang/IllegalStateException", Cond.initialized "java/lang/IllegalStateException", Cond.methodLink RX5 143 yX3_put]
def wsX5_borrow_r2 : List Cond := [Cond.instanceMethod yX3_put, Cond.selects RX3 yX3_put yX3_put, Cond.code yX3_put cX3_put 4 none, Cond.fieldLink RX3 27 "CueTour$Rig" "areas" "[I"]
def wsX5_borrow : List Cond := .code yX5_borrow cX5_borrow 4 (some .int) :: ((wsX5_borrow_r1 ++ wsX5_borrow_r2) ++ wsX50 ++ wsX30 ++ (vx_atS RX5 216 "java/lang/IndexOutOfBoundsException" ["java/lang/RuntimeException", "java/lang/Exception"]).filter goodWord ++ (vx_atS RX5 228 "java/lang/IllegalStateException" ["java/lang/RuntimeException", "java/lang/Exception"]).filter goodWord)
def wsX5_bringBack_r1 : List Cond := [Cond.fieldLink RX5 33 "CueTour" "rig" "LCueTour$Rig;", Cond.methodLink RX5 72 yX5_checkNumber, Cond.static yX5_checkNumber, Cond.initialized RX5, Cond.code yX5_checkNumber cX5_checkNumber 2 none, Cond.classLink RX5 212 "java/lang/IndexOutOfBoundsException", Cond.initialized "java/lang/IndexOutOfBoundsException", Cond.methodLink RX5 149 yX3_isHome, Cond.instanceMethod yX3_isHome, Cond.selects RX3 yX3_isHome yX3_isHome, Cond.initialized RX3, Cond.code yX3_isHome cX3_isHome 2 (some .boolean), Cond.fieldLink RX3 24 "CueTour$Rig" "stages" "[I", Cond.fieldLink RX3 9 "CueTour$Rig" "homes" "[I", Cond.methodLink RX5 139 yX5_checkState, Cond.static yX5_checkState, Cond.code yX5_checkState cX5_checkState 1 none, Cond.classLink RX5 224 "java/lang/IllegalStateException", Cond.initialized "java/lang/IllegalStateException", Cond.methodLink RX5 156 yX3_putHome, Cond.instanceMethod yX3_putHome, Cond.selects RX3 yX3_putHome yX3_putHome, Cond.code yX3_putHome cX3_putHome 2 none, Cond.fieldLink RX3 15 "CueTour$Rig" "homeAreas" "[I"]
def wsX5_bringBack_r2 : List Cond := [Cond.methodLink RX3 48 yX3_put, Cond.instanceMethod yX3_put, Cond.selects RX3 yX3_put yX3_put, Cond.code yX3_put cX3_put 4 none, Cond.fieldLink RX3 27 "CueTour$Rig" "areas" "[I"]
def wsX5_bringBack : List Cond := .code yX5_bringBack cX5_bringBack 3 (some .int) :: ((wsX5_bringBack_r1 ++ wsX5_bringBack_r2) ++ wsX50 ++ wsX30 ++ (vx_atS RX5 216 "java/lang/IndexOutOfBoundsException" ["java/lang/RuntimeException", "java/lang/Exception"]).filter goodWord ++ (vx_atS RX5 228 "java/lang/IllegalStateException" ["java/lang/RuntimeException", "java/lang/Exception"]).filter goodWord)
def wsX5_replace : List Cond := .code yX5_replace cX5_replace 3 (some .int) :: ([.fieldLink RX5 33 "CueTour" "rig" "LCueTour$Rig;", .methodLink RX5 72 yX5_checkNumber, .static yX5_checkNumber, .initialized RX5, .code yX5_checkNumber cX5_checkNumber 2 none, .classLink RX5 212 "java/lang/IndexOutOfBoundsException", .initialized "java/lang/IndexOutOfBoundsException"] ++ wsX50 ++ wsX30 ++ (vx_atS RX5 216 "java/lang/IndexOutOfBoundsException" ["java/lang/RuntimeException", "java/lang/Exception"]).filter goodWord)
def wsX5_lamps : List Cond := .code yX5_lamps cX5_lamps 1 (some .int) :: ([.fieldLink RX5 33 "CueTour" "rig" "LCueTour$Rig;"] ++ wsX50 ++ wsX30)
def wsX5_whereIs : List Cond := .code yX5_whereIs cX5_whereIs 2 (some .int) :: ([.fieldLink RX5 33 "CueTour" "rig" "LCueTour$Rig;", .methodLink RX5 72 yX5_checkNumber, .static yX5_checkNumber, .initialized RX5, .code yX5_checkNumber cX5_checkNumber 2 none, .classLink RX5 212 "java/lang/IndexOutOfBoundsException", .initialized "java/lang/IndexOutOfBoundsException"] ++ wsX50 ++ wsX30 ++ (vx_atS RX5 216 "java/lang/IndexOutOfBoundsException" ["java/lang/RuntimeException", "java/lang/Exception"]).filter goodWord)
def wsX5_wear : List Cond := .code yX5_wear cX5_wear 2 (some .int) :: ([.fieldLink RX5 33 "CueTour" "rig" "LCueTour$Rig;", .methodLink RX5 72 yX5_checkNumber, .static yX5_checkNumber, .initialized RX5, .code yX5_checkNumber cX5_checkNumber 2 none, .classLink RX5 212 "java/lang/IndexOutOfBoundsException", .initialized "java/lang/IndexOutOfBoundsException"] ++ wsX50 ++ wsX30 ++ (vx_atS RX5 216 "java/lang/IndexOutOfBoundsException" ["java/lang/RuntimeException", "java/lang/Exception"]).filter goodWord)
def wsX5_laidOn : List Cond := .code yX5_laidOn cX5_laidOn 3 (some .int) :: ([.fieldLink RX5 33 "CueTour" "rig" "LCueTour$Rig;", .fieldLink RX5 19 "CueTour" "patch" "LCueTour$Patch;", .methodLink RX5 72 yX5_checkNumber, .static yX5_checkNumber, .initialized RX5, .code yX5_checkNumber cX5_checkNumber 2 none, .classLink RX5 212 "java/lang/IndexOutOfBoundsException", .initialized "java/lang/IndexOutOfBoundsException", .methodLink RX5 163 yX3_lampsFor, .instanceMethod yX3_lampsFor, .selects RX3 yX3_lampsFor yX3_lampsFor, .initialized RX3, .code yX3_lampsFor cX3_lampsFor 7 (some .int), .fieldLink RX3 36 "CueTour$Rig" "count" "I", .fieldLink RX3 18 "CueTour$Rig" "colours" "[I", .methodLink RX3 52 yX3_isFor, .instanceMethod yX3_isFor, .selects RX3 yX3_isFor yX3_isFor, .code yX3_isFor cX3_isFor 4 (some .boolean), .fieldLink RX3 24 "CueTour$Rig" "stages" "[I", .fieldLink RX3 27 "CueTour$Rig" "areas" "[I"] ++ wsX50 ++ wsX20 ++ wsX30 ++ (vx_atS RX5 216 "java/lang/IndexOutOfBoundsException" ["java/lang/RuntimeException", "java/lang/Exception"]).filter goodWord)
def wsX5_lampLevel_r1 : List Cond := [Cond.fieldLink RX5 33 "CueTour" "rig" "LCueTour$Rig;", Cond.fieldLink RX5 19 "CueTour" "patch" "LCueTour$Patch;", Cond.fieldLink RX5 48 "CueTour" "laid" "[I", Cond.fieldLink RX5 26 "CueTour" "cueList" "LCueTour$CueList;", Cond.fieldLink RX5 44 "CueTour" "levels" "[I", Cond.methodLink RX5 72 yX5_checkNumber, Cond.static yX5_checkNumber, Cond.initialized RX5, Cond.code yX5_checkNumber cX5_checkNumber 2 none, Cond.classLink RX5 212 "java/lang/IndexOutOfBoundsException", Cond.initialized "java/lang/IndexOutOfBoundsException", Cond.methodLink RX5 56 yX5_checkRange, Cond.static yX5_checkRange, Cond.code yX5_checkRange cX5_checkRange 3 none, Cond.classLink RX5 219 "java/lang/IllegalArgumentException", Cond.initialized "java/lang/IllegalArgumentException", Cond.methodLink RX5 167 yX3_lay, Cond.instanceMethod yX3_lay, Cond.selects RX3 yX3_lay yX3_lay, Cond.initialized RX3, Cond.code yX3_lay cX3_lay 5 none, Cond.methodLink RX3 60 yX3_lampsFor, Cond.instanceMethod yX3_lampsFor, Cond.selects RX3 yX3_lampsFor yX3_lampsFor]
def wsX5_lampLevel_r2 : List Cond := [Cond.code yX3_lampsFor cX3_lampsFor 7 (some .int), Cond.fieldLink RX3 36 "CueTour$Rig" "count" "I", Cond.fieldLink RX3 18 "CueTour$Rig" "colours" "[I", Cond.methodLink RX3 52 yX3_isFor, Cond.instanceMethod yX3_isFor, Cond.selects RX3 yX3_isFor yX3_isFor, Cond.code yX3_isFor cX3_isFor 4 (some .boolean), Cond.fieldLink RX3 24 "CueTour$Rig" "stages" "[I", Cond.fieldLink RX3 27 "CueTour$Rig" "areas" "[I", Cond.methodLink RX5 171 yX1_fillLevels, Cond.instanceMethod yX1_fillLevels, Cond.selects RX1 yX1_fillLevels yX1_fillLevels, Cond.initialized RX1, Cond.code yX1_fillLevels cX1_fillLevels 4 none, Cond.methodLink RX1 90 yX1_levelByFades, Cond.instanceMethod yX1_levelByFades, Cond.selects RX1 yX1_levelByFades yX1_levelByFades, Cond.code yX1_levelByFades cX1_levelByFades 9 (some .int), Cond.fieldLink RX1 45 "CueTour$CueList" "playCount" "I", Cond.fieldLink RX1 33 "CueTour$CueList" "times" "[I", Cond.fieldLink RX1 42 "CueTour$CueList" "plays" "[I", Cond.fieldLink RX1 39 "CueTour$CueList" "made" "[[I", Cond.fieldLink RX1 18 "CueTour$CueList" "fades" "[I", Cond.methodLink RX1 86 yX1_levelBehind]
def wsX5_lampLevel_r3 : List Cond := [Cond.static yX1_levelBehind, Cond.code yX1_levelBehind cX1_levelBehind 4 (some .int), Cond.methodLink RX5 175 yX3_levelOf, Cond.instanceMethod yX3_levelOf, Cond.selects RX3 yX3_levelOf yX3_levelOf, Cond.code yX3_levelOf cX3_levelOf 6 (some .int), Cond.fieldLink RX3 30 "CueTour$Rig" "wears" "[I"]
def wsX5_lampLevel : List Cond := .code yX5_lampLevel cX5_lampLevel 3 (some .int) :: ((wsX5_lampLevel_r1 ++ (wsX5_lampLevel_r2 ++ wsX5_lampLevel_r3)) ++ wsX50 ++ wsX30 ++ wsX20 ++ wsX10 ++ (vx_atS RX5 216 "java/lang/IndexOutOfBoundsException" ["java/lang/RuntimeException", "java/lang/Exception"]).filter goodWord ++ (vx_atS RX5 223 "java/lang/IllegalArgumentException" ["java/lang/RuntimeException", "java/lang/Exception"]).filter goodWord)
def wsX5_light_r1 : List Cond := [Cond.fieldLink RX5 33 "CueTour" "rig" "LCueTour$Rig;", Cond.fieldLink RX5 19 "CueTour" "patch" "LCueTour$Patch;", Cond.fieldLink RX5 48 "CueTour" "laid" "[I", Cond.fieldLink RX5 26 "CueTour" "cueList" "LCueTour$CueList;", Cond.fieldLink RX5 44 "CueTour" "levels" "[I", Cond.methodLink RX5 72 yX5_checkNumber, Cond.static yX5_checkNumber, Cond.initialized RX5, Cond.code yX5_checkNumber cX5_checkNumber 2 none, Cond.classLink RX5 212 "java/lang/IndexOutOfBoundsException", Cond.initialized "java/lang/IndexOutOfBoundsException", Cond.methodLink RX5 56 yX5_checkRange, Cond.static yX5_checkRange, Cond.code yX5_checkRange cX5_checkRange 3 none, Cond.classLink RX5 219 "java/lang/IllegalArgumentException", Cond.initialized "java/lang/IllegalArgumentException", Cond.methodLink RX5 167 yX3_lay, Cond.instanceMethod yX3_lay, Cond.selects RX3 yX3_lay yX3_lay, Cond.initialized RX3, Cond.code yX3_lay cX3_lay 5 none, Cond.methodLink RX3 60 yX3_lampsFor, Cond.instanceMethod yX3_lampsFor, Cond.selects RX3 yX3_lampsFor yX3_lampsFor]
def wsX5_light_r2 : List Cond := [Cond.code yX3_lampsFor cX3_lampsFor 7 (some .int), Cond.fieldLink RX3 36 "CueTour$Rig" "count" "I", Cond.fieldLink RX3 18 "CueTour$Rig" "colours" "[I", Cond.methodLink RX3 52 yX3_isFor, Cond.instanceMethod yX3_isFor, Cond.selects RX3 yX3_isFor yX3_isFor, Cond.code yX3_isFor cX3_isFor 4 (some .boolean), Cond.fieldLink RX3 24 "CueTour$Rig" "stages" "[I", Cond.fieldLink RX3 27 "CueTour$Rig" "areas" "[I", Cond.methodLink RX5 171 yX1_fillLevels, Cond.instanceMethod yX1_fillLevels, Cond.selects RX1 yX1_fillLevels yX1_fillLevels, Cond.initialized RX1, Cond.code yX1_fillLevels cX1_fillLevels 4 none, Cond.methodLink RX1 90 yX1_levelByFades, Cond.instanceMethod yX1_levelByFades, Cond.selects RX1 yX1_levelByFades yX1_levelByFades, Cond.code yX1_levelByFades cX1_levelByFades 9 (some .int), Cond.fieldLink RX1 45 "CueTour$CueList" "playCount" "I", Cond.fieldLink RX1 33 "CueTour$CueList" "times" "[I", Cond.fieldLink RX1 42 "CueTour$CueList" "plays" "[I", Cond.fieldLink RX1 39 "CueTour$CueList" "made" "[[I", Cond.fieldLink RX1 18 "CueTour$CueList" "fades" "[I", Cond.methodLink RX1 86 yX1_levelBehind]
def wsX5_light_r3 : List Cond := [Cond.static yX1_levelBehind, Cond.code yX1_levelBehind cX1_levelBehind 4 (some .int), Cond.methodLink RX5 179 yX3_lightOf, Cond.instanceMethod yX3_lightOf, Cond.selects RX3 yX3_lightOf yX3_lightOf, Cond.code yX3_lightOf cX3_lightOf 7 (some .int), Cond.fieldLink RX3 21 "CueTour$Rig" "powers" "[I", Cond.methodLink RX3 64 yX3_levelOf, Cond.instanceMethod yX3_levelOf, Cond.selects RX3 yX3_levelOf yX3_levelOf, Cond.code yX3_levelOf cX3_levelOf 6 (some .int), Cond.fieldLink RX3 30 "CueTour$Rig" "wears" "[I"]
def wsX5_light : List Cond := .code yX5_light cX5_light 4 (some .int) :: ((wsX5_light_r1 ++ (wsX5_light_r2 ++ wsX5_light_r3)) ++ wsX50 ++ wsX20 ++ wsX30 ++ wsX10 ++ (vx_atS RX5 216 "java/lang/IndexOutOfBoundsException" ["java/lang/RuntimeException", "java/lang/Exception"]).filter goodWord ++ (vx_atS RX5 223 "java/lang/IllegalArgumentException" ["java/lang/RuntimeException", "java/lang/Exception"]).filter goodWord)
def wsX5_readEndOf_r1 : List Cond := [Cond.fieldLink RX5 10 "CueTour" "script" "LCueTour$Script;", Cond.fieldLink RX5 26 "CueTour" "cueList" "LCueTour$CueList;", Cond.fieldLink RX5 53 "CueTour" "endLevels" "[[I", Cond.methodLink RX5 231 yX4_lastSecondOf, Cond.instanceMethod yX4_lastSecondOf, Cond.selects RX4 yX4_lastSecondOf yX4_lastSecondOf, Cond.initialized RX4, Cond.code yX4_lastSecondOf cX4_lastSecondOf 2 (some .int), Cond.fieldLink RX4 9 "CueTour$Script" "seconds" "[I", Cond.methodLink RX4 28 yX4_secondsAhead, Cond.instanceMethod yX4_secondsAhead, Cond.selects RX4 yX4_secondsAhead yX4_secondsAhead, Cond.code yX4_secondsAhead cX4_secondsAhead 4 (some .int), Cond.fieldLink RX4 15 "CueTour$Script" "isOut" "[Z", Cond.methodLink RX5 171 yX1_fillLevels, Cond.instanceMethod yX1_fillLevels, Cond.selects RX1 yX1_fillLevels yX1_fillLevels, Cond.initialized RX1, Cond.code yX1_fillLevels cX1_fillLevels 4 none, Cond.methodLink RX1 90 yX1_levelByFades, Cond.instanceMethod yX1_levelByFades, Cond.selects RX1 yX1_levelByFades yX1_levelByFades, Cond.code yX1_levelByFades cX1_levelByFades 9 (some .int), Cond.fieldLink RX1 45 "CueTour$CueList" "playCount" "I"]
def wsX5_readEndOf_r2 : List Cond := [Cond.fieldLink RX1 33 "CueTour$CueList" "times" "[I", Cond.fieldLink RX1 42 "CueTour$CueList" "plays" "[I", Cond.fieldLink RX1 39 "CueTour$CueList" "made" "[[I", Cond.fieldLink RX1 18 "CueTour$CueList" "fades" "[I", Cond.methodLink RX1 86 yX1_levelBehind, Cond.static yX1_levelBehind, Cond.code yX1_levelBehind cX1_levelBehind 4 (some .int)]
def wsX5_readEndOf : List Cond := .code yX5_readEndOf cX5_readEndOf 2 none :: ((wsX5_readEndOf_r1 ++ wsX5_readEndOf_r2) ++ wsX50 ++ wsX40 ++ wsX10)
def wsX5_shortAreas : List Cond := .code yX5_shortAreas cX5_shortAreas 5 (some .int) :: ([.fieldLink RX5 10 "CueTour" "script" "LCueTour$Script;", .fieldLink RX5 33 "CueTour" "rig" "LCueTour$Rig;", .fieldLink RX5 48 "CueTour" "laid" "[I", .fieldLink RX5 53 "CueTour" "endLevels" "[[I", .methodLink RX5 179 yX3_lightOf, .instanceMethod yX3_lightOf, .selects RX3 yX3_lightOf yX3_lightOf, .initialized RX3, .code yX3_lightOf cX3_lightOf 7 (some .int), .fieldLink RX3 36 "CueTour$Rig" "count" "I", .fieldLink RX3 21 "CueTour$Rig" "powers" "[I", .methodLink RX3 52 yX3_isFor, .instanceMethod yX3_isFor, .selects RX3 yX3_isFor yX3_isFor, .code yX3_isFor cX3_isFor 4 (some .boolean), .fieldLink RX3 24 "CueTour$Rig" "stages" "[I", .fieldLink RX3 27 "CueTour$Rig" "areas" "[I", .methodLink RX3 64 yX3_levelOf, .instanceMethod yX3_levelOf, .selects RX3 yX3_levelOf yX3_levelOf, .code yX3_levelOf cX3_levelOf 6 (some .int), .fieldLink RX3 30 "CueTour$Rig" "wears" "[I"] ++ wsX50 ++ wsX40 ++ wsX30)
def wsX5_shortOf_r1 : List Cond := [Cond.fieldLink RX5 10 "CueTour" "script" "LCueTour$Script;", Cond.fieldLink RX5 33 "CueTour" "rig" "LCueTour$Rig;", Cond.fieldLink RX5 19 "CueTour" "patch" "LCueTour$Patch;", Cond.fieldLink RX5 48 "CueTour" "laid" "[I", Cond.methodLink RX5 72 yX5_checkNumber, Cond.static yX5_checkNumber, Cond.initialized RX5, Cond.code yX5_checkNumber cX5_checkNumber 2 none, Cond.classLink RX5 212 "java/lang/IndexOutOfBoundsException", Cond.initialized "java/lang/IndexOutOfBoundsException", Cond.methodLink RX5 167 yX3_lay, Cond.instanceMethod yX3_lay, Cond.selects RX3 yX3_lay yX3_lay, Cond.initialized RX3, Cond.code yX3_lay cX3_lay 5 none, Cond.methodLink RX3 60 yX3_lampsFor, Cond.instanceMethod yX3_lampsFor, Cond.selects RX3 yX3_lampsFor yX3_lampsFor, Cond.code yX3_lampsFor cX3_lampsFor 7 (some .int), Cond.fieldLink RX3 36 "CueTour$Rig" "count" "I", Cond.fieldLink RX3 18 "CueTour$Rig" "colours" "[I", Cond.methodLink RX3 52 yX3_isFor, Cond.instanceMethod yX3_isFor, Cond.selects RX3 yX3_isFor yX3_isFor]
def wsX5_shortOf_r2 : List Cond := [Cond.code yX3_isFor cX3_isFor 4 (some .boolean), Cond.fieldLink RX3 24 "CueTour$Rig" "stages" "[I", Cond.fieldLink RX3 27 "CueTour$Rig" "areas" "[I", Cond.methodLink RX5 183 yX5_readEndOf, Cond.instanceMethod yX5_readEndOf, Cond.selects RX5 yX5_readEndOf yX5_readEndOf, Cond.code yX5_readEndOf cX5_readEndOf 2 none, Cond.fieldLink RX5 26 "CueTour" "cueList" "LCueTour$CueList;", Cond.fieldLink RX5 53 "CueTour" "endLevels" "[[I", Cond.methodLink RX5 231 yX4_lastSecondOf, Cond.instanceMethod yX4_lastSecondOf, Cond.selects RX4 yX4_lastSecondOf yX4_lastSecondOf, Cond.initialized RX4, Cond.code yX4_lastSecondOf cX4_lastSecondOf 2 (some .int), Cond.fieldLink RX4 9 "CueTour$Script" "seconds" "[I", Cond.methodLink RX4 28 yX4_secondsAhead, Cond.instanceMethod yX4_secondsAhead, Cond.selects RX4 yX4_secondsAhead yX4_secondsAhead, Cond.code yX4_secondsAhead cX4_secondsAhead 4 (some .int), Cond.fieldLink RX4 15 "CueTour$Script" "isOut" "[Z", Cond.methodLink RX5 171 yX1_fillLevels, Cond.instanceMethod yX1_fillLevels, Cond.selects RX1 yX1_fillLevels yX1_fillLevels, Cond.initialized RX1]
def wsX5_shortOf_r3 : List Cond := [Cond.code yX1_fillLevels cX1_fillLevels 4 none, Cond.methodLink RX1 90 yX1_levelByFades, Cond.instanceMethod yX1_levelByFades, Cond.selects RX1 yX1_levelByFades yX1_levelByFades, Cond.code yX1_levelByFades cX1_levelByFades 9 (some .int), Cond.fieldLink RX1 45 "CueTour$CueList" "playCount" "I", Cond.fieldLink RX1 33 "CueTour$CueList" "times" "[I", Cond.fieldLink RX1 42 "CueTour$CueList" "plays" "[I", Cond.fieldLink RX1 39 "CueTour$CueList" "made" "[[I", Cond.fieldLink RX1 18 "CueTour$CueList" "fades" "[I", Cond.methodLink RX1 86 yX1_levelBehind, Cond.static yX1_levelBehind, Cond.code yX1_levelBehind cX1_levelBehind 4 (some .int), Cond.methodLink RX5 186 yX5_shortAreas, Cond.instanceMethod yX5_shortAreas, Cond.selects RX5 yX5_shortAreas yX5_shortAreas, Cond.code yX5_shortAreas cX5_shortAreas 5 (some .int), Cond.methodLink RX5 179 yX3_lightOf, Cond.instanceMethod yX3_lightOf, Cond.selects RX3 yX3_lightOf yX3_lightOf, Cond.code yX3_lightOf cX3_lightOf 7 (some .int), Cond.fieldLink RX3 21 "CueTour$Rig" "powers" "[I", Cond.methodLink RX3 64 yX3_levelOf, Cond.instanceMethod yX3_levelOf]
def wsX5_shortOf_r4 : List Cond := [Cond.selects RX3 yX3_levelOf yX3_levelOf, Cond.code yX3_levelOf cX3_levelOf 6 (some .int), Cond.fieldLink RX3 30 "CueTour$Rig" "wears" "[I"]
def wsX5_shortOf : List Cond := .code yX5_shortOf cX5_shortOf 3 (some .int) :: ((wsX5_shortOf_r1 ++ (wsX5_shortOf_r2 ++ (wsX5_shortOf_r3 ++ wsX5_shortOf_r4))) ++ wsX50 ++ wsX40 ++ wsX20 ++ wsX30 ++ wsX10 ++ (vx_atS RX5 216 "java/lang/IndexOutOfBoundsException" ["java/lang/RuntimeException", "java/lang/Exception"]).filter goodWord)
def wsX5_readEnds_r1 : List Cond := [Cond.fieldLink RX5 10 "CueTour" "script" "LCueTour$Script;", Cond.methodLink RX5 183 yX5_readEndOf, Cond.instanceMethod yX5_readEndOf, Cond.selects RX5 yX5_readEndOf yX5_readEndOf, Cond.initialized RX5, Cond.code yX5_readEndOf cX5_readEndOf 2 none, Cond.fieldLink RX5 26 "CueTour" "cueList" "LCueTour$CueList;", Cond.fieldLink RX5 53 "CueTour" "endLevels" "[[I", Cond.methodLink RX5 231 yX4_lastSecondOf, Cond.instanceMethod yX4_lastSecondOf, Cond.selects RX4 yX4_lastSecondOf yX4_lastSecondOf, Cond.initialized RX4, Cond.code yX4_lastSecondOf cX4_lastSecondOf 2 (some .int), Cond.fieldLink RX4 9 "CueTour$Script" "seconds" "[I", Cond.methodLink RX4 28 yX4_secondsAhead, Cond.instanceMethod yX4_secondsAhead, Cond.selects RX4 yX4_secondsAhead yX4_secondsAhead, Cond.code yX4_secondsAhead cX4_secondsAhead 4 (some .int), Cond.fieldLink RX4 15 "CueTour$Script" "isOut" "[Z", Cond.methodLink RX5 171 yX1_fillLevels, Cond.instanceMethod yX1_fillLevels, Cond.selects RX1 yX1_fillLevels yX1_fillLevels, Cond.initialized RX1, Cond.code yX1_fillLevels cX1_fillLevels 4 none]
def wsX5_readEnds_r2 : List Cond := [Cond.methodLink RX1 90 yX1_levelByFades, Cond.instanceMethod yX1_levelByFades, Cond.selects RX1 yX1_levelByFades yX1_levelByFades, Cond.code yX1_levelByFades cX1_levelByFades 9 (some .int), Cond.fieldLink RX1 45 "CueTour$CueList" "playCount" "I", Cond.fieldLink RX1 33 "CueTour$CueList" "times" "[I", Cond.fieldLink RX1 42 "CueTour$CueList" "plays" "[I", Cond.fieldLink RX1 39 "CueTour$CueList" "made" "[[I", Cond.fieldLink RX1 18 "CueTour$CueList" "fades" "[I", Cond.methodLink RX1 86 yX1_levelBehind, Cond.static yX1_levelBehind, Cond.code yX1_levelBehind cX1_levelBehind 4 (some .int)]
def wsX5_readEnds : List Cond := .code yX5_readEnds cX5_readEnds 2 none :: ((wsX5_readEnds_r1 ++ wsX5_readEnds_r2) ++ wsX50 ++ wsX40 ++ wsX10)
def wsX5_countShort_r1 : List Cond := [Cond.fieldLink RX5 33 "CueTour" "rig" "LCueTour$Rig;", Cond.fieldLink RX5 19 "CueTour" "patch" "LCueTour$Patch;", Cond.fieldLink RX5 48 "CueTour" "laid" "[I", Cond.fieldLink RX5 10 "CueTour" "script" "LCueTour$Script;", Cond.methodLink RX5 167 yX3_lay, Cond.instanceMethod yX3_lay, Cond.selects RX3 yX3_lay yX3_lay, Cond.initialized RX3, Cond.code yX3_lay cX3_lay 5 none, Cond.methodLink RX3 60 yX3_lampsFor, Cond.instanceMethod yX3_lampsFor, Cond.selects RX3 yX3_lampsFor yX3_lampsFor, Cond.code yX3_lampsFor cX3_lampsFor 7 (some .int), Cond.fieldLink RX3 36 "CueTour$Rig" "count" "I", Cond.fieldLink RX3 18 "CueTour$Rig" "colours" "[I", Cond.methodLink RX3 52 yX3_isFor, Cond.instanceMethod yX3_isFor, Cond.selects RX3 yX3_isFor yX3_isFor, Cond.code yX3_isFor cX3_isFor 4 (some .boolean), Cond.fieldLink RX3 24 "CueTour$Rig" "stages" "[I", Cond.fieldLink RX3 27 "CueTour$Rig" "areas" "[I", Cond.methodLink RX5 186 yX5_shortAreas, Cond.instanceMethod yX5_shortAreas, Cond.selects RX5 yX5_shortAreas yX5_shortAreas]
def wsX5_countShort_r2 : List Cond := [Cond.initialized RX5, Cond.code yX5_shortAreas cX5_shortAreas 5 (some .int), Cond.fieldLink RX5 53 "CueTour" "endLevels" "[[I", Cond.methodLink RX5 179 yX3_lightOf, Cond.instanceMethod yX3_lightOf, Cond.selects RX3 yX3_lightOf yX3_lightOf, Cond.code yX3_lightOf cX3_lightOf 7 (some .int), Cond.fieldLink RX3 21 "CueTour$Rig" "powers" "[I", Cond.methodLink RX3 64 yX3_levelOf, Cond.instanceMethod yX3_levelOf, Cond.selects RX3 yX3_levelOf yX3_levelOf, Cond.code yX3_levelOf cX3_levelOf 6 (some .int), Cond.fieldLink RX3 30 "CueTour$Rig" "wears" "[I"]
def wsX5_countShort : List Cond := .code yX5_countShort cX5_countShort 4 (some .int) :: ((wsX5_countShort_r1 ++ wsX5_countShort_r2) ++ wsX50 ++ wsX40 ++ wsX20 ++ wsX30)
def wsX5_bestStage_r1 : List Cond := [Cond.methodLink RX5 189 yX5_readEnds, Cond.instanceMethod yX5_readEnds, Cond.selects RX5 yX5_readEnds yX5_readEnds, Cond.initialized RX5, Cond.code yX5_readEnds cX5_readEnds 2 none, Cond.fieldLink RX5 10 "CueTour" "script" "LCueTour$Script;", Cond.methodLink RX5 183 yX5_readEndOf, Cond.instanceMethod yX5_readEndOf, Cond.selects RX5 yX5_readEndOf yX5_readEndOf, Cond.code yX5_readEndOf cX5_readEndOf 2 none, Cond.fieldLink RX5 26 "CueTour" "cueList" "LCueTour$CueList;", Cond.fieldLink RX5 53 "CueTour" "endLevels" "[[I", Cond.methodLink RX5 231 yX4_lastSecondOf, Cond.instanceMethod yX4_lastSecondOf, Cond.selects RX4 yX4_lastSecondOf yX4_lastSecondOf, Cond.initialized RX4, Cond.code yX4_lastSecondOf cX4_lastSecondOf 2 (some .int), Cond.fieldLink RX4 9 "CueTour$Script" "seconds" "[I", Cond.methodLink RX4 28 yX4_secondsAhead, Cond.instanceMethod yX4_secondsAhead, Cond.selects RX4 yX4_secondsAhead yX4_secondsAhead, Cond.code yX4_secondsAhead cX4_secondsAhead 4 (some .int), Cond.fieldLink RX4 15 "CueTour$Script" "isOut" "[Z", Cond.methodLink RX5 171 yX1_fillLevels]
def wsX5_bestStage_r2 : List Cond := [Cond.instanceMethod yX1_fillLevels, Cond.selects RX1 yX1_fillLevels yX1_fillLevels, Cond.initialized RX1, Cond.code yX1_fillLevels cX1_fillLevels 4 none, Cond.methodLink RX1 90 yX1_levelByFades, Cond.instanceMethod yX1_levelByFades, Cond.selects RX1 yX1_levelByFades yX1_levelByFades, Cond.code yX1_levelByFades cX1_levelByFades 9 (some .int), Cond.fieldLink RX1 45 "CueTour$CueList" "playCount" "I", Cond.fieldLink RX1 33 "CueTour$CueList" "times" "[I", Cond.fieldLink RX1 42 "CueTour$CueList" "plays" "[I", Cond.fieldLink RX1 39 "CueTour$CueList" "made" "[[I", Cond.fieldLink RX1 18 "CueTour$CueList" "fades" "[I", Cond.methodLink RX1 86 yX1_levelBehind, Cond.static yX1_levelBehind, Cond.code yX1_levelBehind cX1_levelBehind 4 (some .int), Cond.methodLink RX5 192 yX5_countShort, Cond.instanceMethod yX5_countShort, Cond.selects RX5 yX5_countShort yX5_countShort, Cond.code yX5_countShort cX5_countShort 4 (some .int), Cond.fieldLink RX5 33 "CueTour" "rig" "LCueTour$Rig;", Cond.fieldLink RX5 19 "CueTour" "patch" "LCueTour$Patch;", Cond.fieldLink RX5 48 "CueTour" "laid" "[I", Cond.methodLink RX5 167 yX3_lay]
def wsX5_bestStage_r3 : List Cond := [Cond.instanceMethod yX3_lay, Cond.selects RX3 yX3_lay yX3_lay, Cond.initialized RX3, Cond.code yX3_lay cX3_lay 5 none, Cond.methodLink RX3 60 yX3_lampsFor, Cond.instanceMethod yX3_lampsFor, Cond.selects RX3 yX3_lampsFor yX3_lampsFor, Cond.code yX3_lampsFor cX3_lampsFor 7 (some .int), Cond.fieldLink RX3 36 "CueTour$Rig" "count" "I", Cond.fieldLink RX3 18 "CueTour$Rig" "colours" "[I", Cond.methodLink RX3 52 yX3_isFor, Cond.instanceMethod yX3_isFor, Cond.selects RX3 yX3_isFor yX3_isFor, Cond.code yX3_isFor cX3_isFor 4 (some .boolean), Cond.fieldLink RX3 24 "CueTour$Rig" "stages" "[I", Cond.fieldLink RX3 27 "CueTour$Rig" "areas" "[I", Cond.methodLink RX5 186 yX5_shortAreas, Cond.instanceMethod yX5_shortAreas, Cond.selects RX5 yX5_shortAreas yX5_shortAreas, Cond.code yX5_shortAreas cX5_shortAreas 5 (some .int), Cond.methodLink RX5 179 yX3_lightOf, Cond.instanceMethod yX3_lightOf, Cond.selects RX3 yX3_lightOf yX3_lightOf, Cond.code yX3_lightOf cX3_lightOf 7 (some .int)]
def wsX5_bestStage_r4 : List Cond := [Cond.fieldLink RX3 21 "CueTour$Rig" "powers" "[I", Cond.methodLink RX3 64 yX3_levelOf, Cond.instanceMethod yX3_levelOf, Cond.selects RX3 yX3_levelOf yX3_levelOf, Cond.code yX3_levelOf cX3_levelOf 6 (some .int), Cond.fieldLink RX3 30 "CueTour$Rig" "wears" "[I"]
def wsX5_bestStage : List Cond := .code yX5_bestStage cX5_bestStage 5 (some .int) :: ((wsX5_bestStage_r1 ++ (wsX5_bestStage_r2 ++ (wsX5_bestStage_r3 ++ wsX5_bestStage_r4))) ++ wsX50 ++ wsX40 ++ wsX10 ++ wsX20 ++ wsX30)
def wsX5_countShortWith_r1 : List Cond := [Cond.fieldLink RX5 33 "CueTour" "rig" "LCueTour$Rig;", Cond.methodLink RX5 143 yX3_put, Cond.instanceMethod yX3_put, Cond.selects RX3 yX3_put yX3_put, Cond.initialized RX3, Cond.code yX3_put cX3_put 4 none, Cond.fieldLink RX3 24 "CueTour$Rig" "stages" "[I", Cond.fieldLink RX3 27 "CueTour$Rig" "areas" "[I", Cond.methodLink RX5 192 yX5_countShort, Cond.instanceMethod yX5_countShort, Cond.selects RX5 yX5_countShort yX5_countShort, Cond.initialized RX5, Cond.code yX5_countShort cX5_countShort 4 (some .int), Cond.fieldLink RX5 19 "CueTour" "patch" "LCueTour$Patch;", Cond.fieldLink RX5 48 "CueTour" "laid" "[I", Cond.fieldLink RX5 10 "CueTour" "script" "LCueTour$Script;", Cond.methodLink RX5 167 yX3_lay, Cond.instanceMethod yX3_lay, Cond.selects RX3 yX3_lay yX3_lay, Cond.code yX3_lay cX3_lay 5 none, Cond.methodLink RX3 60 yX3_lampsFor, Cond.instanceMethod yX3_lampsFor, Cond.selects RX3 yX3_lampsFor yX3_lampsFor, Cond.code yX3_lampsFor cX3_lampsFor 7 (some .int)]
def wsX5_countShortWith_r2 : List Cond := [Cond.fieldLink RX3 36 "CueTour$Rig" "count" "I", Cond.fieldLink RX3 18 "CueTour$Rig" "colours" "[I", Cond.methodLink RX3 52 yX3_isFor, Cond.instanceMethod yX3_isFor, Cond.selects RX3 yX3_isFor yX3_isFor, Cond.code yX3_isFor cX3_isFor 4 (some .boolean), Cond.methodLink RX5 186 yX5_shortAreas, Cond.instanceMethod yX5_shortAreas, Cond.selects RX5 yX5_shortAreas yX5_shortAreas, Cond.code yX5_shortAreas cX5_shortAreas 5 (some .int), Cond.fieldLink RX5 53 "CueTour" "endLevels" "[[I", Cond.methodLink RX5 179 yX3_lightOf, Cond.instanceMethod yX3_lightOf, Cond.selects RX3 yX3_lightOf yX3_lightOf, Cond.code yX3_lightOf cX3_lightOf 7 (some .int), Cond.fieldLink RX3 21 "CueTour$Rig" "powers" "[I", Cond.methodLink RX3 64 yX3_levelOf, Cond.instanceMethod yX3_levelOf, Cond.selects RX3 yX3_levelOf yX3_levelOf, Cond.code yX3_levelOf cX3_levelOf 6 (some .int), Cond.fieldLink RX3 30 "CueTour$Rig" "wears" "[I", Cond.methodLink RX5 156 yX3_putHome, Cond.instanceMethod yX3_putHome, Cond.selects RX3 yX3_putHome yX3_putHome]
def wsX5_countShortWith_r3 : List Cond := [Cond.code yX3_putHome cX3_putHome 2 none, Cond.fieldLink RX3 9 "CueTour$Rig" "homes" "[I", Cond.fieldLink RX3 15 "CueTour$Rig" "homeAreas" "[I", Cond.methodLink RX3 48 yX3_put]
def wsX5_countShortWith : List Cond := .code yX5_countShortWith cX5_countShortWith 5 (some .int) :: ((wsX5_countShortWith_r1 ++ (wsX5_countShortWith_r2 ++ wsX5_countShortWith_r3)) ++ wsX50 ++ wsX30 ++ wsX40 ++ wsX20)
def wsX5_bestToBorrow_r1 : List Cond := [Cond.fieldLink RX5 33 "CueTour" "rig" "LCueTour$Rig;", Cond.methodLink RX5 72 yX5_checkNumber, Cond.static yX5_checkNumber, Cond.initialized RX5, Cond.code yX5_checkNumber cX5_checkNumber 2 none, Cond.classLink RX5 212 "java/lang/IndexOutOfBoundsException", Cond.initialized "java/lang/IndexOutOfBoundsException", Cond.methodLink RX5 189 yX5_readEnds, Cond.instanceMethod yX5_readEnds, Cond.selects RX5 yX5_readEnds yX5_readEnds, Cond.code yX5_readEnds cX5_readEnds 2 none, Cond.fieldLink RX5 10 "CueTour" "script" "LCueTour$Script;", Cond.methodLink RX5 183 yX5_readEndOf, Cond.instanceMethod yX5_readEndOf, Cond.selects RX5 yX5_readEndOf yX5_readEndOf, Cond.code yX5_readEndOf cX5_readEndOf 2 none, Cond.fieldLink RX5 26 "CueTour" "cueList" "LCueTour$CueList;", Cond.fieldLink RX5 53 "CueTour" "endLevels" "[[I", Cond.methodLink RX5 231 yX4_lastSecondOf, Cond.instanceMethod yX4_lastSecondOf, Cond.selects RX4 yX4_lastSecondOf yX4_lastSecondOf, Cond.initialized RX4, Cond.code yX4_lastSecondOf cX4_lastSecondOf 2 (some .int), Cond.fieldLink RX4 9 "CueTour$Script" "seconds" "[I"]
def wsX5_bestToBorrow_r2 : List Cond := [Cond.methodLink RX4 28 yX4_secondsAhead, Cond.instanceMethod yX4_secondsAhead, Cond.selects RX4 yX4_secondsAhead yX4_secondsAhead, Cond.code yX4_secondsAhead cX4_secondsAhead 4 (some .int), Cond.fieldLink RX4 15 "CueTour$Script" "isOut" "[Z", Cond.methodLink RX5 171 yX1_fillLevels, Cond.instanceMethod yX1_fillLevels, Cond.selects RX1 yX1_fillLevels yX1_fillLevels, Cond.initialized RX1, Cond.code yX1_fillLevels cX1_fillLevels 4 none, Cond.methodLink RX1 90 yX1_levelByFades, Cond.instanceMethod yX1_levelByFades, Cond.selects RX1 yX1_levelByFades yX1_levelByFades, Cond.code yX1_levelByFades cX1_levelByFades 9 (some .int), Cond.fieldLink RX1 45 "CueTour$CueList" "playCount" "I", Cond.fieldLink RX1 33 "CueTour$CueList" "times" "[I", Cond.fieldLink RX1 42 "CueTour$CueList" "plays" "[I", Cond.fieldLink RX1 39 "CueTour$CueList" "made" "[[I", Cond.fieldLink RX1 18 "CueTour$CueList" "fades" "[I", Cond.methodLink RX1 86 yX1_levelBehind, Cond.static yX1_levelBehind, Cond.code yX1_levelBehind cX1_levelBehind 4 (some .int), Cond.methodLink RX5 192 yX5_countShort, Cond.instanceMethod yX5_countShort]
def wsX5_bestToBorrow_r3 : List Cond := [Cond.selects RX5 yX5_countShort yX5_countShort, Cond.code yX5_countShort cX5_countShort 4 (some .int), Cond.fieldLink RX5 19 "CueTour" "patch" "LCueTour$Patch;", Cond.fieldLink RX5 48 "CueTour" "laid" "[I", Cond.methodLink RX5 167 yX3_lay, Cond.instanceMethod yX3_lay, Cond.selects RX3 yX3_lay yX3_lay, Cond.initialized RX3, Cond.code yX3_lay cX3_lay 5 none, Cond.methodLink RX3 60 yX3_lampsFor, Cond.instanceMethod yX3_lampsFor, Cond.selects RX3 yX3_lampsFor yX3_lampsFor, Cond.code yX3_lampsFor cX3_lampsFor 7 (some .int), Cond.fieldLink RX3 36 "CueTour$Rig" "count" "I", Cond.fieldLink RX3 18 "CueTour$Rig" "colours" "[I", Cond.methodLink RX3 52 yX3_isFor, Cond.instanceMethod yX3_isFor, Cond.selects RX3 yX3_isFor yX3_isFor, Cond.code yX3_isFor cX3_isFor 4 (some .boolean), Cond.fieldLink RX3 24 "CueTour$Rig" "stages" "[I", Cond.fieldLink RX3 27 "CueTour$Rig" "areas" "[I", Cond.methodLink RX5 186 yX5_shortAreas, Cond.instanceMethod yX5_shortAreas, Cond.selects RX5 yX5_shortAreas yX5_shortAreas]
def wsX5_bestToBorrow_r4 : List Cond := [Cond.code yX5_shortAreas cX5_shortAreas 5 (some .int), Cond.methodLink RX5 179 yX3_lightOf, Cond.instanceMethod yX3_lightOf, Cond.selects RX3 yX3_lightOf yX3_lightOf, Cond.code yX3_lightOf cX3_lightOf 7 (some .int), Cond.fieldLink RX3 21 "CueTour$Rig" "powers" "[I", Cond.methodLink RX3 64 yX3_levelOf, Cond.instanceMethod yX3_levelOf, Cond.selects RX3 yX3_levelOf yX3_levelOf, Cond.code yX3_levelOf cX3_levelOf 6 (some .int), Cond.fieldLink RX3 30 "CueTour$Rig" "wears" "[I", Cond.methodLink RX5 135 yX3_canGo, Cond.instanceMethod yX3_canGo, Cond.selects RX3 yX3_canGo yX3_canGo, Cond.code yX3_canGo cX3_canGo 3 (some .boolean), Cond.fieldLink RX3 9 "CueTour$Rig" "homes" "[I", Cond.methodLink RX3 44 yX3_isHome, Cond.instanceMethod yX3_isHome, Cond.selects RX3 yX3_isHome yX3_isHome, Cond.code yX3_isHome cX3_isHome 2 (some .boolean), Cond.methodLink RX5 195 yX5_countShortWith, Cond.instanceMethod yX5_countShortWith, Cond.selects RX5 yX5_countShortWith yX5_countShortWith, Cond.code yX5_countShortWith cX5_countShortWith 5 (some .int)]
def wsX5_bestToBorrow_r5 : List Cond := [Cond.methodLink RX5 143 yX3_put, Cond.instanceMethod yX3_put, Cond.selects RX3 yX3_put yX3_put, Cond.code yX3_put cX3_put 4 none, Cond.methodLink RX5 156 yX3_putHome, Cond.instanceMethod yX3_putHome, Cond.selects RX3 yX3_putHome yX3_putHome, Cond.code yX3_putHome cX3_putHome 2 none, Cond.fieldLink RX3 15 "CueTour$Rig" "homeAreas" "[I", Cond.methodLink RX3 48 yX3_put]
def wsX5_bestToBorrow : List Cond := .code yX5_bestToBorrow cX5_bestToBorrow 7 (some .int) :: ((wsX5_bestToBorrow_r1 ++ (wsX5_bestToBorrow_r2 ++ (wsX5_bestToBorrow_r3 ++ (wsX5_bestToBorrow_r4 ++ wsX5_bestToBorrow_r5)))) ++ wsX50 ++ wsX30 ++ wsX40 ++ wsX10 ++ wsX20 ++ (vx_atS RX5 216 "java/lang/IndexOutOfBoundsException" ["java/lang/RuntimeException", "java/lang/Exception"]).filter goodWord)
def wsX5_writeLog_r1 : List Cond := [Cond.fieldLink RX5 40 "CueTour" "book" "LCueTour$Book;", Cond.fieldLink RX5 10 "CueTour" "script" "LCueTour$Script;", Cond.methodLink RX5 234 yX0_append, Cond.instanceMethod yX0_append, Cond.selects RX0 yX0_append yX0_append, Cond.initialized RX0, Cond.code yX0_append cX0_append 2 (some .int), Cond.fieldLink RX0 9 "CueTour$Book" "stages" "[I", Cond.fieldLink RX0 20 "CueTour$Book" "count" "I", Cond.methodLink RX5 186 yX5_shortAreas, Cond.instanceMethod yX5_shortAreas, Cond.selects RX5 yX5_shortAreas yX5_shortAreas, Cond.initialized RX5, Cond.code yX5_shortAreas cX5_shortAreas 5 (some .int), Cond.fieldLink RX5 33 "CueTour" "rig" "LCueTour$Rig;", Cond.fieldLink RX5 48 "CueTour" "laid" "[I", Cond.fieldLink RX5 53 "CueTour" "endLevels" "[[I", Cond.methodLink RX5 179 yX3_lightOf, Cond.instanceMethod yX3_lightOf, Cond.selects RX3 yX3_lightOf yX3_lightOf, Cond.initialized RX3, Cond.code yX3_lightOf cX3_lightOf 7 (some .int), Cond.fieldLink RX3 36 "CueTour$Rig" "count" "I", Cond.fieldLink RX3 21 "CueTour$Rig" "powers" "[I"]
def wsX5_writeLog_r2 : List Cond := [Cond.methodLink RX3 52 yX3_isFor, Cond.instanceMethod yX3_isFor, Cond.selects RX3 yX3_isFor yX3_isFor, Cond.code yX3_isFor cX3_isFor 4 (some .boolean), Cond.fieldLink RX3 24 "CueTour$Rig" "stages" "[I", Cond.fieldLink RX3 27 "CueTour$Rig" "areas" "[I", Cond.methodLink RX3 64 yX3_levelOf, Cond.instanceMethod yX3_levelOf, Cond.selects RX3 yX3_levelOf yX3_levelOf, Cond.code yX3_levelOf cX3_levelOf 6 (some .int), Cond.fieldLink RX3 30 "CueTour$Rig" "wears" "[I"]
def wsX5_writeLog : List Cond := .code yX5_writeLog cX5_writeLog 4 none :: ((wsX5_writeLog_r1 ++ wsX5_writeLog_r2) ++ wsX50 ++ wsX40 ++ wsX00 ++ wsX30)
def wsX5_wearOut_r1 : List Cond := [Cond.fieldLink RX5 10 "CueTour" "script" "LCueTour$Script;", Cond.fieldLink RX5 33 "CueTour" "rig" "LCueTour$Rig;", Cond.fieldLink RX5 26 "CueTour" "cueList" "LCueTour$CueList;", Cond.fieldLink RX5 44 "CueTour" "levels" "[I", Cond.fieldLink RX5 48 "CueTour" "laid" "[I", Cond.methodLink RX5 86 yX4_total, Cond.instanceMethod yX4_total, Cond.selects RX4 yX4_total yX4_total, Cond.initialized RX4, Cond.code yX4_total cX4_total 1 (some .int), Cond.fieldLink RX4 24 "CueTour$Script" "count" "I", Cond.methodLink RX4 28 yX4_secondsAhead, Cond.instanceMethod yX4_secondsAhead, Cond.selects RX4 yX4_secondsAhead yX4_secondsAhead, Cond.code yX4_secondsAhead cX4_secondsAhead 4 (some .int), Cond.fieldLink RX4 15 "CueTour$Script" "isOut" "[Z", Cond.fieldLink RX4 9 "CueTour$Script" "seconds" "[I", Cond.methodLink RX5 235 yX3_startBurning, Cond.instanceMethod yX3_startBurning, Cond.selects RX3 yX3_startBurning yX3_startBurning, Cond.initialized RX3, Cond.code yX3_startBurning cX3_startBurning 2 none, Cond.fieldLink RX3 36 "CueTour$Rig" "count" "I", Cond.fieldLink RX3 33 "CueTour$Rig" "burnt" "[I"]
def wsX5_wearOut_r2 : List Cond := [Cond.methodLink RX5 171 yX1_fillLevels, Cond.instanceMethod yX1_fillLevels, Cond.selects RX1 yX1_fillLevels yX1_fillLevels, Cond.initialized RX1, Cond.code yX1_fillLevels cX1_fillLevels 4 none, Cond.methodLink RX1 90 yX1_levelByFades, Cond.instanceMethod yX1_levelByFades, Cond.selects RX1 yX1_levelByFades yX1_levelByFades, Cond.code yX1_levelByFades cX1_levelByFades 9 (some .int), Cond.fieldLink RX1 45 "CueTour$CueList" "playCount" "I", Cond.fieldLink RX1 33 "CueTour$CueList" "times" "[I", Cond.fieldLink RX1 42 "CueTour$CueList" "plays" "[I", Cond.fieldLink RX1 39 "CueTour$CueList" "made" "[[I", Cond.fieldLink RX1 18 "CueTour$CueList" "fades" "[I", Cond.methodLink RX1 86 yX1_levelBehind, Cond.static yX1_levelBehind, Cond.code yX1_levelBehind cX1_levelBehind 4 (some .int), Cond.methodLink RX5 238 yX3_burn, Cond.instanceMethod yX3_burn, Cond.selects RX3 yX3_burn yX3_burn, Cond.code yX3_burn cX3_burn 5 none, Cond.fieldLink RX3 24 "CueTour$Rig" "stages" "[I", Cond.methodLink RX3 64 yX3_levelOf, Cond.instanceMethod yX3_levelOf]
def wsX5_wearOut_r3 : List Cond := [Cond.selects RX3 yX3_levelOf yX3_levelOf, Cond.code yX3_levelOf cX3_levelOf 6 (some .int), Cond.fieldLink RX3 30 "CueTour$Rig" "wears" "[I", Cond.methodLink RX5 242 yX3_addBurnt, Cond.instanceMethod yX3_addBurnt, Cond.selects RX3 yX3_addBurnt yX3_addBurnt, Cond.code yX3_addBurnt cX3_addBurnt 2 none]
def wsX5_wearOut : List Cond := .code yX5_wearOut cX5_wearOut 4 none :: ((wsX5_wearOut_r1 ++ (wsX5_wearOut_r2 ++ wsX5_wearOut_r3)) ++ wsX50 ++ wsX40 ++ wsX30 ++ wsX10)
def wsX5_perform_r1 : List Cond := [Cond.fieldLink RX5 10 "CueTour" "script" "LCueTour$Script;", Cond.fieldLink RX5 40 "CueTour" "book" "LCueTour$Book;", Cond.methodLink RX5 72 yX5_checkNumber, Cond.static yX5_checkNumber, Cond.initialized RX5, Cond.code yX5_checkNumber cX5_checkNumber 2 none, Cond.classLink RX5 212 "java/lang/IndexOutOfBoundsException", Cond.initialized "java/lang/IndexOutOfBoundsException", Cond.methodLink RX5 86 yX4_total, Cond.instanceMethod yX4_total, Cond.selects RX4 yX4_total yX4_total, Cond.initialized RX4, Cond.code yX4_total cX4_total 1 (some .int), Cond.fieldLink RX4 24 "CueTour$Script" "count" "I", Cond.methodLink RX4 28 yX4_secondsAhead, Cond.instanceMethod yX4_secondsAhead, Cond.selects RX4 yX4_secondsAhead yX4_secondsAhead, Cond.code yX4_secondsAhead cX4_secondsAhead 4 (some .int), Cond.fieldLink RX4 15 "CueTour$Script" "isOut" "[Z", Cond.fieldLink RX4 9 "CueTour$Script" "seconds" "[I", Cond.methodLink RX5 139 yX5_checkState, Cond.static yX5_checkState, Cond.code yX5_checkState cX5_checkState 1 none, Cond.classLink RX5 224 "java/lang/IllegalStateException"]
def wsX5_perform_r2 : List Cond := [Cond.initialized "java/lang/IllegalStateException", Cond.methodLink RX5 64 yX5_checkRoom, Cond.static yX5_checkRoom, Cond.code yX5_checkRoom cX5_checkRoom 2 none, Cond.methodLink RX5 189 yX5_readEnds, Cond.instanceMethod yX5_readEnds, Cond.selects RX5 yX5_readEnds yX5_readEnds, Cond.code yX5_readEnds cX5_readEnds 2 none, Cond.methodLink RX5 183 yX5_readEndOf, Cond.instanceMethod yX5_readEndOf, Cond.selects RX5 yX5_readEndOf yX5_readEndOf, Cond.code yX5_readEndOf cX5_readEndOf 2 none, Cond.fieldLink RX5 26 "CueTour" "cueList" "LCueTour$CueList;", Cond.fieldLink RX5 53 "CueTour" "endLevels" "[[I", Cond.methodLink RX5 231 yX4_lastSecondOf, Cond.instanceMethod yX4_lastSecondOf, Cond.selects RX4 yX4_lastSecondOf yX4_lastSecondOf, Cond.code yX4_lastSecondOf cX4_lastSecondOf 2 (some .int), Cond.methodLink RX5 171 yX1_fillLevels, Cond.instanceMethod yX1_fillLevels, Cond.selects RX1 yX1_fillLevels yX1_fillLevels, Cond.initialized RX1, Cond.code yX1_fillLevels cX1_fillLevels 4 none, Cond.methodLink RX1 90 yX1_levelByFades]
def wsX5_perform_r3 : List Cond := [Cond.instanceMethod yX1_levelByFades, Cond.selects RX1 yX1_levelByFades yX1_levelByFades, Cond.code yX1_levelByFades cX1_levelByFades 9 (some .int), Cond.fieldLink RX1 45 "CueTour$CueList" "playCount" "I", Cond.fieldLink RX1 33 "CueTour$CueList" "times" "[I", Cond.fieldLink RX1 42 "CueTour$CueList" "plays" "[I", Cond.fieldLink RX1 39 "CueTour$CueList" "made" "[[I", Cond.fieldLink RX1 18 "CueTour$CueList" "fades" "[I", Cond.methodLink RX1 86 yX1_levelBehind, Cond.static yX1_levelBehind, Cond.code yX1_levelBehind cX1_levelBehind 4 (some .int), Cond.methodLink RX5 192 yX5_countShort, Cond.instanceMethod yX5_countShort, Cond.selects RX5 yX5_countShort yX5_countShort, Cond.code yX5_countShort cX5_countShort 4 (some .int), Cond.fieldLink RX5 33 "CueTour" "rig" "LCueTour$Rig;", Cond.fieldLink RX5 19 "CueTour" "patch" "LCueTour$Patch;", Cond.fieldLink RX5 48 "CueTour" "laid" "[I", Cond.methodLink RX5 167 yX3_lay, Cond.instanceMethod yX3_lay, Cond.selects RX3 yX3_lay yX3_lay, Cond.initialized RX3, Cond.code yX3_lay cX3_lay 5 none, Cond.methodLink RX3 60 yX3_lampsFor]
def wsX5_perform_r4 : List Cond := [Cond.instanceMethod yX3_lampsFor, Cond.selects RX3 yX3_lampsFor yX3_lampsFor, Cond.code yX3_lampsFor cX3_lampsFor 7 (some .int), Cond.fieldLink RX3 36 "CueTour$Rig" "count" "I", Cond.fieldLink RX3 18 "CueTour$Rig" "colours" "[I", Cond.methodLink RX3 52 yX3_isFor, Cond.instanceMethod yX3_isFor, Cond.selects RX3 yX3_isFor yX3_isFor, Cond.code yX3_isFor cX3_isFor 4 (some .boolean), Cond.fieldLink RX3 24 "CueTour$Rig" "stages" "[I", Cond.fieldLink RX3 27 "CueTour$Rig" "areas" "[I", Cond.methodLink RX5 186 yX5_shortAreas, Cond.instanceMethod yX5_shortAreas, Cond.selects RX5 yX5_shortAreas yX5_shortAreas, Cond.code yX5_shortAreas cX5_shortAreas 5 (some .int), Cond.methodLink RX5 179 yX3_lightOf, Cond.instanceMethod yX3_lightOf, Cond.selects RX3 yX3_lightOf yX3_lightOf, Cond.code yX3_lightOf cX3_lightOf 7 (some .int), Cond.fieldLink RX3 21 "CueTour$Rig" "powers" "[I", Cond.methodLink RX3 64 yX3_levelOf, Cond.instanceMethod yX3_levelOf, Cond.selects RX3 yX3_levelOf yX3_levelOf, Cond.code yX3_levelOf cX3_levelOf 6 (some .int)]
def wsX5_perform_r5 : List Cond := [Cond.fieldLink RX3 30 "CueTour$Rig" "wears" "[I", Cond.methodLink RX5 199 yX5_writeLog, Cond.instanceMethod yX5_writeLog, Cond.selects RX5 yX5_writeLog yX5_writeLog, Cond.code yX5_writeLog cX5_writeLog 4 none, Cond.methodLink RX5 234 yX0_append, Cond.instanceMethod yX0_append, Cond.selects RX0 yX0_append yX0_append, Cond.initialized RX0, Cond.code yX0_append cX0_append 2 (some .int), Cond.fieldLink RX0 9 "CueTour$Book" "stages" "[I", Cond.fieldLink RX0 20 "CueTour$Book" "count" "I", Cond.methodLink RX5 202 yX5_wearOut, Cond.instanceMethod yX5_wearOut, Cond.selects RX5 yX5_wearOut yX5_wearOut, Cond.code yX5_wearOut cX5_wearOut 4 none, Cond.fieldLink RX5 44 "CueTour" "levels" "[I", Cond.methodLink RX5 235 yX3_startBurning, Cond.instanceMethod yX3_startBurning, Cond.selects RX3 yX3_startBurning yX3_startBurning, Cond.code yX3_startBurning cX3_startBurning 2 none, Cond.fieldLink RX3 33 "CueTour$Rig" "burnt" "[I", Cond.methodLink RX5 238 yX3_burn, Cond.instanceMethod yX3_burn]
def wsX5_perform_r6 : List Cond := [Cond.selects RX3 yX3_burn yX3_burn, Cond.code yX3_burn cX3_burn 5 none, Cond.methodLink RX5 242 yX3_addBurnt, Cond.instanceMethod yX3_addBurnt, Cond.selects RX3 yX3_addBurnt yX3_addBurnt, Cond.code yX3_addBurnt cX3_addBurnt 2 none]
def wsX5_perform : List Cond := .code yX5_perform cX5_perform 3 (some .int) :: ((wsX5_perform_r1 ++ (wsX5_perform_r2 ++ (wsX5_perform_r3 ++ (wsX5_perform_r4 ++ (wsX5_perform_r5 ++ wsX5_perform_r6))))) ++ wsX50 ++ wsX00 ++ wsX40 ++ wsX10 ++ wsX20 ++ wsX30 ++ (vx_atS RX5 216 "java/lang/IndexOutOfBoundsException" ["java/lang/RuntimeException", "java/lang/Exception"]).filter goodWord ++ (vx_atS RX5 228 "java/lang/IllegalStateException" ["java/lang/RuntimeException", "java/lang/Exception"]).filter goodWord)
def wsX5_logs : List Cond := .code yX5_logs cX5_logs 1 (some .int) :: ([.fieldLink RX5 40 "CueTour" "book" "LCueTour$Book;"] ++ wsX50 ++ wsX00)
def wsX5_stageOf : List Cond := .code yX5_stageOf cX5_stageOf 2 (some .int) :: ([.fieldLink RX5 40 "CueTour" "book" "LCueTour$Book;", .methodLink RX5 72 yX5_checkNumber, .static yX5_checkNumber, .initialized RX5, .code yX5_checkNumber cX5_checkNumber 2 none, .classLink RX5 212 "java/lang/IndexOutOfBoundsException", .initialized "java/lang/IndexOutOfBoundsException"] ++ wsX50 ++ wsX00 ++ (vx_atS RX5 216 "java/lang/IndexOutOfBoundsException" ["java/lang/RuntimeException", "java/lang/Exception"]).filter goodWord)
def wsX5_wasShortOf : List Cond := .code yX5_wasShortOf cX5_wasShortOf 3 (some .int) :: ([.fieldLink RX5 40 "CueTour" "book" "LCueTour$Book;", .fieldLink RX5 10 "CueTour" "script" "LCueTour$Script;", .methodLink RX5 72 yX5_checkNumber, .static yX5_checkNumber, .initialized RX5, .code yX5_checkNumber cX5_checkNumber 2 none, .classLink RX5 212 "java/lang/IndexOutOfBoundsException", .initialized "java/lang/IndexOutOfBoundsException"] ++ wsX50 ++ wsX00 ++ wsX40 ++ (vx_atS RX5 216 "java/lang/IndexOutOfBoundsException" ["java/lang/RuntimeException", "java/lang/Exception"]).filter goodWord)
def wsX5_timesShort : List Cond := .code yX5_timesShort cX5_timesShort 2 (some .int) :: ([.fieldLink RX5 10 "CueTour" "script" "LCueTour$Script;", .fieldLink RX5 40 "CueTour" "book" "LCueTour$Book;", .methodLink RX5 72 yX5_checkNumber, .static yX5_checkNumber, .initialized RX5, .code yX5_checkNumber cX5_checkNumber 2 none, .classLink RX5 212 "java/lang/IndexOutOfBoundsException", .initialized "java/lang/IndexOutOfBoundsException", .methodLink RX5 209 yX0_countShortLogs, .instanceMethod yX0_countShortLogs, .selects RX0 yX0_countShortLogs yX0_countShortLogs, .initialized RX0, .code yX0_countShortLogs cX0_countShortLogs 4 (some .int), .fieldLink RX0 20 "CueTour$Book" "count" "I", .fieldLink RX0 17 "CueTour$Book" "shorts" "[[I"] ++ wsX50 ++ wsX40 ++ wsX00 ++ (vx_atS RX5 216 "java/lang/IndexOutOfBoundsException" ["java/lang/RuntimeException", "java/lang/Exception"]).filter goodWord)
def wsX6_init_r1 : List Cond := [Cond.methodLink RX6 1 objectInit, Cond.instanceMethod objectInit, Cond.code objectInit ⟨#[0xb1]⟩ 1 none, Cond.arrayClass .int, Cond.fieldLink RX6 7 "CueTourModel" "seconds" "[I", Cond.arrayClass .boolean, Cond.fieldLink RX6 13 "CueTourModel" "isCut" "[Z", Cond.fieldLink RX6 17 "CueTourModel" "needs" "[I", Cond.fieldLink RX6 20 "CueTourModel" "areaOf" "[I", Cond.fieldLink RX6 23 "CueTourModel" "colourOf" "[I", Cond.fieldLink RX6 26 "CueTourModel" "lineOf" "[I", Cond.fieldLink RX6 29 "CueTourModel" "offset" "[I", Cond.fieldLink RX6 32 "CueTourModel" "fade" "[I", Cond.fieldLink RX6 35 "CueTourModel" "to" "[I", Cond.fieldLink RX6 38 "CueTourModel" "home" "[I", Cond.fieldLink RX6 41 "CueTourModel" "homeArea" "[I", Cond.fieldLink RX6 44 "CueTourModel" "stage" "[I", Cond.fieldLink RX6 47 "CueTourModel" "area" "[I", Cond.fieldLink RX6 50 "CueTourModel" "colour" "[I", Cond.fieldLink RX6 53 "CueTourModel" "power" "[I", Cond.fieldLink RX6 56 "CueTourModel" "wear" "[I", Cond.fieldLink RX6 59 "CueTourModel" "played" "[I", Cond.fieldLink RX6 62 "CueTourModel" "wasShort" "[I", Cond.fieldLink RX6 65 "CueTourModel" "order" "[I"]
def wsX6_init_r2 : List Cond := [Cond.fieldLink RX6 68 "CueTourModel" "row" "[I", Cond.fieldLink RX6 71 "CueTourModel" "start" "[I", Cond.fieldLink RX6 74 "CueTourModel" "laid" "[I", Cond.fieldLink RX6 77 "CueTourModel" "levels" "[I", Cond.fieldLink RX6 80 "CueTourModel" "burns" "[I"]
def wsX6_init : List Cond := .code yX6_init cX6_init 2 none :: ((wsX6_init_r1 ++ wsX6_init_r2) ++ wsX60)
def wsX6_thrown : List Cond := .code yX6_thrown cX6_thrown 1 (some .int) :: ([.fieldLink RX6 83 "CueTourModel" "thrown" "I"] ++ wsX60)
def wsX6_isFine : List Cond := .code yX6_isFine cX6_isFine 2 (some .boolean) :: ([.fieldLink RX6 83 "CueTourModel" "thrown" "I"] ++ wsX60)
def wsX6_isIn : List Cond := .code yX6_isIn cX6_isIn 3 (some .boolean) :: ([])
def wsX6_isLine : List Cond := .code yX6_isLine cX6_isLine 2 (some .boolean) :: ([.fieldLink RX6 87 "CueTourModel" "lines" "I", .methodLink RX6 90 yX6_isIn, .static yX6_isIn, .initialized RX6, .code yX6_isIn cX6_isIn 3 (some .boolean)] ++ wsX60)
def wsX6_isArea : List Cond := .code yX6_isArea cX6_isArea 1 (some .boolean) :: ([.methodLink RX6 90 yX6_isIn, .static yX6_isIn, .initialized RX6, .code yX6_isIn cX6_isIn 3 (some .boolean)])
def wsX6_isChannel : List Cond := .code yX6_isChannel cX6_isChannel 1 (some .boolean) :: ([.methodLink RX6 90 yX6_isIn, .static yX6_isIn, .initialized RX6, .code yX6_isIn cX6_isIn 3 (some .boolean)])
def wsX6_isStage : List Cond := .code yX6_isStage cX6_isStage 1 (some .boolean) :: ([.methodLink RX6 90 yX6_isIn, .static yX6_isIn, .initialized RX6, .code yX6_isIn cX6_isIn 3 (some .boolean)])
def wsX6_isTime : List Cond := .code yX6_isTime cX6_isTime 1 (some .boolean) :: ([.methodLink RX6 90 yX6_isIn, .static yX6_isIn, .initialized RX6, .code yX6_isIn cX6_isIn 3 (some .boolean)])
def wsX6_addLine : List Cond := .code yX6_addLine cX6_addLine 2 (some .int) :: ([.fieldLink RX6 87 "CueTourModel" "lines" "I", .fieldLink RX6 7 "CueTourModel" "seconds" "[I", .methodLink RX6 90 yX6_isIn, .static yX6_isIn, .initialized RX6, .code yX6_isIn cX6_isIn 3 (some .boolean), .methodLink RX6 94 yX6_isFine, .instanceMethod yX6_isFine, .selects RX6 yX6_isFine yX6_isFine, .code yX6_isFine cX6_isFine 2 (some .boolean), .fieldLink RX6 83 "CueTourModel" "thrown" "I"] ++ wsX60)
def wsX6_need : List Cond := .code yX6_need cX6_need 6 (some .int) :: ([.fieldLink RX6 17 "CueTourModel" "needs" "[I", .methodLink RX6 98 yX6_isLine, .instanceMethod yX6_isLine, .selects RX6 yX6_isLine yX6_isLine, .initialized RX6, .code yX6_isLine cX6_isLine 2 (some .boolean), .fieldLink RX6 87 "CueTourModel" "lines" "I", .methodLink RX6 90 yX6_isIn, .static yX6_isIn, .code yX6_isIn cX6_isIn 3 (some .boolean), .methodLink RX6 101 yX6_isArea, .static yX6_isArea, .code yX6_isArea cX6_isArea 1 (some .boolean), .methodLink RX6 94 yX6_isFine, .instanceMethod yX6_isFine, .selects RX6 yX6_isFine yX6_isFine, .code yX6_isFine cX6_isFine 2 (some .boolean), .fieldLink RX6 83 "CueTourModel" "thrown" "I"] ++ wsX60)
def wsX6_ahead : List Cond := .code yX6_ahead cX6_ahead 4 (some .int) :: ([.fieldLink RX6 13 "CueTourModel" "isCut" "[Z", .fieldLink RX6 7 "CueTourModel" "seconds" "[I"] ++ wsX60)
def wsX6_cut : List Cond := .code yX6_cut cX6_cut 3 (some .int) :: ([.fieldLink RX6 13 "CueTourModel" "isCut" "[Z", .fieldLink RX6 87 "CueTourModel" "lines" "I", .methodLink RX6 98 yX6_isLine, .instanceMethod yX6_isLine, .selects RX6 yX6_isLine yX6_isLine, .initialized RX6, .code yX6_isLine cX6_isLine 2 (some .boolean), .methodLink RX6 90 yX6_isIn, .static yX6_isIn, .code yX6_isIn cX6_isIn 3 (some .boolean), .methodLink RX6 94 yX6_isFine, .instanceMethod yX6_isFine, .selects RX6 yX6_isFine yX6_isFine, .code yX6_isFine cX6_isFine 2 (some .boolean), .fieldLink RX6 83 "CueTourModel" "thrown" "I", .methodLink RX6 104 yX6_ahead, .instanceMethod yX6_ahead, .selects RX6 yX6_ahead yX6_ahead, .code yX6_ahead cX6_ahead 4 (some .int), .fieldLink RX6 7 "CueTourModel" "seconds" "[I"] ++ wsX60)
def wsX6_lines : List Cond := .code yX6_lines cX6_lines 1 (some .int) :: ([.fieldLink RX6 83 "CueTourModel" "thrown" "I", .fieldLink RX6 87 "CueTourModel" "lines" "I"] ++ wsX60)
def wsX6_startOf : List Cond := .code yX6_startOf cX6_startOf 2 (some .int) :: ([.fieldLink RX6 13 "CueTourModel" "isCut" "[Z", .methodLink RX6 98 yX6_isLine, .instanceMethod yX6_isLine, .selects RX6 yX6_isLine yX6_isLine, .initialized RX6, .code yX6_isLine cX6_isLine 2 (some .boolean), .fieldLink RX6 87 "CueTourModel" "lines" "I", .methodLink RX6 90 yX6_isIn, .static yX6_isIn, .code yX6_isIn cX6_isIn 3 (some .boolean), .methodLink RX6 94 yX6_isFine, .instanceMethod yX6_isFine, .selects RX6 yX6_isFine yX6_isFine, .code yX6_isFine cX6_isFine 2 (some .boolean), .fieldLink RX6 83 "CueTourModel" "thrown" "I", .methodLink RX6 104 yX6_ahead, .instanceMethod yX6_ahead, .selects RX6 yX6_ahead yX6_ahead, .code yX6_ahead cX6_ahead 4 (some .int), .fieldLink RX6 7 "CueTourModel" "seconds" "[I"] ++ wsX60)
def wsX6_length : List Cond := .code yX6_length cX6_length 1 (some .int) :: ([.fieldLink RX6 83 "CueTourModel" "thrown" "I", .fieldLink RX6 87 "CueTourModel" "lines" "I", .methodLink RX6 104 yX6_ahead, .instanceMethod yX6_ahead, .selects RX6 yX6_ahead yX6_ahead, .initialized RX6, .code yX6_ahead cX6_ahead 4 (some .int), .fieldLink RX6 13 "CueTourModel" "isCut" "[Z", .fieldLink RX6 7 "CueTourModel" "seconds" "[I"] ++ wsX60)
def wsX6_setChannel : List Cond := .code yX6_setChannel cX6_setChannel 6 (some .int) :: ([.fieldLink RX6 20 "CueTourModel" "areaOf" "[I", .fieldLink RX6 23 "CueTourModel" "colourOf" "[I", .methodLink RX6 108 yX6_isChannel, .static yX6_isChannel, .initialized RX6, .code yX6_isChannel cX6_isChannel 1 (some .boolean), .methodLink RX6 90 yX6_isIn, .static yX6_isIn, .code yX6_isIn cX6_isIn 3 (some .boolean), .methodLink RX6 101 yX6_isArea, .static yX6_isArea, .code yX6_isArea cX6_isArea 1 (some .boolean), .methodLink RX6 94 yX6_isFine, .instanceMethod yX6_isFine, .selects RX6 yX6_isFine yX6_isFine, .code yX6_isFine cX6_isFine 2 (some .boolean), .fieldLink RX6 83 "CueTourModel" "thrown" "I"] ++ wsX60)
def wsX6_isFade : List Cond := .code yX6_isFade cX6_isFade 2 (some .boolean) :: ([.methodLink RX6 90 yX6_isIn, .static yX6_isIn, .initialized RX6, .code yX6_isIn cX6_isIn 3 (some .boolean)])
def wsX6_isCue : List Cond := .code yX6_isCue cX6_isCue 2 (some .boolean) :: ([.fieldLink RX6 111 "CueTourModel" "cues" "I", .methodLink RX6 90 yX6_isIn, .static yX6_isIn, .initialized RX6, .code yX6_isIn cX6_isIn 3 (some .boolean)] ++ wsX60)
def wsX6_addCue : List Cond := .code yX6_addCue cX6_addCue 5 (some .int) :: ([.fieldLink RX6 111 "CueTourModel" "cues" "I", .fieldLink RX6 26 "CueTourModel" "lineOf" "[I", .fieldLink RX6 29 "CueTourModel" "offset" "[I", .fieldLink RX6 32 "CueTourModel" "fade" "[I", .fieldLink RX6 35 "CueTourModel" "to" "[I", .methodLink RX6 98 yX6_isLine, .instanceMethod yX6_isLine, .selects RX6 yX6_isLine yX6_isLine, .initialized RX6, .code yX6_isLine cX6_isLine 2 (some .boolean), .fieldLink RX6 87 "CueTourModel" "lines" "I", .methodLink RX6 90 yX6_isIn, .static yX6_isIn, .code yX6_isIn cX6_isIn 3 (some .boolean), .methodLink RX6 114 yX6_isFade, .static yX6_isFade, .code yX6_isFade cX6_isFade 2 (some .boolean), .methodLink RX6 94 yX6_isFine, .instanceMethod yX6_isFine, .selects RX6 yX6_isFine yX6_isFine, .code yX6_isFine cX6_isFine 2 (some .boolean), .fieldLink RX6 83 "CueTourModel" "thrown" "I"] ++ wsX60)
def wsX6_move_r1 : List Cond := [Cond.fieldLink RX6 26 "CueTourModel" "lineOf" "[I", Cond.fieldLink RX6 29 "CueTourModel" "offset" "[I", Cond.fieldLink RX6 32 "CueTourModel" "fade" "[I", Cond.methodLink RX6 118 yX6_isCue, Cond.instanceMethod yX6_isCue, Cond.selects RX6 yX6_isCue yX6_isCue, Cond.initialized RX6, Cond.code yX6_isCue cX6_isCue 2 (some .boolean), Cond.fieldLink RX6 111 "CueTourModel" "cues" "I", Cond.methodLink RX6 90 yX6_isIn, Cond.static yX6_isIn, Cond.code yX6_isIn cX6_isIn 3 (some .boolean), Cond.methodLink RX6 98 yX6_isLine, Cond.instanceMethod yX6_isLine, Cond.selects RX6 yX6_isLine yX6_isLine, Cond.code yX6_isLine cX6_isLine 2 (some .boolean), Cond.fieldLink RX6 87 "CueTourModel" "lines" "I", Cond.methodLink RX6 114 yX6_isFade, Cond.static yX6_isFade, Cond.code yX6_isFade cX6_isFade 2 (some .boolean), Cond.methodLink RX6 94 yX6_isFine, Cond.instanceMethod yX6_isFine, Cond.selects RX6 yX6_isFine yX6_isFine, Cond.code yX6_isFine cX6_isFine 2 (some .boolean)]
def wsX6_move_r2 : List Cond := [Cond.fieldLink RX6 83 "CueTourModel" "thrown" "I"]
def wsX6_move : List Cond := .code yX6_move cX6_move 7 (some .int) :: ((wsX6_move_r1 ++ wsX6_move_r2) ++ wsX60)
def wsX6_change : List Cond := .code yX6_change cX6_change 6 (some .int) :: ([.fieldLink RX6 35 "CueTourModel" "to" "[I", .methodLink RX6 118 yX6_isCue, .instanceMethod yX6_isCue, .selects RX6 yX6_isCue yX6_isCue, .initialized RX6, .code yX6_isCue cX6_isCue 2 (some .boolean), .fieldLink RX6 111 "CueTourModel" "cues" "I", .methodLink RX6 90 yX6_isIn, .static yX6_isIn, .code yX6_isIn cX6_isIn 3 (some .boolean), .methodLink RX6 108 yX6_isChannel, .static yX6_isChannel, .code yX6_isChannel cX6_isChannel 1 (some .boolean), .methodLink RX6 94 yX6_isFine, .instanceMethod yX6_isFine, .selects RX6 yX6_isFine yX6_isFine, .code yX6_isFine cX6_isFine 2 (some .boolean), .fieldLink RX6 83 "CueTourModel" "thrown" "I"] ++ wsX60)
def wsX6_cues : List Cond := .code yX6_cues cX6_cues 1 (some .int) :: ([.fieldLink RX6 83 "CueTourModel" "thrown" "I", .fieldLink RX6 111 "CueTourModel" "cues" "I"] ++ wsX60)
def wsX6_isPlayed : List Cond := .code yX6_isPlayed cX6_isPlayed 2 (some .boolean) :: ([.fieldLink RX6 13 "CueTourModel" "isCut" "[Z", .fieldLink RX6 26 "CueTourModel" "lineOf" "[I"] ++ wsX60)
def wsX6_when : List Cond := .code yX6_when cX6_when 2 (some .int) :: ([.fieldLink RX6 71 "CueTourModel" "start" "[I", .fieldLink RX6 26 "CueTourModel" "lineOf" "[I", .fieldLink RX6 29 "CueTourModel" "offset" "[I"] ++ wsX60)
def wsX6_isAhead : List Cond := .code yX6_isAhead cX6_isAhead 3 (some .boolean) :: ([.fieldLink RX6 26 "CueTourModel" "lineOf" "[I", .fieldLink RX6 29 "CueTourModel" "offset" "[I"] ++ wsX60)
def wsX6_orders : List Cond := .code yX6_orders cX6_orders 4 none :: ([.fieldLink RX6 111 "CueTourModel" "cues" "I", .fieldLink RX6 65 "CueTourModel" "order" "[I", .methodLink RX6 121 yX6_isAhead, .instanceMethod yX6_isAhead, .selects RX6 yX6_isAhead yX6_isAhead, .initialized RX6, .code yX6_isAhead cX6_isAhead 3 (some .boolean), .fieldLink RX6 26 "CueTourModel" "lineOf" "[I", .fieldLink RX6 29 "CueTourModel" "offset" "[I"] ++ wsX60)
def wsX6_plays_r1 : List Cond := [Cond.fieldLink RX6 87 "CueTourModel" "lines" "I", Cond.fieldLink RX6 71 "CueTourModel" "start" "[I", Cond.fieldLink RX6 13 "CueTourModel" "isCut" "[Z", Cond.fieldLink RX6 7 "CueTourModel" "seconds" "[I", Cond.fieldLink RX6 127 "CueTourModel" "rows" "I", Cond.fieldLink RX6 111 "CueTourModel" "cues" "I", Cond.fieldLink RX6 65 "CueTourModel" "order" "[I", Cond.fieldLink RX6 68 "CueTourModel" "row" "[I", Cond.methodLink RX6 124 yX6_orders, Cond.instanceMethod yX6_orders, Cond.selects RX6 yX6_orders yX6_orders, Cond.initialized RX6, Cond.code yX6_orders cX6_orders 4 none, Cond.methodLink RX6 121 yX6_isAhead, Cond.instanceMethod yX6_isAhead, Cond.selects RX6 yX6_isAhead yX6_isAhead, Cond.code yX6_isAhead cX6_isAhead 3 (some .boolean), Cond.fieldLink RX6 26 "CueTourModel" "lineOf" "[I", Cond.fieldLink RX6 29 "CueTourModel" "offset" "[I", Cond.methodLink RX6 130 yX6_isPlayed, Cond.instanceMethod yX6_isPlayed, Cond.selects RX6 yX6_isPlayed yX6_isPlayed, Cond.code yX6_isPlayed cX6_isPlayed 2 (some .boolean), Cond.methodLink RX6 133 yX6_when]
def wsX6_plays_r2 : List Cond := [Cond.instanceMethod yX6_when, Cond.selects RX6 yX6_when yX6_when, Cond.code yX6_when cX6_when 2 (some .int)]
def wsX6_plays : List Cond := .code yX6_plays cX6_plays 3 none :: ((wsX6_plays_r1 ++ wsX6_plays_r2) ++ wsX60)
def wsX6_placeOf : List Cond := .code yX6_placeOf cX6_placeOf 3 (some .int) :: ([.fieldLink RX6 65 "CueTourModel" "order" "[I"] ++ wsX60)
def wsX6_cueAt : List Cond := .code yX6_cueAt cX6_cueAt 2 (some .int) :: ([.fieldLink RX6 111 "CueTourModel" "cues" "I", .fieldLink RX6 65 "CueTourModel" "order" "[I", .methodLink RX6 90 yX6_isIn, .static yX6_isIn, .initialized RX6, .code yX6_isIn cX6_isIn 3 (some .boolean), .methodLink RX6 94 yX6_isFine, .instanceMethod yX6_isFine, .selects RX6 yX6_isFine yX6_isFine, .code yX6_isFine cX6_isFine 2 (some .boolean), .fieldLink RX6 83 "CueTourModel" "thrown" "I", .methodLink RX6 124 yX6_orders, .instanceMethod yX6_orders, .selects RX6 yX6_orders yX6_orders, .code yX6_orders cX6_orders 4 none, .methodLink RX6 121 yX6_isAhead, .instanceMethod yX6_isAhead, .selects RX6 yX6_isAhead yX6_isAhead, .code yX6_isAhead cX6_isAhead 3 (some .boolean), .fieldLink RX6 26 "CueTourModel" "lineOf" "[I", .fieldLink RX6 29 "CueTourModel" "offset" "[I"] ++ wsX60)
def wsX6_timeOf_r1 : List Cond := [Cond.fieldLink RX6 26 "CueTourModel" "lineOf" "[I", Cond.fieldLink RX6 29 "CueTourModel" "offset" "[I", Cond.methodLink RX6 118 yX6_isCue, Cond.instanceMethod yX6_isCue, Cond.selects RX6 yX6_isCue yX6_isCue, Cond.initialized RX6, Cond.code yX6_isCue cX6_isCue 2 (some .boolean), Cond.fieldLink RX6 111 "CueTourModel" "cues" "I", Cond.methodLink RX6 90 yX6_isIn, Cond.static yX6_isIn, Cond.code yX6_isIn cX6_isIn 3 (some .boolean), Cond.methodLink RX6 94 yX6_isFine, Cond.instanceMethod yX6_isFine, Cond.selects RX6 yX6_isFine yX6_isFine, Cond.code yX6_isFine cX6_isFine 2 (some .boolean), Cond.fieldLink RX6 83 "CueTourModel" "thrown" "I", Cond.methodLink RX6 130 yX6_isPlayed, Cond.instanceMethod yX6_isPlayed, Cond.selects RX6 yX6_isPlayed yX6_isPlayed, Cond.code yX6_isPlayed cX6_isPlayed 2 (some .boolean), Cond.fieldLink RX6 13 "CueTourModel" "isCut" "[Z", Cond.methodLink RX6 104 yX6_ahead, Cond.instanceMethod yX6_ahead, Cond.selects RX6 yX6_ahead yX6_ahead]
def wsX6_timeOf_r2 : List Cond := [Cond.code yX6_ahead cX6_ahead 4 (some .int), Cond.fieldLink RX6 7 "CueTourModel" "seconds" "[I"]
def wsX6_timeOf : List Cond := .code yX6_timeOf cX6_timeOf 2 (some .int) :: ((wsX6_timeOf_r1 ++ wsX6_timeOf_r2) ++ wsX60)
def wsX6_foldedInto_r1 : List Cond := [Cond.fieldLink RX6 111 "CueTourModel" "cues" "I", Cond.fieldLink RX6 65 "CueTourModel" "order" "[I", Cond.methodLink RX6 118 yX6_isCue, Cond.instanceMethod yX6_isCue, Cond.selects RX6 yX6_isCue yX6_isCue, Cond.initialized RX6, Cond.code yX6_isCue cX6_isCue 2 (some .boolean), Cond.methodLink RX6 90 yX6_isIn, Cond.static yX6_isIn, Cond.code yX6_isIn cX6_isIn 3 (some .boolean), Cond.methodLink RX6 94 yX6_isFine, Cond.instanceMethod yX6_isFine, Cond.selects RX6 yX6_isFine yX6_isFine, Cond.code yX6_isFine cX6_isFine 2 (some .boolean), Cond.fieldLink RX6 83 "CueTourModel" "thrown" "I", Cond.methodLink RX6 124 yX6_orders, Cond.instanceMethod yX6_orders, Cond.selects RX6 yX6_orders yX6_orders, Cond.code yX6_orders cX6_orders 4 none, Cond.methodLink RX6 121 yX6_isAhead, Cond.instanceMethod yX6_isAhead, Cond.selects RX6 yX6_isAhead yX6_isAhead, Cond.code yX6_isAhead cX6_isAhead 3 (some .boolean), Cond.fieldLink RX6 26 "CueTourModel" "lineOf" "[I"]
def wsX6_foldedInto_r2 : List Cond := [Cond.fieldLink RX6 29 "CueTourModel" "offset" "[I", Cond.methodLink RX6 136 yX6_placeOf, Cond.instanceMethod yX6_placeOf, Cond.selects RX6 yX6_placeOf yX6_placeOf, Cond.code yX6_placeOf cX6_placeOf 3 (some .int), Cond.methodLink RX6 130 yX6_isPlayed, Cond.instanceMethod yX6_isPlayed, Cond.selects RX6 yX6_isPlayed yX6_isPlayed, Cond.code yX6_isPlayed cX6_isPlayed 2 (some .boolean), Cond.fieldLink RX6 13 "CueTourModel" "isCut" "[Z"]
def wsX6_foldedInto : List Cond := .code yX6_foldedInto cX6_foldedInto 3 (some .int) :: ((wsX6_foldedInto_r1 ++ wsX6_foldedInto_r2) ++ wsX60)
def wsX6_changesAt : List Cond := .code yX6_changesAt cX6_changesAt 5 (some .int) :: ([.fieldLink RX6 35 "CueTourModel" "to" "[I", .fieldLink RX6 65 "CueTourModel" "order" "[I", .methodLink RX6 130 yX6_isPlayed, .instanceMethod yX6_isPlayed, .selects RX6 yX6_isPlayed yX6_isPlayed, .initialized RX6, .code yX6_isPlayed cX6_isPlayed 2 (some .boolean), .fieldLink RX6 13 "CueTourModel" "isCut" "[Z", .fieldLink RX6 26 "CueTourModel" "lineOf" "[I"] ++ wsX60)
def wsX6_changes_r1 : List Cond := [Cond.methodLink RX6 118 yX6_isCue, Cond.instanceMethod yX6_isCue, Cond.selects RX6 yX6_isCue yX6_isCue, Cond.initialized RX6, Cond.code yX6_isCue cX6_isCue 2 (some .boolean), Cond.fieldLink RX6 111 "CueTourModel" "cues" "I", Cond.methodLink RX6 90 yX6_isIn, Cond.static yX6_isIn, Cond.code yX6_isIn cX6_isIn 3 (some .boolean), Cond.methodLink RX6 108 yX6_isChannel, Cond.static yX6_isChannel, Cond.code yX6_isChannel cX6_isChannel 1 (some .boolean), Cond.methodLink RX6 94 yX6_isFine, Cond.instanceMethod yX6_isFine, Cond.selects RX6 yX6_isFine yX6_isFine, Cond.code yX6_isFine cX6_isFine 2 (some .boolean), Cond.fieldLink RX6 83 "CueTourModel" "thrown" "I", Cond.methodLink RX6 124 yX6_orders, Cond.instanceMethod yX6_orders, Cond.selects RX6 yX6_orders yX6_orders, Cond.code yX6_orders cX6_orders 4 none, Cond.fieldLink RX6 65 "CueTourModel" "order" "[I", Cond.methodLink RX6 121 yX6_isAhead, Cond.instanceMethod yX6_isAhead]
def wsX6_changes_r2 : List Cond := [Cond.selects RX6 yX6_isAhead yX6_isAhead, Cond.code yX6_isAhead cX6_isAhead 3 (some .boolean), Cond.fieldLink RX6 26 "CueTourModel" "lineOf" "[I", Cond.fieldLink RX6 29 "CueTourModel" "offset" "[I", Cond.methodLink RX6 130 yX6_isPlayed, Cond.instanceMethod yX6_isPlayed, Cond.selects RX6 yX6_isPlayed yX6_isPlayed, Cond.code yX6_isPlayed cX6_isPlayed 2 (some .boolean), Cond.fieldLink RX6 13 "CueTourModel" "isCut" "[Z", Cond.methodLink RX6 136 yX6_placeOf, Cond.instanceMethod yX6_placeOf, Cond.selects RX6 yX6_placeOf yX6_placeOf, Cond.code yX6_placeOf cX6_placeOf 3 (some .int), Cond.methodLink RX6 139 yX6_changesAt, Cond.instanceMethod yX6_changesAt, Cond.selects RX6 yX6_changesAt yX6_changesAt, Cond.code yX6_changesAt cX6_changesAt 5 (some .int), Cond.fieldLink RX6 35 "CueTourModel" "to" "[I"]
def wsX6_changes : List Cond := .code yX6_changes cX6_changes 3 (some .int) :: ((wsX6_changes_r1 ++ wsX6_changes_r2) ++ wsX60)
def wsX6_behind : List Cond := .code yX6_behind cX6_behind 4 (some .int) :: ([])
def wsX6_level_r1 : List Cond := [Cond.fieldLink RX6 127 "CueTourModel" "rows" "I", Cond.fieldLink RX6 65 "CueTourModel" "order" "[I", Cond.fieldLink RX6 68 "CueTourModel" "row" "[I", Cond.fieldLink RX6 32 "CueTourModel" "fade" "[I", Cond.methodLink RX6 133 yX6_when, Cond.instanceMethod yX6_when, Cond.selects RX6 yX6_when yX6_when, Cond.initialized RX6, Cond.code yX6_when cX6_when 2 (some .int), Cond.fieldLink RX6 71 "CueTourModel" "start" "[I", Cond.fieldLink RX6 26 "CueTourModel" "lineOf" "[I", Cond.fieldLink RX6 29 "CueTourModel" "offset" "[I", Cond.methodLink RX6 139 yX6_changesAt, Cond.instanceMethod yX6_changesAt, Cond.selects RX6 yX6_changesAt yX6_changesAt, Cond.code yX6_changesAt cX6_changesAt 5 (some .int), Cond.fieldLink RX6 35 "CueTourModel" "to" "[I", Cond.methodLink RX6 130 yX6_isPlayed, Cond.instanceMethod yX6_isPlayed, Cond.selects RX6 yX6_isPlayed yX6_isPlayed, Cond.code yX6_isPlayed cX6_isPlayed 2 (some .boolean), Cond.fieldLink RX6 13 "CueTourModel" "isCut" "[Z", Cond.methodLink RX6 143 yX6_behind, Cond.static yX6_behind]
def wsX6_level_r2 : List Cond := [Cond.code yX6_behind cX6_behind 4 (some .int)]
def wsX6_level : List Cond := .code yX6_level cX6_level 11 (some .int) :: ((wsX6_level_r1 ++ wsX6_level_r2) ++ wsX60)
def wsX6_levelNow_r1 : List Cond := [Cond.methodLink RX6 108 yX6_isChannel, Cond.static yX6_isChannel, Cond.initialized RX6, Cond.code yX6_isChannel cX6_isChannel 1 (some .boolean), Cond.methodLink RX6 90 yX6_isIn, Cond.static yX6_isIn, Cond.code yX6_isIn cX6_isIn 3 (some .boolean), Cond.methodLink RX6 147 yX6_isTime, Cond.static yX6_isTime, Cond.code yX6_isTime cX6_isTime 1 (some .boolean), Cond.methodLink RX6 94 yX6_isFine, Cond.instanceMethod yX6_isFine, Cond.selects RX6 yX6_isFine yX6_isFine, Cond.code yX6_isFine cX6_isFine 2 (some .boolean), Cond.fieldLink RX6 83 "CueTourModel" "thrown" "I", Cond.methodLink RX6 150 yX6_plays, Cond.instanceMethod yX6_plays, Cond.selects RX6 yX6_plays yX6_plays, Cond.code yX6_plays cX6_plays 3 none, Cond.fieldLink RX6 87 "CueTourModel" "lines" "I", Cond.fieldLink RX6 71 "CueTourModel" "start" "[I", Cond.fieldLink RX6 13 "CueTourModel" "isCut" "[Z", Cond.fieldLink RX6 7 "CueTourModel" "seconds" "[I", Cond.fieldLink RX6 127 "CueTourModel" "rows" "I"]
def wsX6_levelNow_r2 : List Cond := [Cond.fieldLink RX6 111 "CueTourModel" "cues" "I", Cond.fieldLink RX6 65 "CueTourModel" "order" "[I", Cond.fieldLink RX6 68 "CueTourModel" "row" "[I", Cond.methodLink RX6 124 yX6_orders, Cond.instanceMethod yX6_orders, Cond.selects RX6 yX6_orders yX6_orders, Cond.code yX6_orders cX6_orders 4 none, Cond.methodLink RX6 121 yX6_isAhead, Cond.instanceMethod yX6_isAhead, Cond.selects RX6 yX6_isAhead yX6_isAhead, Cond.code yX6_isAhead cX6_isAhead 3 (some .boolean), Cond.fieldLink RX6 26 "CueTourModel" "lineOf" "[I", Cond.fieldLink RX6 29 "CueTourModel" "offset" "[I", Cond.methodLink RX6 130 yX6_isPlayed, Cond.instanceMethod yX6_isPlayed, Cond.selects RX6 yX6_isPlayed yX6_isPlayed, Cond.code yX6_isPlayed cX6_isPlayed 2 (some .boolean), Cond.methodLink RX6 133 yX6_when, Cond.instanceMethod yX6_when, Cond.selects RX6 yX6_when yX6_when, Cond.code yX6_when cX6_when 2 (some .int), Cond.methodLink RX6 153 yX6_level, Cond.instanceMethod yX6_level, Cond.selects RX6 yX6_level yX6_level]
def wsX6_levelNow_r3 : List Cond := [Cond.code yX6_level cX6_level 11 (some .int), Cond.fieldLink RX6 32 "CueTourModel" "fade" "[I", Cond.methodLink RX6 139 yX6_changesAt, Cond.instanceMethod yX6_changesAt, Cond.selects RX6 yX6_changesAt yX6_changesAt, Cond.code yX6_changesAt cX6_changesAt 5 (some .int), Cond.fieldLink RX6 35 "CueTourModel" "to" "[I", Cond.methodLink RX6 143 yX6_behind, Cond.static yX6_behind, Cond.code yX6_behind cX6_behind 4 (some .int)]
def wsX6_levelNow : List Cond := .code yX6_levelNow cX6_levelNow 3 (some .int) :: ((wsX6_levelNow_r1 ++ (wsX6_levelNow_r2 ++ wsX6_levelNow_r3)) ++ wsX60)
def wsX6_levelAt_r1 : List Cond := [Cond.methodLink RX6 156 yX6_levelNow, Cond.instanceMethod yX6_levelNow, Cond.selects RX6 yX6_levelNow yX6_levelNow, Cond.initialized RX6, Cond.code yX6_levelNow cX6_levelNow 3 (some .int), Cond.methodLink RX6 108 yX6_isChannel, Cond.static yX6_isChannel, Cond.code yX6_isChannel cX6_isChannel 1 (some .boolean), Cond.methodLink RX6 90 yX6_isIn, Cond.static yX6_isIn, Cond.code yX6_isIn cX6_isIn 3 (some .boolean), Cond.methodLink RX6 147 yX6_isTime, Cond.static yX6_isTime, Cond.code yX6_isTime cX6_isTime 1 (some .boolean), Cond.methodLink RX6 94 yX6_isFine, Cond.instanceMethod yX6_isFine, Cond.selects RX6 yX6_isFine yX6_isFine, Cond.code yX6_isFine cX6_isFine 2 (some .boolean), Cond.fieldLink RX6 83 "CueTourModel" "thrown" "I", Cond.methodLink RX6 150 yX6_plays, Cond.instanceMethod yX6_plays, Cond.selects RX6 yX6_plays yX6_plays, Cond.code yX6_plays cX6_plays 3 none, Cond.fieldLink RX6 87 "CueTourModel" "lines" "I"]
def wsX6_levelAt_r2 : List Cond := [Cond.fieldLink RX6 71 "CueTourModel" "start" "[I", Cond.fieldLink RX6 13 "CueTourModel" "isCut" "[Z", Cond.fieldLink RX6 7 "CueTourModel" "seconds" "[I", Cond.fieldLink RX6 127 "CueTourModel" "rows" "I", Cond.fieldLink RX6 111 "CueTourModel" "cues" "I", Cond.fieldLink RX6 65 "CueTourModel" "order" "[I", Cond.fieldLink RX6 68 "CueTourModel" "row" "[I", Cond.methodLink RX6 124 yX6_orders, Cond.instanceMethod yX6_orders, Cond.selects RX6 yX6_orders yX6_orders, Cond.code yX6_orders cX6_orders 4 none, Cond.methodLink RX6 121 yX6_isAhead, Cond.instanceMethod yX6_isAhead, Cond.selects RX6 yX6_isAhead yX6_isAhead, Cond.code yX6_isAhead cX6_isAhead 3 (some .boolean), Cond.fieldLink RX6 26 "CueTourModel" "lineOf" "[I", Cond.fieldLink RX6 29 "CueTourModel" "offset" "[I", Cond.methodLink RX6 130 yX6_isPlayed, Cond.instanceMethod yX6_isPlayed, Cond.selects RX6 yX6_isPlayed yX6_isPlayed, Cond.code yX6_isPlayed cX6_isPlayed 2 (some .boolean), Cond.methodLink RX6 133 yX6_when, Cond.instanceMethod yX6_when, Cond.selects RX6 yX6_when yX6_when]
def wsX6_levelAt_r3 : List Cond := [Cond.code yX6_when cX6_when 2 (some .int), Cond.methodLink RX6 153 yX6_level, Cond.instanceMethod yX6_level, Cond.selects RX6 yX6_level yX6_level, Cond.code yX6_level cX6_level 11 (some .int), Cond.fieldLink RX6 32 "CueTourModel" "fade" "[I", Cond.methodLink RX6 139 yX6_changesAt, Cond.instanceMethod yX6_changesAt, Cond.selects RX6 yX6_changesAt yX6_changesAt, Cond.code yX6_changesAt cX6_changesAt 5 (some .int), Cond.fieldLink RX6 35 "CueTourModel" "to" "[I", Cond.methodLink RX6 143 yX6_behind, Cond.static yX6_behind, Cond.code yX6_behind cX6_behind 4 (some .int)]
def wsX6_levelAt : List Cond := .code yX6_levelAt cX6_levelAt 3 (some .int) :: ((wsX6_levelAt_r1 ++ (wsX6_levelAt_r2 ++ wsX6_levelAt_r3)) ++ wsX60)
def wsX6_levelBySeconds_r1 : List Cond := [Cond.methodLink RX6 156 yX6_levelNow, Cond.instanceMethod yX6_levelNow, Cond.selects RX6 yX6_levelNow yX6_levelNow, Cond.initialized RX6, Cond.code yX6_levelNow cX6_levelNow 3 (some .int), Cond.methodLink RX6 108 yX6_isChannel, Cond.static yX6_isChannel, Cond.code yX6_isChannel cX6_isChannel 1 (some .boolean), Cond.methodLink RX6 90 yX6_isIn, Cond.static yX6_isIn, Cond.code yX6_isIn cX6_isIn 3 (some .boolean), Cond.methodLink RX6 147 yX6_isTime, Cond.static yX6_isTime, Cond.code yX6_isTime cX6_isTime 1 (some .boolean), Cond.methodLink RX6 94 yX6_isFine, Cond.instanceMethod yX6_isFine, Cond.selects RX6 yX6_isFine yX6_isFine, Cond.code yX6_isFine cX6_isFine 2 (some .boolean), Cond.fieldLink RX6 83 "CueTourModel" "thrown" "I", Cond.methodLink RX6 150 yX6_plays, Cond.instanceMethod yX6_plays, Cond.selects RX6 yX6_plays yX6_plays, Cond.code yX6_plays cX6_plays 3 none, Cond.fieldLink RX6 87 "CueTourModel" "lines" "I"]
def wsX6_levelBySeconds_r2 : List Cond := [Cond.fieldLink RX6 71 "CueTourModel" "start" "[I", Cond.fieldLink RX6 13 "CueTourModel" "isCut" "[Z", Cond.fieldLink RX6 7 "CueTourModel" "seconds" "[I", Cond.fieldLink RX6 127 "CueTourModel" "rows" "I", Cond.fieldLink RX6 111 "CueTourModel" "cues" "I", Cond.fieldLink RX6 65 "CueTourModel" "order" "[I", Cond.fieldLink RX6 68 "CueTourModel" "row" "[I", Cond.methodLink RX6 124 yX6_orders, Cond.instanceMethod yX6_orders, Cond.selects RX6 yX6_orders yX6_orders, Cond.code yX6_orders cX6_orders 4 none, Cond.methodLink RX6 121 yX6_isAhead, Cond.instanceMethod yX6_isAhead, Cond.selects RX6 yX6_isAhead yX6_isAhead, Cond.code yX6_isAhead cX6_isAhead 3 (some .boolean), Cond.fieldLink RX6 26 "CueTourModel" "lineOf" "[I", Cond.fieldLink RX6 29 "CueTourModel" "offset" "[I", Cond.methodLink RX6 130 yX6_isPlayed, Cond.instanceMethod yX6_isPlayed, Cond.selects RX6 yX6_isPlayed yX6_isPlayed, Cond.code yX6_isPlayed cX6_isPlayed 2 (some .boolean), Cond.methodLink RX6 133 yX6_when, Cond.instanceMethod yX6_when, Cond.selects RX6 yX6_when yX6_when]
def wsX6_levelBySeconds_r3 : List Cond := [Cond.code yX6_when cX6_when 2 (some .int), Cond.methodLink RX6 153 yX6_level, Cond.instanceMethod yX6_level, Cond.selects RX6 yX6_level yX6_level, Cond.code yX6_level cX6_level 11 (some .int), Cond.fieldLink RX6 32 "CueTourModel" "fade" "[I", Cond.methodLink RX6 139 yX6_changesAt, Cond.instanceMethod yX6_changesAt, Cond.selects RX6 yX6_changesAt yX6_changesAt, Cond.code yX6_changesAt cX6_changesAt 5 (some .int), Cond.fieldLink RX6 35 "CueTourModel" "to" "[I", Cond.methodLink RX6 143 yX6_behind, Cond.static yX6_behind, Cond.code yX6_behind cX6_behind 4 (some .int)]
def wsX6_levelBySeconds : List Cond := .code yX6_levelBySeconds cX6_levelBySeconds 3 (some .int) :: ((wsX6_levelBySeconds_r1 ++ (wsX6_levelBySeconds_r2 ++ wsX6_levelBySeconds_r3)) ++ wsX60)
def wsX6_isLamp : List Cond := .code yX6_isLamp cX6_isLamp 2 (some .boolean) :: ([.fieldLink RX6 159 "CueTourModel" "lamps" "I", .methodLink RX6 90 yX6_isIn, .static yX6_isIn, .initialized RX6, .code yX6_isIn cX6_isIn 3 (some .boolean)] ++ wsX60)
def wsX6_addLamp : List Cond := .code yX6_addLamp cX6_addLamp 7 (some .int) :: ([.fieldLink RX6 159 "CueTourModel" "lamps" "I", .fieldLink RX6 38 "CueTourModel" "home" "[I", .fieldLink RX6 41 "CueTourModel" "homeArea" "[I", .fieldLink RX6 44 "CueTourModel" "stage" "[I", .fieldLink RX6 47 "CueTourModel" "area" "[I", .fieldLink RX6 50 "CueTourModel" "colour" "[I", .fieldLink RX6 53 "CueTourModel" "power" "[I", .methodLink RX6 162 yX6_isStage, .static yX6_isStage, .initialized RX6, .code yX6_isStage cX6_isStage 1 (some .boolean), .methodLink RX6 90 yX6_isIn, .static yX6_isIn, .code yX6_isIn cX6_isIn 3 (some .boolean), .methodLink RX6 101 yX6_isArea, .static yX6_isArea, .code yX6_isArea cX6_isArea 1 (some .boolean), .methodLink RX6 94 yX6_isFine, .instanceMethod yX6_isFine, .selects RX6 yX6_isFine yX6_isFine, .code yX6_isFine cX6_isFine 2 (some .boolean), .fieldLink RX6 83 "CueTourModel" "thrown" "I"] ++ wsX60)
def wsX6_isHome : List Cond := .code yX6_isHome cX6_isHome 2 (some .boolean) :: ([.fieldLink RX6 44 "CueTourModel" "stage" "[I", .fieldLink RX6 38 "CueTourModel" "home" "[I"] ++ wsX60)
def wsX6_borrow_r1 : List Cond := [Cond.fieldLink RX6 38 "CueTourModel" "home" "[I", Cond.fieldLink RX6 44 "CueTourModel" "stage" "[I", Cond.fieldLink RX6 47 "CueTourModel" "area" "[I", Cond.methodLink RX6 165 yX6_isLamp, Cond.instanceMethod yX6_isLamp, Cond.selects RX6 yX6_isLamp yX6_isLamp, Cond.initialized RX6, Cond.code yX6_isLamp cX6_isLamp 2 (some .boolean), Cond.fieldLink RX6 159 "CueTourModel" "lamps" "I", Cond.methodLink RX6 90 yX6_isIn, Cond.static yX6_isIn, Cond.code yX6_isIn cX6_isIn 3 (some .boolean), Cond.methodLink RX6 162 yX6_isStage, Cond.static yX6_isStage, Cond.code yX6_isStage cX6_isStage 1 (some .boolean), Cond.methodLink RX6 101 yX6_isArea, Cond.static yX6_isArea, Cond.code yX6_isArea cX6_isArea 1 (some .boolean), Cond.methodLink RX6 168 yX6_isHome, Cond.instanceMethod yX6_isHome, Cond.selects RX6 yX6_isHome yX6_isHome, Cond.code yX6_isHome cX6_isHome 2 (some .boolean), Cond.methodLink RX6 94 yX6_isFine, Cond.instanceMethod yX6_isFine]
def wsX6_borrow_r2 : List Cond := [Cond.selects RX6 yX6_isFine yX6_isFine, Cond.code yX6_isFine cX6_isFine 2 (some .boolean), Cond.fieldLink RX6 83 "CueTourModel" "thrown" "I"]
def wsX6_borrow : List Cond := .code yX6_borrow cX6_borrow 5 (some .int) :: ((wsX6_borrow_r1 ++ wsX6_borrow_r2) ++ wsX60)
def wsX6_bringBack : List Cond := .code yX6_bringBack cX6_bringBack 4 (some .int) :: ([.fieldLink RX6 44 "CueTourModel" "stage" "[I", .fieldLink RX6 38 "CueTourModel" "home" "[I", .fieldLink RX6 47 "CueTourModel" "area" "[I", .fieldLink RX6 41 "CueTourModel" "homeArea" "[I", .methodLink RX6 165 yX6_isLamp, .instanceMethod yX6_isLamp, .selects RX6 yX6_isLamp yX6_isLamp, .initialized RX6, .code yX6_isLamp cX6_isLamp 2 (some .boolean), .fieldLink RX6 159 "CueTourModel" "lamps" "I", .methodLink RX6 90 yX6_isIn, .static yX6_isIn, .code yX6_isIn cX6_isIn 3 (some .boolean), .methodLink RX6 168 yX6_isHome, .instanceMethod yX6_isHome, .selects RX6 yX6_isHome yX6_isHome, .code yX6_isHome cX6_isHome 2 (some .boolean), .methodLink RX6 94 yX6_isFine, .instanceMethod yX6_isFine, .selects RX6 yX6_isFine yX6_isFine, .code yX6_isFine cX6_isFine 2 (some .boolean), .fieldLink RX6 83 "CueTourModel" "thrown" "I"] ++ wsX60)
def wsX6_replace : List Cond := .code yX6_replace cX6_replace 3 (some .int) :: ([.fieldLink RX6 56 "CueTourModel" "wear" "[I", .methodLink RX6 165 yX6_isLamp, .instanceMethod yX6_isLamp, .selects RX6 yX6_isLamp yX6_isLamp, .initialized RX6, .code yX6_isLamp cX6_isLamp 2 (some .boolean), .fieldLink RX6 159 "CueTourModel" "lamps" "I", .methodLink RX6 90 yX6_isIn, .static yX6_isIn, .code yX6_isIn cX6_isIn 3 (some .boolean), .methodLink RX6 94 yX6_isFine, .instanceMethod yX6_isFine, .selects RX6 yX6_isFine yX6_isFine, .code yX6_isFine cX6_isFine 2 (some .boolean), .fieldLink RX6 83 "CueTourModel" "thrown" "I"] ++ wsX60)
def wsX6_lamps : List Cond := .code yX6_lamps cX6_lamps 1 (some .int) :: ([.fieldLink RX6 83 "CueTourModel" "thrown" "I", .fieldLink RX6 159 "CueTourModel" "lamps" "I"] ++ wsX60)
def wsX6_whereIs : List Cond := .code yX6_whereIs cX6_whereIs 2 (some .int) :: ([.fieldLink RX6 44 "CueTourModel" "stage" "[I", .methodLink RX6 165 yX6_isLamp, .instanceMethod yX6_isLamp, .selects RX6 yX6_isLamp yX6_isLamp, .initialized RX6, .code yX6_isLamp cX6_isLamp 2 (some .boolean), .fieldLink RX6 159 "CueTourModel" "lamps" "I", .methodLink RX6 90 yX6_isIn, .static yX6_isIn, .code yX6_isIn cX6_isIn 3 (some .boolean), .methodLink RX6 94 yX6_isFine, .instanceMethod yX6_isFine, .selects RX6 yX6_isFine yX6_isFine, .code yX6_isFine cX6_isFine 2 (some .boolean), .fieldLink RX6 83 "CueTourModel" "thrown" "I"] ++ wsX60)
def wsX6_wear : List Cond := .code yX6_wear cX6_wear 2 (some .int) :: ([.fieldLink RX6 56 "CueTourModel" "wear" "[I", .methodLink RX6 165 yX6_isLamp, .instanceMethod yX6_isLamp, .selects RX6 yX6_isLamp yX6_isLamp, .initialized RX6, .code yX6_isLamp cX6_isLamp 2 (some .boolean), .fieldLink RX6 159 "CueTourModel" "lamps" "I", .methodLink RX6 90 yX6_isIn, .static yX6_isIn, .code yX6_isIn cX6_isIn 3 (some .boolean), .methodLink RX6 94 yX6_isFine, .instanceMethod yX6_isFine, .selects RX6 yX6_isFine yX6_isFine, .code yX6_isFine cX6_isFine 2 (some .boolean), .fieldLink RX6 83 "CueTourModel" "thrown" "I"] ++ wsX60)
def wsX6_lays : List Cond := .code yX6_lays cX6_lays 7 (some .int) :: ([.fieldLink RX6 159 "CueTourModel" "lamps" "I", .fieldLink RX6 44 "CueTourModel" "stage" "[I", .fieldLink RX6 47 "CueTourModel" "area" "[I", .fieldLink RX6 20 "CueTourModel" "areaOf" "[I", .fieldLink RX6 50 "CueTourModel" "colour" "[I", .fieldLink RX6 23 "CueTourModel" "colourOf" "[I"] ++ wsX60)
def wsX6_laidOn_r1 : List Cond := [Cond.methodLink RX6 162 yX6_isStage, Cond.static yX6_isStage, Cond.initialized RX6, Cond.code yX6_isStage cX6_isStage 1 (some .boolean), Cond.methodLink RX6 90 yX6_isIn, Cond.static yX6_isIn, Cond.code yX6_isIn cX6_isIn 3 (some .boolean), Cond.methodLink RX6 108 yX6_isChannel, Cond.static yX6_isChannel, Cond.code yX6_isChannel cX6_isChannel 1 (some .boolean), Cond.methodLink RX6 94 yX6_isFine, Cond.instanceMethod yX6_isFine, Cond.selects RX6 yX6_isFine yX6_isFine, Cond.code yX6_isFine cX6_isFine 2 (some .boolean), Cond.fieldLink RX6 83 "CueTourModel" "thrown" "I", Cond.methodLink RX6 171 yX6_lays, Cond.instanceMethod yX6_lays, Cond.selects RX6 yX6_lays yX6_lays, Cond.code yX6_lays cX6_lays 7 (some .int), Cond.fieldLink RX6 159 "CueTourModel" "lamps" "I", Cond.fieldLink RX6 44 "CueTourModel" "stage" "[I", Cond.fieldLink RX6 47 "CueTourModel" "area" "[I", Cond.fieldLink RX6 20 "CueTourModel" "areaOf" "[I", Cond.fieldLink RX6 50 "CueTourModel" "colour" "[I"]
def wsX6_laidOn_r2 : List Cond := [Cond.fieldLink RX6 23 "CueTourModel" "colourOf" "[I"]
def wsX6_laidOn : List Cond := .code yX6_laidOn cX6_laidOn 3 (some .int) :: ((wsX6_laidOn_r1 ++ wsX6_laidOn_r2) ++ wsX60)
def wsX6_lights_r1 : List Cond := [Cond.fieldLink RX6 77 "CueTourModel" "levels" "[I", Cond.methodLink RX6 153 yX6_level, Cond.instanceMethod yX6_level, Cond.selects RX6 yX6_level yX6_level, Cond.initialized RX6, Cond.code yX6_level cX6_level 11 (some .int), Cond.fieldLink RX6 127 "CueTourModel" "rows" "I", Cond.fieldLink RX6 65 "CueTourModel" "order" "[I", Cond.fieldLink RX6 68 "CueTourModel" "row" "[I", Cond.fieldLink RX6 32 "CueTourModel" "fade" "[I", Cond.methodLink RX6 133 yX6_when, Cond.instanceMethod yX6_when, Cond.selects RX6 yX6_when yX6_when, Cond.code yX6_when cX6_when 2 (some .int), Cond.fieldLink RX6 71 "CueTourModel" "start" "[I", Cond.fieldLink RX6 26 "CueTourModel" "lineOf" "[I", Cond.fieldLink RX6 29 "CueTourModel" "offset" "[I", Cond.methodLink RX6 139 yX6_changesAt, Cond.instanceMethod yX6_changesAt, Cond.selects RX6 yX6_changesAt yX6_changesAt, Cond.code yX6_changesAt cX6_changesAt 5 (some .int), Cond.fieldLink RX6 35 "CueTourModel" "to" "[I", Cond.methodLink RX6 130 yX6_isPlayed, Cond.instanceMethod yX6_isPlayed]
def wsX6_lights_r2 : List Cond := [Cond.selects RX6 yX6_isPlayed yX6_isPlayed, Cond.code yX6_isPlayed cX6_isPlayed 2 (some .boolean), Cond.fieldLink RX6 13 "CueTourModel" "isCut" "[Z", Cond.methodLink RX6 143 yX6_behind, Cond.static yX6_behind, Cond.code yX6_behind cX6_behind 4 (some .int)]
def wsX6_lights : List Cond := .code yX6_lights cX6_lights 3 none :: ((wsX6_lights_r1 ++ wsX6_lights_r2) ++ wsX60)
def wsX6_laysAll : List Cond := .code yX6_laysAll cX6_laysAll 3 none :: ([.fieldLink RX6 74 "CueTourModel" "laid" "[I", .methodLink RX6 171 yX6_lays, .instanceMethod yX6_lays, .selects RX6 yX6_lays yX6_lays, .initialized RX6, .code yX6_lays cX6_lays 7 (some .int), .fieldLink RX6 159 "CueTourModel" "lamps" "I", .fieldLink RX6 44 "CueTourModel" "stage" "[I", .fieldLink RX6 47 "CueTourModel" "area" "[I", .fieldLink RX6 20 "CueTourModel" "areaOf" "[I", .fieldLink RX6 50 "CueTourModel" "colour" "[I", .fieldLink RX6 23 "CueTourModel" "colourOf" "[I"] ++ wsX60)
def wsX6_lampNow : List Cond := .code yX6_lampNow cX6_lampNow 5 (some .int) :: ([.fieldLink RX6 56 "CueTourModel" "wear" "[I", .fieldLink RX6 77 "CueTourModel" "levels" "[I", .fieldLink RX6 74 "CueTourModel" "laid" "[I"] ++ wsX60)
def wsX6_lightNow : List Cond := .code yX6_lightNow cX6_lightNow 5 (some .int) :: ([.fieldLink RX6 159 "CueTourModel" "lamps" "I", .fieldLink RX6 44 "CueTourModel" "stage" "[I", .fieldLink RX6 47 "CueTourModel" "area" "[I", .fieldLink RX6 53 "CueTourModel" "power" "[I", .methodLink RX6 174 yX6_lampNow, .instanceMethod yX6_lampNow, .selects RX6 yX6_lampNow yX6_lampNow, .initialized RX6, .code yX6_lampNow cX6_lampNow 5 (some .int), .fieldLink RX6 56 "CueTourModel" "wear" "[I", .fieldLink RX6 77 "CueTourModel" "levels" "[I", .fieldLink RX6 74 "CueTourModel" "laid" "[I"] ++ wsX60)
def wsX6_lampLevel_r1 : List Cond := [Cond.fieldLink RX6 44 "CueTourModel" "stage" "[I", Cond.methodLink RX6 165 yX6_isLamp, Cond.instanceMethod yX6_isLamp, Cond.selects RX6 yX6_isLamp yX6_isLamp, Cond.initialized RX6, Cond.code yX6_isLamp cX6_isLamp 2 (some .boolean), Cond.fieldLink RX6 159 "CueTourModel" "lamps" "I", Cond.methodLink RX6 90 yX6_isIn, Cond.static yX6_isIn, Cond.code yX6_isIn cX6_isIn 3 (some .boolean), Cond.methodLink RX6 147 yX6_isTime, Cond.static yX6_isTime, Cond.code yX6_isTime cX6_isTime 1 (some .boolean), Cond.methodLink RX6 94 yX6_isFine, Cond.instanceMethod yX6_isFine, Cond.selects RX6 yX6_isFine yX6_isFine, Cond.code yX6_isFine cX6_isFine 2 (some .boolean), Cond.fieldLink RX6 83 "CueTourModel" "thrown" "I", Cond.methodLink RX6 150 yX6_plays, Cond.instanceMethod yX6_plays, Cond.selects RX6 yX6_plays yX6_plays, Cond.code yX6_plays cX6_plays 3 none, Cond.fieldLink RX6 87 "CueTourModel" "lines" "I", Cond.fieldLink RX6 71 "CueTourModel" "start" "[I"]
def wsX6_lampLevel_r2 : List Cond := [Cond.fieldLink RX6 13 "CueTourModel" "isCut" "[Z", Cond.fieldLink RX6 7 "CueTourModel" "seconds" "[I", Cond.fieldLink RX6 127 "CueTourModel" "rows" "I", Cond.fieldLink RX6 111 "CueTourModel" "cues" "I", Cond.fieldLink RX6 65 "CueTourModel" "order" "[I", Cond.fieldLink RX6 68 "CueTourModel" "row" "[I", Cond.methodLink RX6 124 yX6_orders, Cond.instanceMethod yX6_orders, Cond.selects RX6 yX6_orders yX6_orders, Cond.code yX6_orders cX6_orders 4 none, Cond.methodLink RX6 121 yX6_isAhead, Cond.instanceMethod yX6_isAhead, Cond.selects RX6 yX6_isAhead yX6_isAhead, Cond.code yX6_isAhead cX6_isAhead 3 (some .boolean), Cond.fieldLink RX6 26 "CueTourModel" "lineOf" "[I", Cond.fieldLink RX6 29 "CueTourModel" "offset" "[I", Cond.methodLink RX6 130 yX6_isPlayed, Cond.instanceMethod yX6_isPlayed, Cond.selects RX6 yX6_isPlayed yX6_isPlayed, Cond.code yX6_isPlayed cX6_isPlayed 2 (some .boolean), Cond.methodLink RX6 133 yX6_when, Cond.instanceMethod yX6_when, Cond.selects RX6 yX6_when yX6_when, Cond.code yX6_when cX6_when 2 (some .int)]
def wsX6_lampLevel_r3 : List Cond := [Cond.methodLink RX6 177 yX6_laysAll, Cond.instanceMethod yX6_laysAll, Cond.selects RX6 yX6_laysAll yX6_laysAll, Cond.code yX6_laysAll cX6_laysAll 3 none, Cond.fieldLink RX6 74 "CueTourModel" "laid" "[I", Cond.methodLink RX6 171 yX6_lays, Cond.instanceMethod yX6_lays, Cond.selects RX6 yX6_lays yX6_lays, Cond.code yX6_lays cX6_lays 7 (some .int), Cond.fieldLink RX6 47 "CueTourModel" "area" "[I", Cond.fieldLink RX6 20 "CueTourModel" "areaOf" "[I", Cond.fieldLink RX6 50 "CueTourModel" "colour" "[I", Cond.fieldLink RX6 23 "CueTourModel" "colourOf" "[I", Cond.methodLink RX6 181 yX6_lights, Cond.instanceMethod yX6_lights, Cond.selects RX6 yX6_lights yX6_lights, Cond.code yX6_lights cX6_lights 3 none, Cond.fieldLink RX6 77 "CueTourModel" "levels" "[I", Cond.methodLink RX6 153 yX6_level, Cond.instanceMethod yX6_level, Cond.selects RX6 yX6_level yX6_level, Cond.code yX6_level cX6_level 11 (some .int), Cond.fieldLink RX6 32 "CueTourModel" "fade" "[I", Cond.methodLink RX6 139 yX6_changesAt]
def wsX6_lampLevel_r4 : List Cond := [Cond.instanceMethod yX6_changesAt, Cond.selects RX6 yX6_changesAt yX6_changesAt, Cond.code yX6_changesAt cX6_changesAt 5 (some .int), Cond.fieldLink RX6 35 "CueTourModel" "to" "[I", Cond.methodLink RX6 143 yX6_behind, Cond.static yX6_behind, Cond.code yX6_behind cX6_behind 4 (some .int), Cond.methodLink RX6 174 yX6_lampNow, Cond.instanceMethod yX6_lampNow, Cond.selects RX6 yX6_lampNow yX6_lampNow, Cond.code yX6_lampNow cX6_lampNow 5 (some .int), Cond.fieldLink RX6 56 "CueTourModel" "wear" "[I"]
def wsX6_lampLevel : List Cond := .code yX6_lampLevel cX6_lampLevel 4 (some .int) :: ((wsX6_lampLevel_r1 ++ (wsX6_lampLevel_r2 ++ (wsX6_lampLevel_r3 ++ wsX6_lampLevel_r4))) ++ wsX60)
def wsX6_light_r1 : List Cond := [Cond.methodLink RX6 162 yX6_isStage, Cond.static yX6_isStage, Cond.initialized RX6, Cond.code yX6_isStage cX6_isStage 1 (some .boolean), Cond.methodLink RX6 90 yX6_isIn, Cond.static yX6_isIn, Cond.code yX6_isIn cX6_isIn 3 (some .boolean), Cond.methodLink RX6 101 yX6_isArea, Cond.static yX6_isArea, Cond.code yX6_isArea cX6_isArea 1 (some .boolean), Cond.methodLink RX6 147 yX6_isTime, Cond.static yX6_isTime, Cond.code yX6_isTime cX6_isTime 1 (some .boolean), Cond.methodLink RX6 94 yX6_isFine, Cond.instanceMethod yX6_isFine, Cond.selects RX6 yX6_isFine yX6_isFine, Cond.code yX6_isFine cX6_isFine 2 (some .boolean), Cond.fieldLink RX6 83 "CueTourModel" "thrown" "I", Cond.methodLink RX6 150 yX6_plays, Cond.instanceMethod yX6_plays, Cond.selects RX6 yX6_plays yX6_plays, Cond.code yX6_plays cX6_plays 3 none, Cond.fieldLink RX6 87 "CueTourModel" "lines" "I", Cond.fieldLink RX6 71 "CueTourModel" "start" "[I"]
def wsX6_light_r2 : List Cond := [Cond.fieldLink RX6 13 "CueTourModel" "isCut" "[Z", Cond.fieldLink RX6 7 "CueTourModel" "seconds" "[I", Cond.fieldLink RX6 127 "CueTourModel" "rows" "I", Cond.fieldLink RX6 111 "CueTourModel" "cues" "I", Cond.fieldLink RX6 65 "CueTourModel" "order" "[I", Cond.fieldLink RX6 68 "CueTourModel" "row" "[I", Cond.methodLink RX6 124 yX6_orders, Cond.instanceMethod yX6_orders, Cond.selects RX6 yX6_orders yX6_orders, Cond.code yX6_orders cX6_orders 4 none, Cond.methodLink RX6 121 yX6_isAhead, Cond.instanceMethod yX6_isAhead, Cond.selects RX6 yX6_isAhead yX6_isAhead, Cond.code yX6_isAhead cX6_isAhead 3 (some .boolean), Cond.fieldLink RX6 26 "CueTourModel" "lineOf" "[I", Cond.fieldLink RX6 29 "CueTourModel" "offset" "[I", Cond.methodLink RX6 130 yX6_isPlayed, Cond.instanceMethod yX6_isPlayed, Cond.selects RX6 yX6_isPlayed yX6_isPlayed, Cond.code yX6_isPlayed cX6_isPlayed 2 (some .boolean), Cond.methodLink RX6 133 yX6_when, Cond.instanceMethod yX6_when, Cond.selects RX6 yX6_when yX6_when, Cond.code yX6_when cX6_when 2 (some .int)]
def wsX6_light_r3 : List Cond := [Cond.methodLink RX6 177 yX6_laysAll, Cond.instanceMethod yX6_laysAll, Cond.selects RX6 yX6_laysAll yX6_laysAll, Cond.code yX6_laysAll cX6_laysAll 3 none, Cond.fieldLink RX6 74 "CueTourModel" "laid" "[I", Cond.methodLink RX6 171 yX6_lays, Cond.instanceMethod yX6_lays, Cond.selects RX6 yX6_lays yX6_lays, Cond.code yX6_lays cX6_lays 7 (some .int), Cond.fieldLink RX6 159 "CueTourModel" "lamps" "I", Cond.fieldLink RX6 44 "CueTourModel" "stage" "[I", Cond.fieldLink RX6 47 "CueTourModel" "area" "[I", Cond.fieldLink RX6 20 "CueTourModel" "areaOf" "[I", Cond.fieldLink RX6 50 "CueTourModel" "colour" "[I", Cond.fieldLink RX6 23 "CueTourModel" "colourOf" "[I", Cond.methodLink RX6 181 yX6_lights, Cond.instanceMethod yX6_lights, Cond.selects RX6 yX6_lights yX6_lights, Cond.code yX6_lights cX6_lights 3 none, Cond.fieldLink RX6 77 "CueTourModel" "levels" "[I", Cond.methodLink RX6 153 yX6_level, Cond.instanceMethod yX6_level, Cond.selects RX6 yX6_level yX6_level, Cond.code yX6_level cX6_level 11 (some .int)]
def wsX6_light_r4 : List Cond := [Cond.fieldLink RX6 32 "CueTourModel" "fade" "[I", Cond.methodLink RX6 139 yX6_changesAt, Cond.instanceMethod yX6_changesAt, Cond.selects RX6 yX6_changesAt yX6_changesAt, Cond.code yX6_changesAt cX6_changesAt 5 (some .int), Cond.fieldLink RX6 35 "CueTourModel" "to" "[I", Cond.methodLink RX6 143 yX6_behind, Cond.static yX6_behind, Cond.code yX6_behind cX6_behind 4 (some .int), Cond.methodLink RX6 184 yX6_lightNow, Cond.instanceMethod yX6_lightNow, Cond.selects RX6 yX6_lightNow yX6_lightNow, Cond.code yX6_lightNow cX6_lightNow 5 (some .int), Cond.fieldLink RX6 53 "CueTourModel" "power" "[I", Cond.methodLink RX6 174 yX6_lampNow, Cond.instanceMethod yX6_lampNow, Cond.selects RX6 yX6_lampNow yX6_lampNow, Cond.code yX6_lampNow cX6_lampNow 5 (some .int), Cond.fieldLink RX6 56 "CueTourModel" "wear" "[I"]
def wsX6_light : List Cond := .code yX6_light cX6_light 5 (some .int) :: ((wsX6_light_r1 ++ (wsX6_light_r2 ++ (wsX6_light_r3 ++ wsX6_light_r4))) ++ wsX60)
def wsX6_shorts_r1 : List Cond := [Cond.fieldLink RX6 13 "CueTourModel" "isCut" "[Z", Cond.fieldLink RX6 71 "CueTourModel" "start" "[I", Cond.fieldLink RX6 7 "CueTourModel" "seconds" "[I", Cond.fieldLink RX6 17 "CueTourModel" "needs" "[I", Cond.methodLink RX6 181 yX6_lights, Cond.instanceMethod yX6_lights, Cond.selects RX6 yX6_lights yX6_lights, Cond.initialized RX6, Cond.code yX6_lights cX6_lights 3 none, Cond.fieldLink RX6 77 "CueTourModel" "levels" "[I", Cond.methodLink RX6 153 yX6_level, Cond.instanceMethod yX6_level, Cond.selects RX6 yX6_level yX6_level, Cond.code yX6_level cX6_level 11 (some .int), Cond.fieldLink RX6 127 "CueTourModel" "rows" "I", Cond.fieldLink RX6 65 "CueTourModel" "order" "[I", Cond.fieldLink RX6 68 "CueTourModel" "row" "[I", Cond.fieldLink RX6 32 "CueTourModel" "fade" "[I", Cond.methodLink RX6 133 yX6_when, Cond.instanceMethod yX6_when, Cond.selects RX6 yX6_when yX6_when, Cond.code yX6_when cX6_when 2 (some .int), Cond.fieldLink RX6 26 "CueTourModel" "lineOf" "[I", Cond.fieldLink RX6 29 "CueTourModel" "offset" "[I"]
def wsX6_shorts_r2 : List Cond := [Cond.methodLink RX6 139 yX6_changesAt, Cond.instanceMethod yX6_changesAt, Cond.selects RX6 yX6_changesAt yX6_changesAt, Cond.code yX6_changesAt cX6_changesAt 5 (some .int), Cond.fieldLink RX6 35 "CueTourModel" "to" "[I", Cond.methodLink RX6 130 yX6_isPlayed, Cond.instanceMethod yX6_isPlayed, Cond.selects RX6 yX6_isPlayed yX6_isPlayed, Cond.code yX6_isPlayed cX6_isPlayed 2 (some .boolean), Cond.methodLink RX6 143 yX6_behind, Cond.static yX6_behind, Cond.code yX6_behind cX6_behind 4 (some .int), Cond.methodLink RX6 184 yX6_lightNow, Cond.instanceMethod yX6_lightNow, Cond.selects RX6 yX6_lightNow yX6_lightNow, Cond.code yX6_lightNow cX6_lightNow 5 (some .int), Cond.fieldLink RX6 159 "CueTourModel" "lamps" "I", Cond.fieldLink RX6 44 "CueTourModel" "stage" "[I", Cond.fieldLink RX6 47 "CueTourModel" "area" "[I", Cond.fieldLink RX6 53 "CueTourModel" "power" "[I", Cond.methodLink RX6 174 yX6_lampNow, Cond.instanceMethod yX6_lampNow, Cond.selects RX6 yX6_lampNow yX6_lampNow, Cond.code yX6_lampNow cX6_lampNow 5 (some .int)]
def wsX6_shorts_r3 : List Cond := [Cond.fieldLink RX6 56 "CueTourModel" "wear" "[I", Cond.fieldLink RX6 74 "CueTourModel" "laid" "[I"]
def wsX6_shorts : List Cond := .code yX6_shorts cX6_shorts 5 (some .int) :: ((wsX6_shorts_r1 ++ (wsX6_shorts_r2 ++ wsX6_shorts_r3)) ++ wsX60)
def wsX6_shortOf_r1 : List Cond := [Cond.methodLink RX6 162 yX6_isStage, Cond.static yX6_isStage, Cond.initialized RX6, Cond.code yX6_isStage cX6_isStage 1 (some .boolean), Cond.methodLink RX6 90 yX6_isIn, Cond.static yX6_isIn, Cond.code yX6_isIn cX6_isIn 3 (some .boolean), Cond.methodLink RX6 98 yX6_isLine, Cond.instanceMethod yX6_isLine, Cond.selects RX6 yX6_isLine yX6_isLine, Cond.code yX6_isLine cX6_isLine 2 (some .boolean), Cond.fieldLink RX6 87 "CueTourModel" "lines" "I", Cond.methodLink RX6 94 yX6_isFine, Cond.instanceMethod yX6_isFine, Cond.selects RX6 yX6_isFine yX6_isFine, Cond.code yX6_isFine cX6_isFine 2 (some .boolean), Cond.fieldLink RX6 83 "CueTourModel" "thrown" "I", Cond.methodLink RX6 150 yX6_plays, Cond.instanceMethod yX6_plays, Cond.selects RX6 yX6_plays yX6_plays, Cond.code yX6_plays cX6_plays 3 none, Cond.fieldLink RX6 71 "CueTourModel" "start" "[I", Cond.fieldLink RX6 13 "CueTourModel" "isCut" "[Z", Cond.fieldLink RX6 7 "CueTourModel" "seconds" "[I"]
def wsX6_shortOf_r2 : List Cond := [Cond.fieldLink RX6 127 "CueTourModel" "rows" "I", Cond.fieldLink RX6 111 "CueTourModel" "cues" "I", Cond.fieldLink RX6 65 "CueTourModel" "order" "[I", Cond.fieldLink RX6 68 "CueTourModel" "row" "[I", Cond.methodLink RX6 124 yX6_orders, Cond.instanceMethod yX6_orders, Cond.selects RX6 yX6_orders yX6_orders, Cond.code yX6_orders cX6_orders 4 none, Cond.methodLink RX6 121 yX6_isAhead, Cond.instanceMethod yX6_isAhead, Cond.selects RX6 yX6_isAhead yX6_isAhead, Cond.code yX6_isAhead cX6_isAhead 3 (some .boolean), Cond.fieldLink RX6 26 "CueTourModel" "lineOf" "[I", Cond.fieldLink RX6 29 "CueTourModel" "offset" "[I", Cond.methodLink RX6 130 yX6_isPlayed, Cond.instanceMethod yX6_isPlayed, Cond.selects RX6 yX6_isPlayed yX6_isPlayed, Cond.code yX6_isPlayed cX6_isPlayed 2 (some .boolean), Cond.methodLink RX6 133 yX6_when, Cond.instanceMethod yX6_when, Cond.selects RX6 yX6_when yX6_when, Cond.code yX6_when cX6_when 2 (some .int), Cond.methodLink RX6 177 yX6_laysAll, Cond.instanceMethod yX6_laysAll]
def wsX6_shortOf_r3 : List Cond := [Cond.selects RX6 yX6_laysAll yX6_laysAll, Cond.code yX6_laysAll cX6_laysAll 3 none, Cond.fieldLink RX6 74 "CueTourModel" "laid" "[I", Cond.methodLink RX6 171 yX6_lays, Cond.instanceMethod yX6_lays, Cond.selects RX6 yX6_lays yX6_lays, Cond.code yX6_lays cX6_lays 7 (some .int), Cond.fieldLink RX6 159 "CueTourModel" "lamps" "I", Cond.fieldLink RX6 44 "CueTourModel" "stage" "[I", Cond.fieldLink RX6 47 "CueTourModel" "area" "[I", Cond.fieldLink RX6 20 "CueTourModel" "areaOf" "[I", Cond.fieldLink RX6 50 "CueTourModel" "colour" "[I", Cond.fieldLink RX6 23 "CueTourModel" "colourOf" "[I", Cond.methodLink RX6 187 yX6_shorts, Cond.instanceMethod yX6_shorts, Cond.selects RX6 yX6_shorts yX6_shorts, Cond.code yX6_shorts cX6_shorts 5 (some .int), Cond.fieldLink RX6 17 "CueTourModel" "needs" "[I", Cond.methodLink RX6 181 yX6_lights, Cond.instanceMethod yX6_lights, Cond.selects RX6 yX6_lights yX6_lights, Cond.code yX6_lights cX6_lights 3 none, Cond.fieldLink RX6 77 "CueTourModel" "levels" "[I", Cond.methodLink RX6 153 yX6_level]
def wsX6_shortOf_r4 : List Cond := [Cond.instanceMethod yX6_level, Cond.selects RX6 yX6_level yX6_level, Cond.code yX6_level cX6_level 11 (some .int), Cond.fieldLink RX6 32 "CueTourModel" "fade" "[I", Cond.methodLink RX6 139 yX6_changesAt, Cond.instanceMethod yX6_changesAt, Cond.selects RX6 yX6_changesAt yX6_changesAt, Cond.code yX6_changesAt cX6_changesAt 5 (some .int), Cond.fieldLink RX6 35 "CueTourModel" "to" "[I", Cond.methodLink RX6 143 yX6_behind, Cond.static yX6_behind, Cond.code yX6_behind cX6_behind 4 (some .int), Cond.methodLink RX6 184 yX6_lightNow, Cond.instanceMethod yX6_lightNow, Cond.selects RX6 yX6_lightNow yX6_lightNow, Cond.code yX6_lightNow cX6_lightNow 5 (some .int), Cond.fieldLink RX6 53 "CueTourModel" "power" "[I", Cond.methodLink RX6 174 yX6_lampNow, Cond.instanceMethod yX6_lampNow, Cond.selects RX6 yX6_lampNow yX6_lampNow, Cond.code yX6_lampNow cX6_lampNow 5 (some .int), Cond.fieldLink RX6 56 "CueTourModel" "wear" "[I"]
def wsX6_shortOf : List Cond := .code yX6_shortOf cX6_shortOf 3 (some .int) :: ((wsX6_shortOf_r1 ++ (wsX6_shortOf_r2 ++ (wsX6_shortOf_r3 ++ wsX6_shortOf_r4))) ++ wsX60)
def wsX6_shortLines_r1 : List Cond := [Cond.fieldLink RX6 87 "CueTourModel" "lines" "I", Cond.methodLink RX6 177 yX6_laysAll, Cond.instanceMethod yX6_laysAll, Cond.selects RX6 yX6_laysAll yX6_laysAll, Cond.initialized RX6, Cond.code yX6_laysAll cX6_laysAll 3 none, Cond.fieldLink RX6 74 "CueTourModel" "laid" "[I", Cond.methodLink RX6 171 yX6_lays, Cond.instanceMethod yX6_lays, Cond.selects RX6 yX6_lays yX6_lays, Cond.code yX6_lays cX6_lays 7 (some .int), Cond.fieldLink RX6 159 "CueTourModel" "lamps" "I", Cond.fieldLink RX6 44 "CueTourModel" "stage" "[I", Cond.fieldLink RX6 47 "CueTourModel" "area" "[I", Cond.fieldLink RX6 20 "CueTourModel" "areaOf" "[I", Cond.fieldLink RX6 50 "CueTourModel" "colour" "[I", Cond.fieldLink RX6 23 "CueTourModel" "colourOf" "[I", Cond.methodLink RX6 187 yX6_shorts, Cond.instanceMethod yX6_shorts, Cond.selects RX6 yX6_shorts yX6_shorts, Cond.code yX6_shorts cX6_shorts 5 (some .int), Cond.fieldLink RX6 13 "CueTourModel" "isCut" "[Z", Cond.fieldLink RX6 71 "CueTourModel" "start" "[I", Cond.fieldLink RX6 7 "CueTourModel" "seconds" "[I"]
def wsX6_shortLines_r2 : List Cond := [Cond.fieldLink RX6 17 "CueTourModel" "needs" "[I", Cond.methodLink RX6 181 yX6_lights, Cond.instanceMethod yX6_lights, Cond.selects RX6 yX6_lights yX6_lights, Cond.code yX6_lights cX6_lights 3 none, Cond.fieldLink RX6 77 "CueTourModel" "levels" "[I", Cond.methodLink RX6 153 yX6_level, Cond.instanceMethod yX6_level, Cond.selects RX6 yX6_level yX6_level, Cond.code yX6_level cX6_level 11 (some .int), Cond.fieldLink RX6 127 "CueTourModel" "rows" "I", Cond.fieldLink RX6 65 "CueTourModel" "order" "[I", Cond.fieldLink RX6 68 "CueTourModel" "row" "[I", Cond.fieldLink RX6 32 "CueTourModel" "fade" "[I", Cond.methodLink RX6 133 yX6_when, Cond.instanceMethod yX6_when, Cond.selects RX6 yX6_when yX6_when, Cond.code yX6_when cX6_when 2 (some .int), Cond.fieldLink RX6 26 "CueTourModel" "lineOf" "[I", Cond.fieldLink RX6 29 "CueTourModel" "offset" "[I", Cond.methodLink RX6 139 yX6_changesAt, Cond.instanceMethod yX6_changesAt, Cond.selects RX6 yX6_changesAt yX6_changesAt, Cond.code yX6_changesAt cX6_changesAt 5 (some .int)]
def wsX6_shortLines_r3 : List Cond := [Cond.fieldLink RX6 35 "CueTourModel" "to" "[I", Cond.methodLink RX6 130 yX6_isPlayed, Cond.instanceMethod yX6_isPlayed, Cond.selects RX6 yX6_isPlayed yX6_isPlayed, Cond.code yX6_isPlayed cX6_isPlayed 2 (some .boolean), Cond.methodLink RX6 143 yX6_behind, Cond.static yX6_behind, Cond.code yX6_behind cX6_behind 4 (some .int), Cond.methodLink RX6 184 yX6_lightNow, Cond.instanceMethod yX6_lightNow, Cond.selects RX6 yX6_lightNow yX6_lightNow, Cond.code yX6_lightNow cX6_lightNow 5 (some .int), Cond.fieldLink RX6 53 "CueTourModel" "power" "[I", Cond.methodLink RX6 174 yX6_lampNow, Cond.instanceMethod yX6_lampNow, Cond.selects RX6 yX6_lampNow yX6_lampNow, Cond.code yX6_lampNow cX6_lampNow 5 (some .int), Cond.fieldLink RX6 56 "CueTourModel" "wear" "[I"]
def wsX6_shortLines : List Cond := .code yX6_shortLines cX6_shortLines 4 (some .int) :: ((wsX6_shortLines_r1 ++ (wsX6_shortLines_r2 ++ wsX6_shortLines_r3)) ++ wsX60)
def wsX6_bestStage_r1 : List Cond := [Cond.fieldLink RX6 83 "CueTourModel" "thrown" "I", Cond.methodLink RX6 150 yX6_plays, Cond.instanceMethod yX6_plays, Cond.selects RX6 yX6_plays yX6_plays, Cond.initialized RX6, Cond.code yX6_plays cX6_plays 3 none, Cond.fieldLink RX6 87 "CueTourModel" "lines" "I", Cond.fieldLink RX6 71 "CueTourModel" "start" "[I", Cond.fieldLink RX6 13 "CueTourModel" "isCut" "[Z", Cond.fieldLink RX6 7 "CueTourModel" "seconds" "[I", Cond.fieldLink RX6 127 "CueTourModel" "rows" "I", Cond.fieldLink RX6 111 "CueTourModel" "cues" "I", Cond.fieldLink RX6 65 "CueTourModel" "order" "[I", Cond.fieldLink RX6 68 "CueTourModel" "row" "[I", Cond.methodLink RX6 124 yX6_orders, Cond.instanceMethod yX6_orders, Cond.selects RX6 yX6_orders yX6_orders, Cond.code yX6_orders cX6_orders 4 none, Cond.methodLink RX6 121 yX6_isAhead, Cond.instanceMethod yX6_isAhead, Cond.selects RX6 yX6_isAhead yX6_isAhead, Cond.code yX6_isAhead cX6_isAhead 3 (some .boolean), Cond.fieldLink RX6 26 "CueTourModel" "lineOf" "[I", Cond.fieldLink RX6 29 "CueTourModel" "offset" "[I"]
def wsX6_bestStage_r2 : List Cond := [Cond.methodLink RX6 130 yX6_isPlayed, Cond.instanceMethod yX6_isPlayed, Cond.selects RX6 yX6_isPlayed yX6_isPlayed, Cond.code yX6_isPlayed cX6_isPlayed 2 (some .boolean), Cond.methodLink RX6 133 yX6_when, Cond.instanceMethod yX6_when, Cond.selects RX6 yX6_when yX6_when, Cond.code yX6_when cX6_when 2 (some .int), Cond.methodLink RX6 190 yX6_shortLines, Cond.instanceMethod yX6_shortLines, Cond.selects RX6 yX6_shortLines yX6_shortLines, Cond.code yX6_shortLines cX6_shortLines 4 (some .int), Cond.methodLink RX6 177 yX6_laysAll, Cond.instanceMethod yX6_laysAll, Cond.selects RX6 yX6_laysAll yX6_laysAll, Cond.code yX6_laysAll cX6_laysAll 3 none, Cond.fieldLink RX6 74 "CueTourModel" "laid" "[I", Cond.methodLink RX6 171 yX6_lays, Cond.instanceMethod yX6_lays, Cond.selects RX6 yX6_lays yX6_lays, Cond.code yX6_lays cX6_lays 7 (some .int), Cond.fieldLink RX6 159 "CueTourModel" "lamps" "I", Cond.fieldLink RX6 44 "CueTourModel" "stage" "[I", Cond.fieldLink RX6 47 "CueTourModel" "area" "[I"]
def wsX6_bestStage_r3 : List Cond := [Cond.fieldLink RX6 20 "CueTourModel" "areaOf" "[I", Cond.fieldLink RX6 50 "CueTourModel" "colour" "[I", Cond.fieldLink RX6 23 "CueTourModel" "colourOf" "[I", Cond.methodLink RX6 187 yX6_shorts, Cond.instanceMethod yX6_shorts, Cond.selects RX6 yX6_shorts yX6_shorts, Cond.code yX6_shorts cX6_shorts 5 (some .int), Cond.fieldLink RX6 17 "CueTourModel" "needs" "[I", Cond.methodLink RX6 181 yX6_lights, Cond.instanceMethod yX6_lights, Cond.selects RX6 yX6_lights yX6_lights, Cond.code yX6_lights cX6_lights 3 none, Cond.fieldLink RX6 77 "CueTourModel" "levels" "[I", Cond.methodLink RX6 153 yX6_level, Cond.instanceMethod yX6_level, Cond.selects RX6 yX6_level yX6_level, Cond.code yX6_level cX6_level 11 (some .int), Cond.fieldLink RX6 32 "CueTourModel" "fade" "[I", Cond.methodLink RX6 139 yX6_changesAt, Cond.instanceMethod yX6_changesAt, Cond.selects RX6 yX6_changesAt yX6_changesAt, Cond.code yX6_changesAt cX6_changesAt 5 (some .int), Cond.fieldLink RX6 35 "CueTourModel" "to" "[I", Cond.methodLink RX6 143 yX6_behind]
def wsX6_bestStage_r4 : List Cond := [Cond.static yX6_behind, Cond.code yX6_behind cX6_behind 4 (some .int), Cond.methodLink RX6 184 yX6_lightNow, Cond.instanceMethod yX6_lightNow, Cond.selects RX6 yX6_lightNow yX6_lightNow, Cond.code yX6_lightNow cX6_lightNow 5 (some .int), Cond.fieldLink RX6 53 "CueTourModel" "power" "[I", Cond.methodLink RX6 174 yX6_lampNow, Cond.instanceMethod yX6_lampNow, Cond.selects RX6 yX6_lampNow yX6_lampNow, Cond.code yX6_lampNow cX6_lampNow 5 (some .int), Cond.fieldLink RX6 56 "CueTourModel" "wear" "[I"]
def wsX6_bestStage : List Cond := .code yX6_bestStage cX6_bestStage 5 (some .int) :: ((wsX6_bestStage_r1 ++ (wsX6_bestStage_r2 ++ (wsX6_bestStage_r3 ++ wsX6_bestStage_r4))) ++ wsX60)
def wsX6_bestToBorrow_r1 : List Cond := [Cond.fieldLink RX6 159 "CueTourModel" "lamps" "I", Cond.fieldLink RX6 38 "CueTourModel" "home" "[I", Cond.fieldLink RX6 44 "CueTourModel" "stage" "[I", Cond.fieldLink RX6 47 "CueTourModel" "area" "[I", Cond.fieldLink RX6 41 "CueTourModel" "homeArea" "[I", Cond.methodLink RX6 162 yX6_isStage, Cond.static yX6_isStage, Cond.initialized RX6, Cond.code yX6_isStage cX6_isStage 1 (some .boolean), Cond.methodLink RX6 90 yX6_isIn, Cond.static yX6_isIn, Cond.code yX6_isIn cX6_isIn 3 (some .boolean), Cond.methodLink RX6 101 yX6_isArea, Cond.static yX6_isArea, Cond.code yX6_isArea cX6_isArea 1 (some .boolean), Cond.methodLink RX6 94 yX6_isFine, Cond.instanceMethod yX6_isFine, Cond.selects RX6 yX6_isFine yX6_isFine, Cond.code yX6_isFine cX6_isFine 2 (some .boolean), Cond.fieldLink RX6 83 "CueTourModel" "thrown" "I", Cond.methodLink RX6 150 yX6_plays, Cond.instanceMethod yX6_plays, Cond.selects RX6 yX6_plays yX6_plays, Cond.code yX6_plays cX6_plays 3 none]
def wsX6_bestToBorrow_r2 : List Cond := [Cond.fieldLink RX6 87 "CueTourModel" "lines" "I", Cond.fieldLink RX6 71 "CueTourModel" "start" "[I", Cond.fieldLink RX6 13 "CueTourModel" "isCut" "[Z", Cond.fieldLink RX6 7 "CueTourModel" "seconds" "[I", Cond.fieldLink RX6 127 "CueTourModel" "rows" "I", Cond.fieldLink RX6 111 "CueTourModel" "cues" "I", Cond.fieldLink RX6 65 "CueTourModel" "order" "[I", Cond.fieldLink RX6 68 "CueTourModel" "row" "[I", Cond.methodLink RX6 124 yX6_orders, Cond.instanceMethod yX6_orders, Cond.selects RX6 yX6_orders yX6_orders, Cond.code yX6_orders cX6_orders 4 none, Cond.methodLink RX6 121 yX6_isAhead, Cond.instanceMethod yX6_isAhead, Cond.selects RX6 yX6_isAhead yX6_isAhead, Cond.code yX6_isAhead cX6_isAhead 3 (some .boolean), Cond.fieldLink RX6 26 "CueTourModel" "lineOf" "[I", Cond.fieldLink RX6 29 "CueTourModel" "offset" "[I", Cond.methodLink RX6 130 yX6_isPlayed, Cond.instanceMethod yX6_isPlayed, Cond.selects RX6 yX6_isPlayed yX6_isPlayed, Cond.code yX6_isPlayed cX6_isPlayed 2 (some .boolean), Cond.methodLink RX6 133 yX6_when, Cond.instanceMethod yX6_when]
def wsX6_bestToBorrow_r3 : List Cond := [Cond.selects RX6 yX6_when yX6_when, Cond.code yX6_when cX6_when 2 (some .int), Cond.methodLink RX6 190 yX6_shortLines, Cond.instanceMethod yX6_shortLines, Cond.selects RX6 yX6_shortLines yX6_shortLines, Cond.code yX6_shortLines cX6_shortLines 4 (some .int), Cond.methodLink RX6 177 yX6_laysAll, Cond.instanceMethod yX6_laysAll, Cond.selects RX6 yX6_laysAll yX6_laysAll, Cond.code yX6_laysAll cX6_laysAll 3 none, Cond.fieldLink RX6 74 "CueTourModel" "laid" "[I", Cond.methodLink RX6 171 yX6_lays, Cond.instanceMethod yX6_lays, Cond.selects RX6 yX6_lays yX6_lays, Cond.code yX6_lays cX6_lays 7 (some .int), Cond.fieldLink RX6 20 "CueTourModel" "areaOf" "[I", Cond.fieldLink RX6 50 "CueTourModel" "colour" "[I", Cond.fieldLink RX6 23 "CueTourModel" "colourOf" "[I", Cond.methodLink RX6 187 yX6_shorts, Cond.instanceMethod yX6_shorts, Cond.selects RX6 yX6_shorts yX6_shorts, Cond.code yX6_shorts cX6_shorts 5 (some .int), Cond.fieldLink RX6 17 "CueTourModel" "needs" "[I", Cond.methodLink RX6 181 yX6_lights]
def wsX6_bestToBorrow_r4 : List Cond := [Cond.instanceMethod yX6_lights, Cond.selects RX6 yX6_lights yX6_lights, Cond.code yX6_lights cX6_lights 3 none, Cond.fieldLink RX6 77 "CueTourModel" "levels" "[I", Cond.methodLink RX6 153 yX6_level, Cond.instanceMethod yX6_level, Cond.selects RX6 yX6_level yX6_level, Cond.code yX6_level cX6_level 11 (some .int), Cond.fieldLink RX6 32 "CueTourModel" "fade" "[I", Cond.methodLink RX6 139 yX6_changesAt, Cond.instanceMethod yX6_changesAt, Cond.selects RX6 yX6_changesAt yX6_changesAt, Cond.code yX6_changesAt cX6_changesAt 5 (some .int), Cond.fieldLink RX6 35 "CueTourModel" "to" "[I", Cond.methodLink RX6 143 yX6_behind, Cond.static yX6_behind, Cond.code yX6_behind cX6_behind 4 (some .int), Cond.methodLink RX6 184 yX6_lightNow, Cond.instanceMethod yX6_lightNow, Cond.selects RX6 yX6_lightNow yX6_lightNow, Cond.code yX6_lightNow cX6_lightNow 5 (some .int), Cond.fieldLink RX6 53 "CueTourModel" "power" "[I", Cond.methodLink RX6 174 yX6_lampNow, Cond.instanceMethod yX6_lampNow]
def wsX6_bestToBorrow_r5 : List Cond := [Cond.selects RX6 yX6_lampNow yX6_lampNow, Cond.code yX6_lampNow cX6_lampNow 5 (some .int), Cond.fieldLink RX6 56 "CueTourModel" "wear" "[I", Cond.methodLink RX6 168 yX6_isHome, Cond.instanceMethod yX6_isHome, Cond.selects RX6 yX6_isHome yX6_isHome, Cond.code yX6_isHome cX6_isHome 2 (some .boolean)]
def wsX6_bestToBorrow : List Cond := .code yX6_bestToBorrow cX6_bestToBorrow 7 (some .int) :: ((wsX6_bestToBorrow_r1 ++ (wsX6_bestToBorrow_r2 ++ (wsX6_bestToBorrow_r3 ++ (wsX6_bestToBorrow_r4 ++ wsX6_bestToBorrow_r5)))) ++ wsX60)
def wsX6_wears_r1 : List Cond := [Cond.fieldLink RX6 159 "CueTourModel" "lamps" "I", Cond.fieldLink RX6 80 "CueTourModel" "burns" "[I", Cond.fieldLink RX6 87 "CueTourModel" "lines" "I", Cond.fieldLink RX6 44 "CueTourModel" "stage" "[I", Cond.fieldLink RX6 56 "CueTourModel" "wear" "[I", Cond.methodLink RX6 104 yX6_ahead, Cond.instanceMethod yX6_ahead, Cond.selects RX6 yX6_ahead yX6_ahead, Cond.initialized RX6, Cond.code yX6_ahead cX6_ahead 4 (some .int), Cond.fieldLink RX6 13 "CueTourModel" "isCut" "[Z", Cond.fieldLink RX6 7 "CueTourModel" "seconds" "[I", Cond.methodLink RX6 181 yX6_lights, Cond.instanceMethod yX6_lights, Cond.selects RX6 yX6_lights yX6_lights, Cond.code yX6_lights cX6_lights 3 none, Cond.fieldLink RX6 77 "CueTourModel" "levels" "[I", Cond.methodLink RX6 153 yX6_level, Cond.instanceMethod yX6_level, Cond.selects RX6 yX6_level yX6_level, Cond.code yX6_level cX6_level 11 (some .int), Cond.fieldLink RX6 127 "CueTourModel" "rows" "I", Cond.fieldLink RX6 65 "CueTourModel" "order" "[I", Cond.fieldLink RX6 68 "CueTourModel" "row" "[I"]
def wsX6_wears_r2 : List Cond := [Cond.fieldLink RX6 32 "CueTourModel" "fade" "[I", Cond.methodLink RX6 133 yX6_when, Cond.instanceMethod yX6_when, Cond.selects RX6 yX6_when yX6_when, Cond.code yX6_when cX6_when 2 (some .int), Cond.fieldLink RX6 71 "CueTourModel" "start" "[I", Cond.fieldLink RX6 26 "CueTourModel" "lineOf" "[I", Cond.fieldLink RX6 29 "CueTourModel" "offset" "[I", Cond.methodLink RX6 139 yX6_changesAt, Cond.instanceMethod yX6_changesAt, Cond.selects RX6 yX6_changesAt yX6_changesAt, Cond.code yX6_changesAt cX6_changesAt 5 (some .int), Cond.fieldLink RX6 35 "CueTourModel" "to" "[I", Cond.methodLink RX6 130 yX6_isPlayed, Cond.instanceMethod yX6_isPlayed, Cond.selects RX6 yX6_isPlayed yX6_isPlayed, Cond.code yX6_isPlayed cX6_isPlayed 2 (some .boolean), Cond.methodLink RX6 143 yX6_behind, Cond.static yX6_behind, Cond.code yX6_behind cX6_behind 4 (some .int), Cond.methodLink RX6 174 yX6_lampNow, Cond.instanceMethod yX6_lampNow, Cond.selects RX6 yX6_lampNow yX6_lampNow, Cond.code yX6_lampNow cX6_lampNow 5 (some .int)]
def wsX6_wears_r3 : List Cond := [Cond.fieldLink RX6 74 "CueTourModel" "laid" "[I"]
def wsX6_wears : List Cond := .code yX6_wears cX6_wears 5 none :: ((wsX6_wears_r1 ++ (wsX6_wears_r2 ++ wsX6_wears_r3)) ++ wsX60)
def wsX6_perform_r1 : List Cond := [Cond.fieldLink RX6 87 "CueTourModel" "lines" "I", Cond.fieldLink RX6 193 "CueTourModel" "logs" "I", Cond.fieldLink RX6 59 "CueTourModel" "played" "[I", Cond.fieldLink RX6 62 "CueTourModel" "wasShort" "[I", Cond.methodLink RX6 162 yX6_isStage, Cond.static yX6_isStage, Cond.initialized RX6, Cond.code yX6_isStage cX6_isStage 1 (some .boolean), Cond.methodLink RX6 90 yX6_isIn, Cond.static yX6_isIn, Cond.code yX6_isIn cX6_isIn 3 (some .boolean), Cond.methodLink RX6 104 yX6_ahead, Cond.instanceMethod yX6_ahead, Cond.selects RX6 yX6_ahead yX6_ahead, Cond.code yX6_ahead cX6_ahead 4 (some .int), Cond.fieldLink RX6 13 "CueTourModel" "isCut" "[Z", Cond.fieldLink RX6 7 "CueTourModel" "seconds" "[I", Cond.methodLink RX6 94 yX6_isFine, Cond.instanceMethod yX6_isFine, Cond.selects RX6 yX6_isFine yX6_isFine, Cond.code yX6_isFine cX6_isFine 2 (some .boolean), Cond.fieldLink RX6 83 "CueTourModel" "thrown" "I", Cond.methodLink RX6 150 yX6_plays, Cond.instanceMethod yX6_plays]
def wsX6_perform_r2 : List Cond := [Cond.selects RX6 yX6_plays yX6_plays, Cond.code yX6_plays cX6_plays 3 none, Cond.fieldLink RX6 71 "CueTourModel" "start" "[I", Cond.fieldLink RX6 127 "CueTourModel" "rows" "I", Cond.fieldLink RX6 111 "CueTourModel" "cues" "I", Cond.fieldLink RX6 65 "CueTourModel" "order" "[I", Cond.fieldLink RX6 68 "CueTourModel" "row" "[I", Cond.methodLink RX6 124 yX6_orders, Cond.instanceMethod yX6_orders, Cond.selects RX6 yX6_orders yX6_orders, Cond.code yX6_orders cX6_orders 4 none, Cond.methodLink RX6 121 yX6_isAhead, Cond.instanceMethod yX6_isAhead, Cond.selects RX6 yX6_isAhead yX6_isAhead, Cond.code yX6_isAhead cX6_isAhead 3 (some .boolean), Cond.fieldLink RX6 26 "CueTourModel" "lineOf" "[I", Cond.fieldLink RX6 29 "CueTourModel" "offset" "[I", Cond.methodLink RX6 130 yX6_isPlayed, Cond.instanceMethod yX6_isPlayed, Cond.selects RX6 yX6_isPlayed yX6_isPlayed, Cond.code yX6_isPlayed cX6_isPlayed 2 (some .boolean), Cond.methodLink RX6 133 yX6_when, Cond.instanceMethod yX6_when, Cond.selects RX6 yX6_when yX6_when]
def wsX6_perform_r3 : List Cond := [Cond.code yX6_when cX6_when 2 (some .int), Cond.methodLink RX6 177 yX6_laysAll, Cond.instanceMethod yX6_laysAll, Cond.selects RX6 yX6_laysAll yX6_laysAll, Cond.code yX6_laysAll cX6_laysAll 3 none, Cond.fieldLink RX6 74 "CueTourModel" "laid" "[I", Cond.methodLink RX6 171 yX6_lays, Cond.instanceMethod yX6_lays, Cond.selects RX6 yX6_lays yX6_lays, Cond.code yX6_lays cX6_lays 7 (some .int), Cond.fieldLink RX6 159 "CueTourModel" "lamps" "I", Cond.fieldLink RX6 44 "CueTourModel" "stage" "[I", Cond.fieldLink RX6 47 "CueTourModel" "area" "[I", Cond.fieldLink RX6 20 "CueTourModel" "areaOf" "[I", Cond.fieldLink RX6 50 "CueTourModel" "colour" "[I", Cond.fieldLink RX6 23 "CueTourModel" "colourOf" "[I", Cond.methodLink RX6 187 yX6_shorts, Cond.instanceMethod yX6_shorts, Cond.selects RX6 yX6_shorts yX6_shorts, Cond.code yX6_shorts cX6_shorts 5 (some .int), Cond.fieldLink RX6 17 "CueTourModel" "needs" "[I", Cond.methodLink RX6 181 yX6_lights, Cond.instanceMethod yX6_lights, Cond.selects RX6 yX6_lights yX6_lights]
def wsX6_perform_r4 : List Cond := [Cond.code yX6_lights cX6_lights 3 none, Cond.fieldLink RX6 77 "CueTourModel" "levels" "[I", Cond.methodLink RX6 153 yX6_level, Cond.instanceMethod yX6_level, Cond.selects RX6 yX6_level yX6_level, Cond.code yX6_level cX6_level 11 (some .int), Cond.fieldLink RX6 32 "CueTourModel" "fade" "[I", Cond.methodLink RX6 139 yX6_changesAt, Cond.instanceMethod yX6_changesAt, Cond.selects RX6 yX6_changesAt yX6_changesAt, Cond.code yX6_changesAt cX6_changesAt 5 (some .int), Cond.fieldLink RX6 35 "CueTourModel" "to" "[I", Cond.methodLink RX6 143 yX6_behind, Cond.static yX6_behind, Cond.code yX6_behind cX6_behind 4 (some .int), Cond.methodLink RX6 184 yX6_lightNow, Cond.instanceMethod yX6_lightNow, Cond.selects RX6 yX6_lightNow yX6_lightNow, Cond.code yX6_lightNow cX6_lightNow 5 (some .int), Cond.fieldLink RX6 53 "CueTourModel" "power" "[I", Cond.methodLink RX6 174 yX6_lampNow, Cond.instanceMethod yX6_lampNow, Cond.selects RX6 yX6_lampNow yX6_lampNow, Cond.code yX6_lampNow cX6_lampNow 5 (some .int)]
def wsX6_perform_r5 : List Cond := [Cond.fieldLink RX6 56 "CueTourModel" "wear" "[I", Cond.methodLink RX6 196 yX6_wears, Cond.instanceMethod yX6_wears, Cond.selects RX6 yX6_wears yX6_wears, Cond.code yX6_wears cX6_wears 5 none, Cond.fieldLink RX6 80 "CueTourModel" "burns" "[I"]
def wsX6_perform : List Cond := .code yX6_perform cX6_perform 6 (some .int) :: ((wsX6_perform_r1 ++ (wsX6_perform_r2 ++ (wsX6_perform_r3 ++ (wsX6_perform_r4 ++ wsX6_perform_r5)))) ++ wsX60)
def wsX6_logs : List Cond := .code yX6_logs cX6_logs 1 (some .int) :: ([.fieldLink RX6 83 "CueTourModel" "thrown" "I", .fieldLink RX6 193 "CueTourModel" "logs" "I"] ++ wsX60)
def wsX6_isLog : List Cond := .code yX6_isLog cX6_isLog 2 (some .boolean) :: ([.fieldLink RX6 193 "CueTourModel" "logs" "I", .methodLink RX6 90 yX6_isIn, .static yX6_isIn, .initialized RX6, .code yX6_isIn cX6_isIn 3 (some .boolean)] ++ wsX60)
def wsX6_stageOf : List Cond := .code yX6_stageOf cX6_stageOf 2 (some .int) :: ([.fieldLink RX6 59 "CueTourModel" "played" "[I", .methodLink RX6 199 yX6_isLog, .instanceMethod yX6_isLog, .selects RX6 yX6_isLog yX6_isLog, .initialized RX6, .code yX6_isLog cX6_isLog 2 (some .boolean), .fieldLink RX6 193 "CueTourModel" "logs" "I", .methodLink RX6 90 yX6_isIn, .static yX6_isIn, .code yX6_isIn cX6_isIn 3 (some .boolean), .methodLink RX6 94 yX6_isFine, .instanceMethod yX6_isFine, .selects RX6 yX6_isFine yX6_isFine, .code yX6_isFine cX6_isFine 2 (some .boolean), .fieldLink RX6 83 "CueTourModel" "thrown" "I"] ++ wsX60)
def wsX6_wasShortOf : List Cond := .code yX6_wasShortOf cX6_wasShortOf 3 (some .int) :: ([.fieldLink RX6 62 "CueTourModel" "wasShort" "[I", .methodLink RX6 199 yX6_isLog, .instanceMethod yX6_isLog, .selects RX6 yX6_isLog yX6_isLog, .initialized RX6, .code yX6_isLog cX6_isLog 2 (some .boolean), .fieldLink RX6 193 "CueTourModel" "logs" "I", .methodLink RX6 90 yX6_isIn, .static yX6_isIn, .code yX6_isIn cX6_isIn 3 (some .boolean), .methodLink RX6 98 yX6_isLine, .instanceMethod yX6_isLine, .selects RX6 yX6_isLine yX6_isLine, .code yX6_isLine cX6_isLine 2 (some .boolean), .fieldLink RX6 87 "CueTourModel" "lines" "I", .methodLink RX6 94 yX6_isFine, .instanceMethod yX6_isFine, .selects RX6 yX6_isFine yX6_isFine, .code yX6_isFine cX6_isFine 2 (some .boolean), .fieldLink RX6 83 "CueTourModel" "thrown" "I"] ++ wsX60)
def wsX6_timesShort : List Cond := .code yX6_timesShort cX6_timesShort 4 (some .int) :: ([.fieldLink RX6 193 "CueTourModel" "logs" "I", .fieldLink RX6 62 "CueTourModel" "wasShort" "[I", .methodLink RX6 98 yX6_isLine, .instanceMethod yX6_isLine, .selects RX6 yX6_isLine yX6_isLine, .initialized RX6, .code yX6_isLine cX6_isLine 2 (some .boolean), .fieldLink RX6 87 "CueTourModel" "lines" "I", .methodLink RX6 90 yX6_isIn, .static yX6_isIn, .code yX6_isIn cX6_isIn 3 (some .boolean), .methodLink RX6 94 yX6_isFine, .instanceMethod yX6_isFine, .selects RX6 yX6_isFine yX6_isFine, .code yX6_isFine cX6_isFine 2 (some .boolean), .fieldLink RX6 83 "CueTourModel" "thrown" "I"] ++ wsX60)
def wsL_addLine_r1 : List Cond := [Cond.classLink RL 13 "java/lang/IllegalArgumentException", Cond.classLink RL 15 "java/lang/IllegalStateException", Cond.methodLink RL 7 yX5_addLine, Cond.instanceMethod yX5_addLine, Cond.selects RX5 yX5_addLine yX5_addLine, Cond.initialized RX5, Cond.code yX5_addLine cX5_addLine 2 (some .int), Cond.fieldLink RX5 10 "CueTour" "script" "LCueTour$Script;", Cond.methodLink RX5 56 yX5_checkRange, Cond.static yX5_checkRange, Cond.code yX5_checkRange cX5_checkRange 3 none, Cond.classLink RX5 219 "java/lang/IllegalArgumentException", Cond.initialized "java/lang/IllegalArgumentException", Cond.methodLink RX5 64 yX5_checkRoom, Cond.static yX5_checkRoom, Cond.code yX5_checkRoom cX5_checkRoom 2 none, Cond.classLink RX5 224 "java/lang/IllegalStateException", Cond.initialized "java/lang/IllegalStateException", Cond.methodLink RX5 68 yX4_append, Cond.instanceMethod yX4_append, Cond.selects RX4 yX4_append yX4_append, Cond.initialized RX4, Cond.code yX4_append cX4_append 2 (some .int), Cond.fieldLink RX4 9 "CueTour$Script" "seconds" "[I"]
def wsL_addLine_r2 : List Cond := [Cond.fieldLink RX4 24 "CueTour$Script" "count" "I"]
def wsL_addLine : List Cond := .codeWith yL_addLine cL_addLine 4 (some .int) [(0, 9, 12, 13), (0, 9, 15, 15)] :: ((wsL_addLine_r1 ++ wsL_addLine_r2) ++ wsX50 ++ wsX40 ++ (vx_atS RX5 223 "java/lang/IllegalArgumentException" ["java/lang/RuntimeException", "java/lang/Exception"]).filter goodWord ++ (vx_atS RX5 228 "java/lang/IllegalStateException" ["java/lang/RuntimeException", "java/lang/Exception"]).filter goodWord)
def wsL_need : List Cond := .codeWith yL_need cL_need 6 (some .int) [(0, 12, 15, 21), (0, 12, 19, 13)] :: ([.classLink RL 21 "java/lang/IndexOutOfBoundsException", .classLink RL 13 "java/lang/IllegalArgumentException", .methodLink RL 17 yX5_need, .instanceMethod yX5_need, .selects RX5 yX5_need yX5_need, .initialized RX5, .code yX5_need cX5_need 5 (some .int), .fieldLink RX5 10 "CueTour" "script" "LCueTour$Script;", .methodLink RX5 72 yX5_checkNumber, .static yX5_checkNumber, .code yX5_checkNumber cX5_checkNumber 2 none, .classLink RX5 212 "java/lang/IndexOutOfBoundsException", .initialized "java/lang/IndexOutOfBoundsException", .methodLink RX5 56 yX5_checkRange, .static yX5_checkRange, .code yX5_checkRange cX5_checkRange 3 none, .classLink RX5 219 "java/lang/IllegalArgumentException", .initialized "java/lang/IllegalArgumentException"] ++ wsX50 ++ wsX40 ++ (vx_atS RX5 216 "java/lang/IndexOutOfBoundsException" ["java/lang/RuntimeException", "java/lang/Exception"]).filter goodWord ++ (vx_atS RX5 223 "java/lang/IllegalArgumentException" ["java/lang/RuntimeException", "java/lang/Exception"]).filter goodWord)
def wsL_cut_r1 : List Cond := [Cond.classLink RL 21 "java/lang/IndexOutOfBoundsException", Cond.methodLink RL 23 yX5_cut, Cond.instanceMethod yX5_cut, Cond.selects RX5 yX5_cut yX5_cut, Cond.initialized RX5, Cond.code yX5_cut cX5_cut 3 (some .int), Cond.fieldLink RX5 10 "CueTour" "script" "LCueTour$Script;", Cond.fieldLink RX5 26 "CueTour" "cueList" "LCueTour$CueList;", Cond.methodLink RX5 72 yX5_checkNumber, Cond.static yX5_checkNumber, Cond.code yX5_checkNumber cX5_checkNumber 2 none, Cond.classLink RX5 212 "java/lang/IndexOutOfBoundsException", Cond.initialized "java/lang/IndexOutOfBoundsException", Cond.methodLink RX5 82 yX1_arrange, Cond.instanceMethod yX1_arrange, Cond.selects RX1 yX1_arrange yX1_arrange, Cond.initialized RX1, Cond.code yX1_arrange cX1_arrange 2 none, Cond.methodLink RX1 48 yX1_sortCues, Cond.instanceMethod yX1_sortCues, Cond.selects RX1 yX1_sortCues yX1_sortCues, Cond.code yX1_sortCues cX1_sortCues 3 none, Cond.fieldLink RX1 26 "CueTour$CueList" "count" "I", Cond.fieldLink RX1 30 "CueTour$CueList" "order" "[I"]
def wsL_cut_r2 : List Cond := [Cond.methodLink RX1 61 yX1_comesAhead, Cond.instanceMethod yX1_comesAhead, Cond.selects RX1 yX1_comesAhead yX1_comesAhead, Cond.code yX1_comesAhead cX1_comesAhead 3 (some .boolean), Cond.fieldLink RX1 9 "CueTour$CueList" "lineOf" "[I", Cond.fieldLink RX1 15 "CueTour$CueList" "offsets" "[I", Cond.methodLink RX1 51 yX1_setTimes, Cond.instanceMethod yX1_setTimes, Cond.selects RX1 yX1_setTimes yX1_setTimes, Cond.code yX1_setTimes cX1_setTimes 4 none, Cond.fieldLink RX1 33 "CueTour$CueList" "times" "[I", Cond.methodLink RX1 71 yX4_secondsAhead, Cond.instanceMethod yX4_secondsAhead, Cond.selects RX4 yX4_secondsAhead yX4_secondsAhead, Cond.initialized RX4, Cond.code yX4_secondsAhead cX4_secondsAhead 4 (some .int), Cond.fieldLink RX4 15 "CueTour$Script" "isOut" "[Z", Cond.fieldLink RX4 9 "CueTour$Script" "seconds" "[I", Cond.methodLink RX1 55 yX1_fold, Cond.instanceMethod yX1_fold, Cond.selects RX1 yX1_fold yX1_fold, Cond.code yX1_fold cX1_fold 4 none, Cond.fieldLink RX1 36 "CueTour$CueList" "into" "[I", Cond.methodLink RX1 75 yX1_forget]
def wsL_cut_r3 : List Cond := [Cond.instanceMethod yX1_forget, Cond.selects RX1 yX1_forget yX1_forget, Cond.code yX1_forget cX1_forget 3 none, Cond.fieldLink RX1 39 "CueTour$CueList" "made" "[[I", Cond.methodLink RX1 79 yX1_fillIn, Cond.instanceMethod yX1_fillIn, Cond.selects RX1 yX1_fillIn yX1_fillIn, Cond.code yX1_fillIn cX1_fillIn 4 none, Cond.fieldLink RX1 23 "CueTour$CueList" "own" "[[I", Cond.methodLink RX1 58 yX1_sortPlays, Cond.instanceMethod yX1_sortPlays, Cond.selects RX1 yX1_sortPlays yX1_sortPlays, Cond.code yX1_sortPlays cX1_sortPlays 2 none, Cond.fieldLink RX1 45 "CueTour$CueList" "playCount" "I", Cond.methodLink RX1 83 yX1_insertPlay, Cond.instanceMethod yX1_insertPlay, Cond.selects RX1 yX1_insertPlay yX1_insertPlay, Cond.code yX1_insertPlay cX1_insertPlay 3 none, Cond.fieldLink RX1 42 "CueTour$CueList" "plays" "[I", Cond.methodLink RX5 86 yX4_total, Cond.instanceMethod yX4_total, Cond.selects RX4 yX4_total yX4_total, Cond.code yX4_total cX4_total 1 (some .int), Cond.fieldLink RX4 24 "CueTour$Script" "count" "I"]
def wsL_cut_r4 : List Cond := [Cond.methodLink RX4 28 yX4_secondsAhead]
def wsL_cut : List Cond := .codeWith yL_cut cL_cut 5 (some .int) [(0, 10, 13, 21)] :: ((wsL_cut_r1 ++ (wsL_cut_r2 ++ (wsL_cut_r3 ++ wsL_cut_r4))) ++ wsX50 ++ wsX40 ++ wsX10 ++ (vx_atS RX5 216 "java/lang/IndexOutOfBoundsException" ["java/lang/RuntimeException", "java/lang/Exception"]).filter goodWord)
def wsL_startOf : List Cond := .codeWith yL_startOf cL_startOf 4 (some .int) [(0, 9, 12, 21)] :: ([.classLink RL 21 "java/lang/IndexOutOfBoundsException", .methodLink RL 27 yX5_startOf, .instanceMethod yX5_startOf, .selects RX5 yX5_startOf yX5_startOf, .initialized RX5, .code yX5_startOf cX5_startOf 2 (some .int), .fieldLink RX5 10 "CueTour" "script" "LCueTour$Script;", .methodLink RX5 72 yX5_checkNumber, .static yX5_checkNumber, .code yX5_checkNumber cX5_checkNumber 2 none, .classLink RX5 212 "java/lang/IndexOutOfBoundsException", .initialized "java/lang/IndexOutOfBoundsException", .methodLink RX5 90 yX4_secondsAhead, .instanceMethod yX4_secondsAhead, .selects RX4 yX4_secondsAhead yX4_secondsAhead, .initialized RX4, .code yX4_secondsAhead cX4_secondsAhead 4 (some .int), .fieldLink RX4 15 "CueTour$Script" "isOut" "[Z", .fieldLink RX4 9 "CueTour$Script" "seconds" "[I"] ++ wsX50 ++ wsX40 ++ (vx_atS RX5 216 "java/lang/IndexOutOfBoundsException" ["java/lang/RuntimeException", "java/lang/Exception"]).filter goodWord)
def wsL_setChannel : List Cond := .codeWith yL_setChannel cL_setChannel 6 (some .int) [(0, 12, 15, 21), (0, 12, 19, 13)] :: ([.classLink RL 21 "java/lang/IndexOutOfBoundsException", .classLink RL 13 "java/lang/IllegalArgumentException", .methodLink RL 30 yX5_setChannel, .instanceMethod yX5_setChannel, .selects RX5 yX5_setChannel yX5_setChannel, .initialized RX5, .code yX5_setChannel cX5_setChannel 5 (some .int), .fieldLink RX5 19 "CueTour" "patch" "LCueTour$Patch;", .methodLink RX5 72 yX5_checkNumber, .static yX5_checkNumber, .code yX5_checkNumber cX5_checkNumber 2 none, .classLink RX5 212 "java/lang/IndexOutOfBoundsException", .initialized "java/lang/IndexOutOfBoundsException", .methodLink RX5 56 yX5_checkRange, .static yX5_checkRange, .code yX5_checkRange cX5_checkRange 3 none, .classLink RX5 219 "java/lang/IllegalArgumentException", .initialized "java/lang/IllegalArgumentException"] ++ wsX50 ++ wsX20 ++ (vx_atS RX5 216 "java/lang/IndexOutOfBoundsException" ["java/lang/RuntimeException", "java/lang/Exception"]).filter goodWord ++ (vx_atS RX5 223 "java/lang/IllegalArgumentException" ["java/lang/RuntimeException", "java/lang/Exception"]).filter goodWord)
def wsL_addCue_r1 : List Cond := [Cond.classLink RL 21 "java/lang/IndexOutOfBoundsException", Cond.classLink RL 13 "java/lang/IllegalArgumentException", Cond.classLink RL 15 "java/lang/IllegalStateException", Cond.methodLink RL 33 yX5_addCue, Cond.instanceMethod yX5_addCue, Cond.selects RX5 yX5_addCue yX5_addCue, Cond.initialized RX5, Cond.code yX5_addCue cX5_addCue 5 (some .int), Cond.fieldLink RX5 10 "CueTour" "script" "LCueTour$Script;", Cond.fieldLink RX5 26 "CueTour" "cueList" "LCueTour$CueList;", Cond.methodLink RX5 72 yX5_checkNumber, Cond.static yX5_checkNumber, Cond.code yX5_checkNumber cX5_checkNumber 2 none, Cond.classLink RX5 212 "java/lang/IndexOutOfBoundsException", Cond.initialized "java/lang/IndexOutOfBoundsException", Cond.methodLink RX5 56 yX5_checkRange, Cond.static yX5_checkRange, Cond.code yX5_checkRange cX5_checkRange 3 none, Cond.classLink RX5 219 "java/lang/IllegalArgumentException", Cond.initialized "java/lang/IllegalArgumentException", Cond.methodLink RX5 64 yX5_checkRoom, Cond.static yX5_checkRoom, Cond.code yX5_checkRoom cX5_checkRoom 2 none, Cond.classLink RX5 224 "java/lang/IllegalStateException"]
def wsL_addCue_r2 : List Cond := [Cond.initialized "java/lang/IllegalStateException", Cond.methodLink RX5 100 yX1_append, Cond.instanceMethod yX1_append, Cond.selects RX1 yX1_append yX1_append, Cond.initialized RX1, Cond.code yX1_append cX1_append 2 (some .int), Cond.fieldLink RX1 23 "CueTour$CueList" "own" "[[I", Cond.fieldLink RX1 26 "CueTour$CueList" "count" "I", Cond.methodLink RX5 102 yX1_place, Cond.instanceMethod yX1_place, Cond.selects RX1 yX1_place yX1_place, Cond.code yX1_place cX1_place 5 none, Cond.fieldLink RX1 9 "CueTour$CueList" "lineOf" "[I", Cond.fieldLink RX1 15 "CueTour$CueList" "offsets" "[I", Cond.fieldLink RX1 18 "CueTour$CueList" "fades" "[I", Cond.methodLink RX5 82 yX1_arrange, Cond.instanceMethod yX1_arrange, Cond.selects RX1 yX1_arrange yX1_arrange, Cond.code yX1_arrange cX1_arrange 2 none, Cond.methodLink RX1 48 yX1_sortCues, Cond.instanceMethod yX1_sortCues, Cond.selects RX1 yX1_sortCues yX1_sortCues, Cond.code yX1_sortCues cX1_sortCues 3 none, Cond.fieldLink RX1 30 "CueTour$CueList" "order" "[I"]
def wsL_addCue_r3 : List Cond := [Cond.methodLink RX1 61 yX1_comesAhead, Cond.instanceMethod yX1_comesAhead, Cond.selects RX1 yX1_comesAhead yX1_comesAhead, Cond.code yX1_comesAhead cX1_comesAhead 3 (some .boolean), Cond.methodLink RX1 51 yX1_setTimes, Cond.instanceMethod yX1_setTimes, Cond.selects RX1 yX1_setTimes yX1_setTimes, Cond.code yX1_setTimes cX1_setTimes 4 none, Cond.fieldLink RX1 33 "CueTour$CueList" "times" "[I", Cond.methodLink RX1 71 yX4_secondsAhead, Cond.instanceMethod yX4_secondsAhead, Cond.selects RX4 yX4_secondsAhead yX4_secondsAhead, Cond.initialized RX4, Cond.code yX4_secondsAhead cX4_secondsAhead 4 (some .int), Cond.fieldLink RX4 15 "CueTour$Script" "isOut" "[Z", Cond.fieldLink RX4 9 "CueTour$Script" "seconds" "[I", Cond.methodLink RX1 55 yX1_fold, Cond.instanceMethod yX1_fold, Cond.selects RX1 yX1_fold yX1_fold, Cond.code yX1_fold cX1_fold 4 none, Cond.fieldLink RX1 36 "CueTour$CueList" "into" "[I", Cond.methodLink RX1 75 yX1_forget, Cond.instanceMethod yX1_forget, Cond.selects RX1 yX1_forget yX1_forget]
def wsL_addCue_r4 : List Cond := [Cond.code yX1_forget cX1_forget 3 none, Cond.fieldLink RX1 39 "CueTour$CueList" "made" "[[I", Cond.methodLink RX1 79 yX1_fillIn, Cond.instanceMethod yX1_fillIn, Cond.selects RX1 yX1_fillIn yX1_fillIn, Cond.code yX1_fillIn cX1_fillIn 4 none, Cond.methodLink RX1 58 yX1_sortPlays, Cond.instanceMethod yX1_sortPlays, Cond.selects RX1 yX1_sortPlays yX1_sortPlays, Cond.code yX1_sortPlays cX1_sortPlays 2 none, Cond.fieldLink RX1 45 "CueTour$CueList" "playCount" "I", Cond.methodLink RX1 83 yX1_insertPlay, Cond.instanceMethod yX1_insertPlay, Cond.selects RX1 yX1_insertPlay yX1_insertPlay, Cond.code yX1_insertPlay cX1_insertPlay 3 none, Cond.fieldLink RX1 42 "CueTour$CueList" "plays" "[I"]
def wsL_addCue : List Cond := .codeWith yL_addCue cL_addCue 6 (some .int) [(0, 12, 15, 21), (0, 12, 19, 13), (0, 12, 23, 15)] :: ((wsL_addCue_r1 ++ (wsL_addCue_r2 ++ (wsL_addCue_r3 ++ wsL_addCue_r4))) ++ wsX50 ++ wsX40 ++ wsX10 ++ (vx_atS RX5 216 "java/lang/IndexOutOfBoundsException" ["java/lang/RuntimeException", "java/lang/Exception"]).filter goodWord ++ (vx_atS RX5 223 "java/lang/IllegalArgumentException" ["java/lang/RuntimeException", "java/lang/Exception"]).filter goodWord ++ (vx_atS RX5 228 "java/lang/IllegalStateException" ["java/lang/RuntimeException", "java/lang/Exception"]).filter goodWord)
def wsL_move_r1 : List Cond := [Cond.classLink RL 21 "java/lang/IndexOutOfBoundsException", Cond.classLink RL 13 "java/lang/IllegalArgumentException", Cond.methodLink RL 36 yX5_move, Cond.instanceMethod yX5_move, Cond.selects RX5 yX5_move yX5_move, Cond.initialized RX5, Cond.code yX5_move cX5_move 6 (some .int), Cond.fieldLink RX5 26 "CueTour" "cueList" "LCueTour$CueList;", Cond.fieldLink RX5 10 "CueTour" "script" "LCueTour$Script;", Cond.methodLink RX5 72 yX5_checkNumber, Cond.static yX5_checkNumber, Cond.code yX5_checkNumber cX5_checkNumber 2 none, Cond.classLink RX5 212 "java/lang/IndexOutOfBoundsException", Cond.initialized "java/lang/IndexOutOfBoundsException", Cond.methodLink RX5 56 yX5_checkRange, Cond.static yX5_checkRange, Cond.code yX5_checkRange cX5_checkRange 3 none, Cond.classLink RX5 219 "java/lang/IllegalArgumentException", Cond.initialized "java/lang/IllegalArgumentException", Cond.methodLink RX5 102 yX1_place, Cond.instanceMethod yX1_place, Cond.selects RX1 yX1_place yX1_place, Cond.initialized RX1, Cond.code yX1_place cX1_place 5 none]
def wsL_move_r2 : List Cond := [Cond.fieldLink RX1 9 "CueTour$CueList" "lineOf" "[I", Cond.fieldLink RX1 15 "CueTour$CueList" "offsets" "[I", Cond.fieldLink RX1 18 "CueTour$CueList" "fades" "[I", Cond.methodLink RX5 82 yX1_arrange, Cond.instanceMethod yX1_arrange, Cond.selects RX1 yX1_arrange yX1_arrange, Cond.code yX1_arrange cX1_arrange 2 none, Cond.methodLink RX1 48 yX1_sortCues, Cond.instanceMethod yX1_sortCues, Cond.selects RX1 yX1_sortCues yX1_sortCues, Cond.code yX1_sortCues cX1_sortCues 3 none, Cond.fieldLink RX1 26 "CueTour$CueList" "count" "I", Cond.fieldLink RX1 30 "CueTour$CueList" "order" "[I", Cond.methodLink RX1 61 yX1_comesAhead, Cond.instanceMethod yX1_comesAhead, Cond.selects RX1 yX1_comesAhead yX1_comesAhead, Cond.code yX1_comesAhead cX1_comesAhead 3 (some .boolean), Cond.methodLink RX1 51 yX1_setTimes, Cond.instanceMethod yX1_setTimes, Cond.selects RX1 yX1_setTimes yX1_setTimes, Cond.code yX1_setTimes cX1_setTimes 4 none, Cond.fieldLink RX1 33 "CueTour$CueList" "times" "[I", Cond.methodLink RX1 71 yX4_secondsAhead, Cond.instanceMethod yX4_secondsAhead]
def wsL_move_r3 : List Cond := [Cond.selects RX4 yX4_secondsAhead yX4_secondsAhead, Cond.initialized RX4, Cond.code yX4_secondsAhead cX4_secondsAhead 4 (some .int), Cond.fieldLink RX4 15 "CueTour$Script" "isOut" "[Z", Cond.fieldLink RX4 9 "CueTour$Script" "seconds" "[I", Cond.methodLink RX1 55 yX1_fold, Cond.instanceMethod yX1_fold, Cond.selects RX1 yX1_fold yX1_fold, Cond.code yX1_fold cX1_fold 4 none, Cond.fieldLink RX1 36 "CueTour$CueList" "into" "[I", Cond.methodLink RX1 75 yX1_forget, Cond.instanceMethod yX1_forget, Cond.selects RX1 yX1_forget yX1_forget, Cond.code yX1_forget cX1_forget 3 none, Cond.fieldLink RX1 39 "CueTour$CueList" "made" "[[I", Cond.methodLink RX1 79 yX1_fillIn, Cond.instanceMethod yX1_fillIn, Cond.selects RX1 yX1_fillIn yX1_fillIn, Cond.code yX1_fillIn cX1_fillIn 4 none, Cond.fieldLink RX1 23 "CueTour$CueList" "own" "[[I", Cond.methodLink RX1 58 yX1_sortPlays, Cond.instanceMethod yX1_sortPlays, Cond.selects RX1 yX1_sortPlays yX1_sortPlays, Cond.code yX1_sortPlays cX1_sortPlays 2 none]
def wsL_move_r4 : List Cond := [Cond.fieldLink RX1 45 "CueTour$CueList" "playCount" "I", Cond.methodLink RX1 83 yX1_insertPlay, Cond.instanceMethod yX1_insertPlay, Cond.selects RX1 yX1_insertPlay yX1_insertPlay, Cond.code yX1_insertPlay cX1_insertPlay 3 none, Cond.fieldLink RX1 42 "CueTour$CueList" "plays" "[I"]
def wsL_move : List Cond := .codeWith yL_move cL_move 7 (some .int) [(0, 14, 17, 21), (0, 14, 21, 13)] :: ((wsL_move_r1 ++ (wsL_move_r2 ++ (wsL_move_r3 ++ wsL_move_r4))) ++ wsX50 ++ wsX10 ++ wsX40 ++ (vx_atS RX5 216 "java/lang/IndexOutOfBoundsException" ["java/lang/RuntimeException", "java/lang/Exception"]).filter goodWord ++ (vx_atS RX5 223 "java/lang/IllegalArgumentException" ["java/lang/RuntimeException", "java/lang/Exception"]).filter goodWord)
def wsL_change_r1 : List Cond := [Cond.classLink RL 21 "java/lang/IndexOutOfBoundsException", Cond.classLink RL 13 "java/lang/IllegalArgumentException", Cond.methodLink RL 40 yX5_change, Cond.instanceMethod yX5_change, Cond.selects RX5 yX5_change yX5_change, Cond.initialized RX5, Cond.code yX5_change cX5_change 5 (some .int), Cond.fieldLink RX5 26 "CueTour" "cueList" "LCueTour$CueList;", Cond.fieldLink RX5 10 "CueTour" "script" "LCueTour$Script;", Cond.methodLink RX5 72 yX5_checkNumber, Cond.static yX5_checkNumber, Cond.code yX5_checkNumber cX5_checkNumber 2 none, Cond.classLink RX5 212 "java/lang/IndexOutOfBoundsException", Cond.initialized "java/lang/IndexOutOfBoundsException", Cond.methodLink RX5 56 yX5_checkRange, Cond.static yX5_checkRange, Cond.code yX5_checkRange cX5_checkRange 3 none, Cond.classLink RX5 219 "java/lang/IllegalArgumentException", Cond.initialized "java/lang/IllegalArgumentException", Cond.methodLink RX5 82 yX1_arrange, Cond.instanceMethod yX1_arrange, Cond.selects RX1 yX1_arrange yX1_arrange, Cond.initialized RX1, Cond.code yX1_arrange cX1_arrange 2 none]
def wsL_change_r2 : List Cond := [Cond.methodLink RX1 48 yX1_sortCues, Cond.instanceMethod yX1_sortCues, Cond.selects RX1 yX1_sortCues yX1_sortCues, Cond.code yX1_sortCues cX1_sortCues 3 none, Cond.fieldLink RX1 26 "CueTour$CueList" "count" "I", Cond.fieldLink RX1 30 "CueTour$CueList" "order" "[I", Cond.methodLink RX1 61 yX1_comesAhead, Cond.instanceMethod yX1_comesAhead, Cond.selects RX1 yX1_comesAhead yX1_comesAhead, Cond.code yX1_comesAhead cX1_comesAhead 3 (some .boolean), Cond.fieldLink RX1 9 "CueTour$CueList" "lineOf" "[I", Cond.fieldLink RX1 15 "CueTour$CueList" "offsets" "[I", Cond.methodLink RX1 51 yX1_setTimes, Cond.instanceMethod yX1_setTimes, Cond.selects RX1 yX1_setTimes yX1_setTimes, Cond.code yX1_setTimes cX1_setTimes 4 none, Cond.fieldLink RX1 33 "CueTour$CueList" "times" "[I", Cond.methodLink RX1 71 yX4_secondsAhead, Cond.instanceMethod yX4_secondsAhead, Cond.selects RX4 yX4_secondsAhead yX4_secondsAhead, Cond.initialized RX4, Cond.code yX4_secondsAhead cX4_secondsAhead 4 (some .int), Cond.fieldLink RX4 15 "CueTour$Script" "isOut" "[Z", Cond.fieldLink RX4 9 "CueTour$Script" "seconds" "[I"]
def wsL_change_r3 : List Cond := [Cond.methodLink RX1 55 yX1_fold, Cond.instanceMethod yX1_fold, Cond.selects RX1 yX1_fold yX1_fold, Cond.code yX1_fold cX1_fold 4 none, Cond.fieldLink RX1 36 "CueTour$CueList" "into" "[I", Cond.methodLink RX1 75 yX1_forget, Cond.instanceMethod yX1_forget, Cond.selects RX1 yX1_forget yX1_forget, Cond.code yX1_forget cX1_forget 3 none, Cond.fieldLink RX1 39 "CueTour$CueList" "made" "[[I", Cond.methodLink RX1 79 yX1_fillIn, Cond.instanceMethod yX1_fillIn, Cond.selects RX1 yX1_fillIn yX1_fillIn, Cond.code yX1_fillIn cX1_fillIn 4 none, Cond.fieldLink RX1 23 "CueTour$CueList" "own" "[[I", Cond.methodLink RX1 58 yX1_sortPlays, Cond.instanceMethod yX1_sortPlays, Cond.selects RX1 yX1_sortPlays yX1_sortPlays, Cond.code yX1_sortPlays cX1_sortPlays 2 none, Cond.fieldLink RX1 45 "CueTour$CueList" "playCount" "I", Cond.methodLink RX1 83 yX1_insertPlay, Cond.instanceMethod yX1_insertPlay, Cond.selects RX1 yX1_insertPlay yX1_insertPlay, Cond.code yX1_insertPlay cX1_insertPlay 3 none]
def wsL_change_r4 : List Cond := [Cond.fieldLink RX1 42 "CueTour$CueList" "plays" "[I"]
def wsL_change : List Cond := .codeWith yL_change cL_change 6 (some .int) [(0, 12, 15, 21), (0, 12, 19, 13)] :: ((wsL_change_r1 ++ (wsL_change_r2 ++ (wsL_change_r3 ++ wsL_change_r4))) ++ wsX50 ++ wsX10 ++ wsX40 ++ (vx_atS RX5 216 "java/lang/IndexOutOfBoundsException" ["java/lang/RuntimeException", "java/lang/Exception"]).filter goodWord ++ (vx_atS RX5 223 "java/lang/IllegalArgumentException" ["java/lang/RuntimeException", "java/lang/Exception"]).filter goodWord)
def wsL_cueAt : List Cond := .codeWith yL_cueAt cL_cueAt 4 (some .int) [(0, 9, 12, 21)] :: ([.classLink RL 21 "java/lang/IndexOutOfBoundsException", .methodLink RL 43 yX5_cueAt, .instanceMethod yX5_cueAt, .selects RX5 yX5_cueAt yX5_cueAt, .initialized RX5, .code yX5_cueAt cX5_cueAt 2 (some .int), .fieldLink RX5 26 "CueTour" "cueList" "LCueTour$CueList;", .methodLink RX5 72 yX5_checkNumber, .static yX5_checkNumber, .code yX5_checkNumber cX5_checkNumber 2 none, .classLink RX5 212 "java/lang/IndexOutOfBoundsException", .initialized "java/lang/IndexOutOfBoundsException"] ++ wsX50 ++ wsX10 ++ (vx_atS RX5 216 "java/lang/IndexOutOfBoundsException" ["java/lang/RuntimeException", "java/lang/Exception"]).filter goodWord)
def wsL_timeOf : List Cond := .codeWith yL_timeOf cL_timeOf 4 (some .int) [(0, 9, 12, 21)] :: ([.classLink RL 21 "java/lang/IndexOutOfBoundsException", .methodLink RL 46 yX5_timeOf, .instanceMethod yX5_timeOf, .selects RX5 yX5_timeOf yX5_timeOf, .initialized RX5, .code yX5_timeOf cX5_timeOf 2 (some .int), .fieldLink RX5 26 "CueTour" "cueList" "LCueTour$CueList;", .methodLink RX5 72 yX5_checkNumber, .static yX5_checkNumber, .code yX5_checkNumber cX5_checkNumber 2 none, .classLink RX5 212 "java/lang/IndexOutOfBoundsException", .initialized "java/lang/IndexOutOfBoundsException"] ++ wsX50 ++ wsX10 ++ (vx_atS RX5 216 "java/lang/IndexOutOfBoundsException" ["java/lang/RuntimeException", "java/lang/Exception"]).filter goodWord)
def wsL_foldedInto : List Cond := .codeWith yL_foldedInto cL_foldedInto 4 (some .int) [(0, 9, 12, 21)] :: ([.classLink RL 21 "java/lang/IndexOutOfBoundsException", .methodLink RL 49 yX5_foldedInto, .instanceMethod yX5_foldedInto, .selects RX5 yX5_foldedInto yX5_foldedInto, .initialized RX5, .code yX5_foldedInto cX5_foldedInto 2 (some .int), .fieldLink RX5 26 "CueTour" "cueList" "LCueTour$CueList;", .methodLink RX5 72 yX5_checkNumber, .static yX5_checkNumber, .code yX5_checkNumber cX5_checkNumber 2 none, .classLink RX5 212 "java/lang/IndexOutOfBoundsException", .initialized "java/lang/IndexOutOfBoundsException"] ++ wsX50 ++ wsX10 ++ (vx_atS RX5 216 "java/lang/IndexOutOfBoundsException" ["java/lang/RuntimeException", "java/lang/Exception"]).filter goodWord)
def wsL_changes : List Cond := .codeWith yL_changes cL_changes 5 (some .int) [(0, 10, 13, 21)] :: ([.classLink RL 21 "java/lang/IndexOutOfBoundsException", .methodLink RL 52 yX5_changes, .instanceMethod yX5_changes, .selects RX5 yX5_changes yX5_changes, .initialized RX5, .code yX5_changes cX5_changes 3 (some .int), .fieldLink RX5 26 "CueTour" "cueList" "LCueTour$CueList;", .methodLink RX5 72 yX5_checkNumber, .static yX5_checkNumber, .code yX5_checkNumber cX5_checkNumber 2 none, .classLink RX5 212 "java/lang/IndexOutOfBoundsException", .initialized "java/lang/IndexOutOfBoundsException"] ++ wsX50 ++ wsX10 ++ (vx_atS RX5 216 "java/lang/IndexOutOfBoundsException" ["java/lang/RuntimeException", "java/lang/Exception"]).filter goodWord)
def wsL_levelAt_r1 : List Cond := [Cond.classLink RL 21 "java/lang/IndexOutOfBoundsException", Cond.classLink RL 13 "java/lang/IllegalArgumentException", Cond.methodLink RL 56 yX5_levelAt, Cond.instanceMethod yX5_levelAt, Cond.selects RX5 yX5_levelAt yX5_levelAt, Cond.initialized RX5, Cond.code yX5_levelAt cX5_levelAt 3 (some .int), Cond.fieldLink RX5 26 "CueTour" "cueList" "LCueTour$CueList;", Cond.methodLink RX5 72 yX5_checkNumber, Cond.static yX5_checkNumber, Cond.code yX5_checkNumber cX5_checkNumber 2 none, Cond.classLink RX5 212 "java/lang/IndexOutOfBoundsException", Cond.initialized "java/lang/IndexOutOfBoundsException", Cond.methodLink RX5 56 yX5_checkRange, Cond.static yX5_checkRange, Cond.code yX5_checkRange cX5_checkRange 3 none, Cond.classLink RX5 219 "java/lang/IllegalArgumentException", Cond.initialized "java/lang/IllegalArgumentException", Cond.methodLink RX5 124 yX1_levelByFades, Cond.instanceMethod yX1_levelByFades, Cond.selects RX1 yX1_levelByFades yX1_levelByFades, Cond.initialized RX1, Cond.code yX1_levelByFades cX1_levelByFades 9 (some .int), Cond.fieldLink RX1 45 "CueTour$CueList" "playCount" "I"]
def wsL_levelAt_r2 : List Cond := [Cond.fieldLink RX1 33 "CueTour$CueList" "times" "[I", Cond.fieldLink RX1 42 "CueTour$CueList" "plays" "[I", Cond.fieldLink RX1 39 "CueTour$CueList" "made" "[[I", Cond.fieldLink RX1 18 "CueTour$CueList" "fades" "[I", Cond.methodLink RX1 86 yX1_levelBehind, Cond.static yX1_levelBehind, Cond.code yX1_levelBehind cX1_levelBehind 4 (some .int)]
def wsL_levelAt : List Cond := .codeWith yL_levelAt cL_levelAt 5 (some .int) [(0, 10, 13, 21), (0, 10, 17, 13)] :: ((wsL_levelAt_r1 ++ wsL_levelAt_r2) ++ wsX50 ++ wsX10 ++ (vx_atS RX5 216 "java/lang/IndexOutOfBoundsException" ["java/lang/RuntimeException", "java/lang/Exception"]).filter goodWord ++ (vx_atS RX5 223 "java/lang/IllegalArgumentException" ["java/lang/RuntimeException", "java/lang/Exception"]).filter goodWord)
def wsL_levelBySeconds_r1 : List Cond := [Cond.classLink RL 21 "java/lang/IndexOutOfBoundsException", Cond.classLink RL 13 "java/lang/IllegalArgumentException", Cond.methodLink RL 59 yX5_levelBySeconds, Cond.instanceMethod yX5_levelBySeconds, Cond.selects RX5 yX5_levelBySeconds yX5_levelBySeconds, Cond.initialized RX5, Cond.code yX5_levelBySeconds cX5_levelBySeconds 3 (some .int), Cond.fieldLink RX5 26 "CueTour" "cueList" "LCueTour$CueList;", Cond.methodLink RX5 72 yX5_checkNumber, Cond.static yX5_checkNumber, Cond.code yX5_checkNumber cX5_checkNumber 2 none, Cond.classLink RX5 212 "java/lang/IndexOutOfBoundsException", Cond.initialized "java/lang/IndexOutOfBoundsException", Cond.methodLink RX5 56 yX5_checkRange, Cond.static yX5_checkRange, Cond.code yX5_checkRange cX5_checkRange 3 none, Cond.classLink RX5 219 "java/lang/IllegalArgumentException", Cond.initialized "java/lang/IllegalArgumentException", Cond.methodLink RX5 128 yX1_levelByTicks, Cond.instanceMethod yX1_levelByTicks, Cond.selects RX1 yX1_levelByTicks yX1_levelByTicks, Cond.initialized RX1, Cond.code yX1_levelByTicks cX1_levelByTicks 11 (some .int), Cond.fieldLink RX1 45 "CueTour$CueList" "playCount" "I"]
def wsL_levelBySeconds_r2 : List Cond := [Cond.fieldLink RX1 33 "CueTour$CueList" "times" "[I", Cond.fieldLink RX1 42 "CueTour$CueList" "plays" "[I", Cond.fieldLink RX1 39 "CueTour$CueList" "made" "[[I", Cond.fieldLink RX1 18 "CueTour$CueList" "fades" "[I", Cond.methodLink RX1 86 yX1_levelBehind, Cond.static yX1_levelBehind, Cond.code yX1_levelBehind cX1_levelBehind 4 (some .int)]
def wsL_levelBySeconds : List Cond := .codeWith yL_levelBySeconds cL_levelBySeconds 5 (some .int) [(0, 10, 13, 21), (0, 10, 17, 13)] :: ((wsL_levelBySeconds_r1 ++ wsL_levelBySeconds_r2) ++ wsX50 ++ wsX10 ++ (vx_atS RX5 216 "java/lang/IndexOutOfBoundsException" ["java/lang/RuntimeException", "java/lang/Exception"]).filter goodWord ++ (vx_atS RX5 223 "java/lang/IllegalArgumentException" ["java/lang/RuntimeException", "java/lang/Exception"]).filter goodWord)
def wsL_addLamp_r1 : List Cond := [Cond.classLink RL 21 "java/lang/IndexOutOfBoundsException", Cond.classLink RL 13 "java/lang/IllegalArgumentException", Cond.classLink RL 15 "java/lang/IllegalStateException", Cond.methodLink RL 62 yX5_addLamp, Cond.instanceMethod yX5_addLamp, Cond.selects RX5 yX5_addLamp yX5_addLamp, Cond.initialized RX5, Cond.code yX5_addLamp cX5_addLamp 5 (some .int), Cond.fieldLink RX5 33 "CueTour" "rig" "LCueTour$Rig;", Cond.methodLink RX5 72 yX5_checkNumber, Cond.static yX5_checkNumber, Cond.code yX5_checkNumber cX5_checkNumber 2 none, Cond.classLink RX5 212 "java/lang/IndexOutOfBoundsException", Cond.initialized "java/lang/IndexOutOfBoundsException", Cond.methodLink RX5 56 yX5_checkRange, Cond.static yX5_checkRange, Cond.code yX5_checkRange cX5_checkRange 3 none, Cond.classLink RX5 219 "java/lang/IllegalArgumentException", Cond.initialized "java/lang/IllegalArgumentException", Cond.methodLink RX5 64 yX5_checkRoom, Cond.static yX5_checkRoom, Cond.code yX5_checkRoom cX5_checkRoom 2 none, Cond.classLink RX5 224 "java/lang/IllegalStateException", Cond.initialized "java/lang/IllegalStateException"]
def wsL_addLamp_r2 : List Cond := [Cond.methodLink RX5 132 yX3_append, Cond.instanceMethod yX3_append, Cond.selects RX3 yX3_append yX3_append, Cond.initialized RX3, Cond.code yX3_append cX3_append 6 (some .int), Cond.fieldLink RX3 36 "CueTour$Rig" "count" "I", Cond.fieldLink RX3 9 "CueTour$Rig" "homes" "[I", Cond.fieldLink RX3 15 "CueTour$Rig" "homeAreas" "[I", Cond.fieldLink RX3 18 "CueTour$Rig" "colours" "[I", Cond.fieldLink RX3 21 "CueTour$Rig" "powers" "[I", Cond.methodLink RX3 40 yX3_putHome, Cond.instanceMethod yX3_putHome, Cond.selects RX3 yX3_putHome yX3_putHome, Cond.code yX3_putHome cX3_putHome 2 none, Cond.methodLink RX3 48 yX3_put, Cond.instanceMethod yX3_put, Cond.selects RX3 yX3_put yX3_put, Cond.code yX3_put cX3_put 4 none, Cond.fieldLink RX3 24 "CueTour$Rig" "stages" "[I", Cond.fieldLink RX3 27 "CueTour$Rig" "areas" "[I"]
def wsL_addLamp : List Cond := .codeWith yL_addLamp cL_addLamp 7 (some .int) [(0, 14, 17, 21), (0, 14, 21, 13), (0, 14, 25, 15)] :: ((wsL_addLamp_r1 ++ wsL_addLamp_r2) ++ wsX50 ++ wsX30 ++ (vx_atS RX5 216 "java/lang/IndexOutOfBoundsException" ["java/lang/RuntimeException", "java/lang/Exception"]).filter goodWord ++ (vx_atS RX5 223 "java/lang/IllegalArgumentException" ["java/lang/RuntimeException", "java/lang/Exception"]).filter goodWord ++ (vx_atS RX5 228 "java/lang/IllegalStateException" ["java/lang/RuntimeException", "java/lang/Exception"]).filter goodWord)
def wsL_borrow_r1 : List Cond := [Cond.classLink RL 21 "java/lang/IndexOutOfBoundsException", Cond.classLink RL 15 "java/lang/IllegalStateException", Cond.methodLink RL 65 yX5_borrow, Cond.instanceMethod yX5_borrow, Cond.selects RX5 yX5_borrow yX5_borrow, Cond.initialized RX5, Cond.code yX5_borrow cX5_borrow 4 (some .int), Cond.fieldLink RX5 33 "CueTour" "rig" "LCueTour$Rig;", Cond.methodLink RX5 72 yX5_checkNumber, Cond.static yX5_checkNumber, Cond.code yX5_checkNumber cX5_checkNumber 2 none, Cond.classLink RX5 212 "java/lang/IndexOutOfBoundsException", Cond.initialized "java/lang/IndexOutOfBoundsException", Cond.methodLink RX5 135 yX3_canGo, Cond.instanceMethod yX3_canGo, Cond.selects RX3 yX3_canGo yX3_canGo, Cond.initialized RX3, Cond.code yX3_canGo cX3_canGo 3 (some .boolean), Cond.fieldLink RX3 9 "CueTour$Rig" "homes" "[I", Cond.methodLink RX3 44 yX3_isHome, Cond.instanceMethod yX3_isHome, Cond.selects RX3 yX3_isHome yX3_isHome, Cond.code yX3_isHome cX3_isHome 2 (some .boolean), Cond.fieldLink RX3 24 "CueTour$Rig" "stages" "[I"]
def wsL_borrow_r2 : List Cond := [Cond.methodLink RX5 139 yX5_checkState, Cond.static yX5_checkState, Cond.code yX5_checkState cX5_checkState 1 none, Cond.classLink RX5 224 "java/lang/IllegalStateException", Cond.initialized "java/lang/IllegalStateException", Cond.methodLink RX5 143 yX3_put, Cond.instanceMethod yX3_put, Cond.selects RX3 yX3_put yX3_put, Cond.code yX3_put cX3_put 4 none, Cond.fieldLink RX3 27 "CueTour$Rig" "areas" "[I"]
def wsL_borrow : List Cond := .codeWith yL_borrow cL_borrow 6 (some .int) [(0, 12, 15, 21), (0, 12, 19, 15)] :: ((wsL_borrow_r1 ++ wsL_borrow_r2) ++ wsX50 ++ wsX30 ++ (vx_atS RX5 216 "java/lang/IndexOutOfBoundsException" ["java/lang/RuntimeException", "java/lang/Exception"]).filter goodWord ++ (vx_atS RX5 228 "java/lang/IllegalStateException" ["java/lang/RuntimeException", "java/lang/Exception"]).filter goodWord)
def wsL_bringBack_r1 : List Cond := [Cond.classLink RL 21 "java/lang/IndexOutOfBoundsException", Cond.classLink RL 15 "java/lang/IllegalStateException", Cond.methodLink RL 68 yX5_bringBack, Cond.instanceMethod yX5_bringBack, Cond.selects RX5 yX5_bringBack yX5_bringBack, Cond.initialized RX5, Cond.code yX5_bringBack cX5_bringBack 3 (some .int), Cond.fieldLink RX5 33 "CueTour" "rig" "LCueTour$Rig;", Cond.methodLink RX5 72 yX5_checkNumber, Cond.static yX5_checkNumber, Cond.code yX5_checkNumber cX5_checkNumber 2 none, Cond.classLink RX5 212 "java/lang/IndexOutOfBoundsException", Cond.initialized "java/lang/IndexOutOfBoundsException", Cond.methodLink RX5 149 yX3_isHome, Cond.instanceMethod yX3_isHome, Cond.selects RX3 yX3_isHome yX3_isHome, Cond.initialized RX3, Cond.code yX3_isHome cX3_isHome 2 (some .boolean), Cond.fieldLink RX3 24 "CueTour$Rig" "stages" "[I", Cond.fieldLink RX3 9 "CueTour$Rig" "homes" "[I", Cond.methodLink RX5 139 yX5_checkState, Cond.static yX5_checkState, Cond.code yX5_checkState cX5_checkState 1 none, Cond.classLink RX5 224 "java/lang/IllegalStateException"]
def wsL_bringBack_r2 : List Cond := [Cond.initialized "java/lang/IllegalStateException", Cond.methodLink RX5 156 yX3_putHome, Cond.instanceMethod yX3_putHome, Cond.selects RX3 yX3_putHome yX3_putHome, Cond.code yX3_putHome cX3_putHome 2 none, Cond.fieldLink RX3 15 "CueTour$Rig" "homeAreas" "[I", Cond.methodLink RX3 48 yX3_put, Cond.instanceMethod yX3_put, Cond.selects RX3 yX3_put yX3_put, Cond.code yX3_put cX3_put 4 none, Cond.fieldLink RX3 27 "CueTour$Rig" "areas" "[I"]
def wsL_bringBack : List Cond := .codeWith yL_bringBack cL_bringBack 4 (some .int) [(0, 9, 12, 21), (0, 9, 15, 15)] :: ((wsL_bringBack_r1 ++ wsL_bringBack_r2) ++ wsX50 ++ wsX30 ++ (vx_atS RX5 216 "java/lang/IndexOutOfBoundsException" ["java/lang/RuntimeException", "java/lang/Exception"]).filter goodWord ++ (vx_atS RX5 228 "java/lang/IllegalStateException" ["java/lang/RuntimeException", "java/lang/Exception"]).filter goodWord)
def wsL_replace : List Cond := .codeWith yL_replace cL_replace 4 (some .int) [(0, 9, 12, 21)] :: ([.classLink RL 21 "java/lang/IndexOutOfBoundsException", .methodLink RL 71 yX5_replace, .instanceMethod yX5_replace, .selects RX5 yX5_replace yX5_replace, .initialized RX5, .code yX5_replace cX5_replace 3 (some .int), .fieldLink RX5 33 "CueTour" "rig" "LCueTour$Rig;", .methodLink RX5 72 yX5_checkNumber, .static yX5_checkNumber, .code yX5_checkNumber cX5_checkNumber 2 none, .classLink RX5 212 "java/lang/IndexOutOfBoundsException", .initialized "java/lang/IndexOutOfBoundsException"] ++ wsX50 ++ wsX30 ++ (vx_atS RX5 216 "java/lang/IndexOutOfBoundsException" ["java/lang/RuntimeException", "java/lang/Exception"]).filter goodWord)
def wsL_whereIs : List Cond := .codeWith yL_whereIs cL_whereIs 4 (some .int) [(0, 9, 12, 21)] :: ([.classLink RL 21 "java/lang/IndexOutOfBoundsException", .methodLink RL 74 yX5_whereIs, .instanceMethod yX5_whereIs, .selects RX5 yX5_whereIs yX5_whereIs, .initialized RX5, .code yX5_whereIs cX5_whereIs 2 (some .int), .fieldLink RX5 33 "CueTour" "rig" "LCueTour$Rig;", .methodLink RX5 72 yX5_checkNumber, .static yX5_checkNumber, .code yX5_checkNumber cX5_checkNumber 2 none, .classLink RX5 212 "java/lang/IndexOutOfBoundsException", .initialized "java/lang/IndexOutOfBoundsException"] ++ wsX50 ++ wsX30 ++ (vx_atS RX5 216 "java/lang/IndexOutOfBoundsException" ["java/lang/RuntimeException", "java/lang/Exception"]).filter goodWord)
def wsL_wear : List Cond := .codeWith yL_wear cL_wear 4 (some .int) [(0, 9, 12, 21)] :: ([.classLink RL 21 "java/lang/IndexOutOfBoundsException", .methodLink RL 77 yX5_wear, .instanceMethod yX5_wear, .selects RX5 yX5_wear yX5_wear, .initialized RX5, .code yX5_wear cX5_wear 2 (some .int), .fieldLink RX5 33 "CueTour" "rig" "LCueTour$Rig;", .methodLink RX5 72 yX5_checkNumber, .static yX5_checkNumber, .code yX5_checkNumber cX5_checkNumber 2 none, .classLink RX5 212 "java/lang/IndexOutOfBoundsException", .initialized "java/lang/IndexOutOfBoundsException"] ++ wsX50 ++ wsX30 ++ (vx_atS RX5 216 "java/lang/IndexOutOfBoundsException" ["java/lang/RuntimeException", "java/lang/Exception"]).filter goodWord)
def wsL_laidOn_r1 : List Cond := [Cond.classLink RL 21 "java/lang/IndexOutOfBoundsException", Cond.methodLink RL 80 yX5_laidOn, Cond.instanceMethod yX5_laidOn, Cond.selects RX5 yX5_laidOn yX5_laidOn, Cond.initialized RX5, Cond.code yX5_laidOn cX5_laidOn 3 (some .int), Cond.fieldLink RX5 33 "CueTour" "rig" "LCueTour$Rig;", Cond.fieldLink RX5 19 "CueTour" "patch" "LCueTour$Patch;", Cond.methodLink RX5 72 yX5_checkNumber, Cond.static yX5_checkNumber, Cond.code yX5_checkNumber cX5_checkNumber 2 none, Cond.classLink RX5 212 "java/lang/IndexOutOfBoundsException", Cond.initialized "java/lang/IndexOutOfBoundsException", Cond.methodLink RX5 163 yX3_lampsFor, Cond.instanceMethod yX3_lampsFor, Cond.selects RX3 yX3_lampsFor yX3_lampsFor, Cond.initialized RX3, Cond.code yX3_lampsFor cX3_lampsFor 7 (some .int), Cond.fieldLink RX3 36 "CueTour$Rig" "count" "I", Cond.fieldLink RX3 18 "CueTour$Rig" "colours" "[I", Cond.methodLink RX3 52 yX3_isFor, Cond.instanceMethod yX3_isFor, Cond.selects RX3 yX3_isFor yX3_isFor, Cond.code yX3_isFor cX3_isFor 4 (some .boolean)]
def wsL_laidOn_r2 : List Cond := [Cond.fieldLink RX3 24 "CueTour$Rig" "stages" "[I", Cond.fieldLink RX3 27 "CueTour$Rig" "areas" "[I"]
def wsL_laidOn : List Cond := .codeWith yL_laidOn cL_laidOn 5 (some .int) [(0, 10, 13, 21)] :: ((wsL_laidOn_r1 ++ wsL_laidOn_r2) ++ wsX50 ++ wsX20 ++ wsX30 ++ (vx_atS RX5 216 "java/lang/IndexOutOfBoundsException" ["java/lang/RuntimeException", "java/lang/Exception"]).filter goodWord)
def wsL_lampLevel_r1 : List Cond := [Cond.classLink RL 21 "java/lang/IndexOutOfBoundsException", Cond.classLink RL 13 "java/lang/IllegalArgumentException", Cond.methodLink RL 83 yX5_lampLevel, Cond.instanceMethod yX5_lampLevel, Cond.selects RX5 yX5_lampLevel yX5_lampLevel, Cond.initialized RX5, Cond.code yX5_lampLevel cX5_lampLevel 3 (some .int), Cond.fieldLink RX5 33 "CueTour" "rig" "LCueTour$Rig;", Cond.fieldLink RX5 19 "CueTour" "patch" "LCueTour$Patch;", Cond.fieldLink RX5 48 "CueTour" "laid" "[I", Cond.fieldLink RX5 26 "CueTour" "cueList" "LCueTour$CueList;", Cond.fieldLink RX5 44 "CueTour" "levels" "[I", Cond.methodLink RX5 72 yX5_checkNumber, Cond.static yX5_checkNumber, Cond.code yX5_checkNumber cX5_checkNumber 2 none, Cond.classLink RX5 212 "java/lang/IndexOutOfBoundsException", Cond.initialized "java/lang/IndexOutOfBoundsException", Cond.methodLink RX5 56 yX5_checkRange, Cond.static yX5_checkRange, Cond.code yX5_checkRange cX5_checkRange 3 none, Cond.classLink RX5 219 "java/lang/IllegalArgumentException", Cond.initialized "java/lang/IllegalArgumentException", Cond.methodLink RX5 167 yX3_lay, Cond.instanceMethod yX3_lay]
def wsL_lampLevel_r2 : List Cond := [Cond.selects RX3 yX3_lay yX3_lay, Cond.initialized RX3, Cond.code yX3_lay cX3_lay 5 none, Cond.methodLink RX3 60 yX3_lampsFor, Cond.instanceMethod yX3_lampsFor, Cond.selects RX3 yX3_lampsFor yX3_lampsFor, Cond.code yX3_lampsFor cX3_lampsFor 7 (some .int), Cond.fieldLink RX3 36 "CueTour$Rig" "count" "I", Cond.fieldLink RX3 18 "CueTour$Rig" "colours" "[I", Cond.methodLink RX3 52 yX3_isFor, Cond.instanceMethod yX3_isFor, Cond.selects RX3 yX3_isFor yX3_isFor, Cond.code yX3_isFor cX3_isFor 4 (some .boolean), Cond.fieldLink RX3 24 "CueTour$Rig" "stages" "[I", Cond.fieldLink RX3 27 "CueTour$Rig" "areas" "[I", Cond.methodLink RX5 171 yX1_fillLevels, Cond.instanceMethod yX1_fillLevels, Cond.selects RX1 yX1_fillLevels yX1_fillLevels, Cond.initialized RX1, Cond.code yX1_fillLevels cX1_fillLevels 4 none, Cond.methodLink RX1 90 yX1_levelByFades, Cond.instanceMethod yX1_levelByFades, Cond.selects RX1 yX1_levelByFades yX1_levelByFades, Cond.code yX1_levelByFades cX1_levelByFades 9 (some .int)]
def wsL_lampLevel_r3 : List Cond := [Cond.fieldLink RX1 45 "CueTour$CueList" "playCount" "I", Cond.fieldLink RX1 33 "CueTour$CueList" "times" "[I", Cond.fieldLink RX1 42 "CueTour$CueList" "plays" "[I", Cond.fieldLink RX1 39 "CueTour$CueList" "made" "[[I", Cond.fieldLink RX1 18 "CueTour$CueList" "fades" "[I", Cond.methodLink RX1 86 yX1_levelBehind, Cond.static yX1_levelBehind, Cond.code yX1_levelBehind cX1_levelBehind 4 (some .int), Cond.methodLink RX5 175 yX3_levelOf, Cond.instanceMethod yX3_levelOf, Cond.selects RX3 yX3_levelOf yX3_levelOf, Cond.code yX3_levelOf cX3_levelOf 6 (some .int), Cond.fieldLink RX3 30 "CueTour$Rig" "wears" "[I"]
def wsL_lampLevel : List Cond := .codeWith yL_lampLevel cL_lampLevel 5 (some .int) [(0, 10, 13, 21), (0, 10, 17, 13)] :: ((wsL_lampLevel_r1 ++ (wsL_lampLevel_r2 ++ wsL_lampLevel_r3)) ++ wsX50 ++ wsX30 ++ wsX20 ++ wsX10 ++ (vx_atS RX5 216 "java/lang/IndexOutOfBoundsException" ["java/lang/RuntimeException", "java/lang/Exception"]).filter goodWord ++ (vx_atS RX5 223 "java/lang/IllegalArgumentException" ["java/lang/RuntimeException", "java/lang/Exception"]).filter goodWord)
def wsL_light_r1 : List Cond := [Cond.classLink RL 21 "java/lang/IndexOutOfBoundsException", Cond.classLink RL 13 "java/lang/IllegalArgumentException", Cond.methodLink RL 86 yX5_light, Cond.instanceMethod yX5_light, Cond.selects RX5 yX5_light yX5_light, Cond.initialized RX5, Cond.code yX5_light cX5_light 4 (some .int), Cond.fieldLink RX5 33 "CueTour" "rig" "LCueTour$Rig;", Cond.fieldLink RX5 19 "CueTour" "patch" "LCueTour$Patch;", Cond.fieldLink RX5 48 "CueTour" "laid" "[I", Cond.fieldLink RX5 26 "CueTour" "cueList" "LCueTour$CueList;", Cond.fieldLink RX5 44 "CueTour" "levels" "[I", Cond.methodLink RX5 72 yX5_checkNumber, Cond.static yX5_checkNumber, Cond.code yX5_checkNumber cX5_checkNumber 2 none, Cond.classLink RX5 212 "java/lang/IndexOutOfBoundsException", Cond.initialized "java/lang/IndexOutOfBoundsException", Cond.methodLink RX5 56 yX5_checkRange, Cond.static yX5_checkRange, Cond.code yX5_checkRange cX5_checkRange 3 none, Cond.classLink RX5 219 "java/lang/IllegalArgumentException", Cond.initialized "java/lang/IllegalArgumentException", Cond.methodLink RX5 167 yX3_lay, Cond.instanceMethod yX3_lay]
def wsL_light_r2 : List Cond := [Cond.selects RX3 yX3_lay yX3_lay, Cond.initialized RX3, Cond.code yX3_lay cX3_lay 5 none, Cond.methodLink RX3 60 yX3_lampsFor, Cond.instanceMethod yX3_lampsFor, Cond.selects RX3 yX3_lampsFor yX3_lampsFor, Cond.code yX3_lampsFor cX3_lampsFor 7 (some .int), Cond.fieldLink RX3 36 "CueTour$Rig" "count" "I", Cond.fieldLink RX3 18 "CueTour$Rig" "colours" "[I", Cond.methodLink RX3 52 yX3_isFor, Cond.instanceMethod yX3_isFor, Cond.selects RX3 yX3_isFor yX3_isFor, Cond.code yX3_isFor cX3_isFor 4 (some .boolean), Cond.fieldLink RX3 24 "CueTour$Rig" "stages" "[I", Cond.fieldLink RX3 27 "CueTour$Rig" "areas" "[I", Cond.methodLink RX5 171 yX1_fillLevels, Cond.instanceMethod yX1_fillLevels, Cond.selects RX1 yX1_fillLevels yX1_fillLevels, Cond.initialized RX1, Cond.code yX1_fillLevels cX1_fillLevels 4 none, Cond.methodLink RX1 90 yX1_levelByFades, Cond.instanceMethod yX1_levelByFades, Cond.selects RX1 yX1_levelByFades yX1_levelByFades, Cond.code yX1_levelByFades cX1_levelByFades 9 (some .int)]
def wsL_light_r3 : List Cond := [Cond.fieldLink RX1 45 "CueTour$CueList" "playCount" "I", Cond.fieldLink RX1 33 "CueTour$CueList" "times" "[I", Cond.fieldLink RX1 42 "CueTour$CueList" "plays" "[I", Cond.fieldLink RX1 39 "CueTour$CueList" "made" "[[I", Cond.fieldLink RX1 18 "CueTour$CueList" "fades" "[I", Cond.methodLink RX1 86 yX1_levelBehind, Cond.static yX1_levelBehind, Cond.code yX1_levelBehind cX1_levelBehind 4 (some .int), Cond.methodLink RX5 179 yX3_lightOf, Cond.instanceMethod yX3_lightOf, Cond.selects RX3 yX3_lightOf yX3_lightOf, Cond.code yX3_lightOf cX3_lightOf 7 (some .int), Cond.fieldLink RX3 21 "CueTour$Rig" "powers" "[I", Cond.methodLink RX3 64 yX3_levelOf, Cond.instanceMethod yX3_levelOf, Cond.selects RX3 yX3_levelOf yX3_levelOf, Cond.code yX3_levelOf cX3_levelOf 6 (some .int), Cond.fieldLink RX3 30 "CueTour$Rig" "wears" "[I"]
def wsL_light : List Cond := .codeWith yL_light cL_light 6 (some .int) [(0, 12, 15, 21), (0, 12, 19, 13)] :: ((wsL_light_r1 ++ (wsL_light_r2 ++ wsL_light_r3)) ++ wsX50 ++ wsX20 ++ wsX30 ++ wsX10 ++ (vx_atS RX5 216 "java/lang/IndexOutOfBoundsException" ["java/lang/RuntimeException", "java/lang/Exception"]).filter goodWord ++ (vx_atS RX5 223 "java/lang/IllegalArgumentException" ["java/lang/RuntimeException", "java/lang/Exception"]).filter goodWord)
def wsL_shortOf_r1 : List Cond := [Cond.classLink RL 21 "java/lang/IndexOutOfBoundsException", Cond.methodLink RL 89 yX5_shortOf, Cond.instanceMethod yX5_shortOf, Cond.selects RX5 yX5_shortOf yX5_shortOf, Cond.initialized RX5, Cond.code yX5_shortOf cX5_shortOf 3 (some .int), Cond.fieldLink RX5 10 "CueTour" "script" "LCueTour$Script;", Cond.fieldLink RX5 33 "CueTour" "rig" "LCueTour$Rig;", Cond.fieldLink RX5 19 "CueTour" "patch" "LCueTour$Patch;", Cond.fieldLink RX5 48 "CueTour" "laid" "[I", Cond.methodLink RX5 72 yX5_checkNumber, Cond.static yX5_checkNumber, Cond.code yX5_checkNumber cX5_checkNumber 2 none, Cond.classLink RX5 212 "java/lang/IndexOutOfBoundsException", Cond.initialized "java/lang/IndexOutOfBoundsException", Cond.methodLink RX5 167 yX3_lay, Cond.instanceMethod yX3_lay, Cond.selects RX3 yX3_lay yX3_lay, Cond.initialized RX3, Cond.code yX3_lay cX3_lay 5 none, Cond.methodLink RX3 60 yX3_lampsFor, Cond.instanceMethod yX3_lampsFor, Cond.selects RX3 yX3_lampsFor yX3_lampsFor, Cond.code yX3_lampsFor cX3_lampsFor 7 (some .int)]
def wsL_shortOf_r2 : List Cond := [Cond.fieldLink RX3 36 "CueTour$Rig" "count" "I", Cond.fieldLink RX3 18 "CueTour$Rig" "colours" "[I", Cond.methodLink RX3 52 yX3_isFor, Cond.instanceMethod yX3_isFor, Cond.selects RX3 yX3_isFor yX3_isFor, Cond.code yX3_isFor cX3_isFor 4 (some .boolean), Cond.fieldLink RX3 24 "CueTour$Rig" "stages" "[I", Cond.fieldLink RX3 27 "CueTour$Rig" "areas" "[I", Cond.methodLink RX5 183 yX5_readEndOf, Cond.instanceMethod yX5_readEndOf, Cond.selects RX5 yX5_readEndOf yX5_readEndOf, Cond.code yX5_readEndOf cX5_readEndOf 2 none, Cond.fieldLink RX5 26 "CueTour" "cueList" "LCueTour$CueList;", Cond.fieldLink RX5 53 "CueTour" "endLevels" "[[I", Cond.methodLink RX5 231 yX4_lastSecondOf, Cond.instanceMethod yX4_lastSecondOf, Cond.selects RX4 yX4_lastSecondOf yX4_lastSecondOf, Cond.initialized RX4, Cond.code yX4_lastSecondOf cX4_lastSecondOf 2 (some .int), Cond.fieldLink RX4 9 "CueTour$Script" "seconds" "[I", Cond.methodLink RX4 28 yX4_secondsAhead, Cond.instanceMethod yX4_secondsAhead, Cond.selects RX4 yX4_secondsAhead yX4_secondsAhead, Cond.code yX4_secondsAhead cX4_secondsAhead 4 (some .int)]
def wsL_shortOf_r3 : List Cond := [Cond.fieldLink RX4 15 "CueTour$Script" "isOut" "[Z", Cond.methodLink RX5 171 yX1_fillLevels, Cond.instanceMethod yX1_fillLevels, Cond.selects RX1 yX1_fillLevels yX1_fillLevels, Cond.initialized RX1, Cond.code yX1_fillLevels cX1_fillLevels 4 none, Cond.methodLink RX1 90 yX1_levelByFades, Cond.instanceMethod yX1_levelByFades, Cond.selects RX1 yX1_levelByFades yX1_levelByFades, Cond.code yX1_levelByFades cX1_levelByFades 9 (some .int), Cond.fieldLink RX1 45 "CueTour$CueList" "playCount" "I", Cond.fieldLink RX1 33 "CueTour$CueList" "times" "[I", Cond.fieldLink RX1 42 "CueTour$CueList" "plays" "[I", Cond.fieldLink RX1 39 "CueTour$CueList" "made" "[[I", Cond.fieldLink RX1 18 "CueTour$CueList" "fades" "[I", Cond.methodLink RX1 86 yX1_levelBehind, Cond.static yX1_levelBehind, Cond.code yX1_levelBehind cX1_levelBehind 4 (some .int), Cond.methodLink RX5 186 yX5_shortAreas, Cond.instanceMethod yX5_shortAreas, Cond.selects RX5 yX5_shortAreas yX5_shortAreas, Cond.code yX5_shortAreas cX5_shortAreas 5 (some .int), Cond.methodLink RX5 179 yX3_lightOf, Cond.instanceMethod yX3_lightOf]
def wsL_shortOf_r4 : List Cond := [Cond.selects RX3 yX3_lightOf yX3_lightOf, Cond.code yX3_lightOf cX3_lightOf 7 (some .int), Cond.fieldLink RX3 21 "CueTour$Rig" "powers" "[I", Cond.methodLink RX3 64 yX3_levelOf, Cond.instanceMethod yX3_levelOf, Cond.selects RX3 yX3_levelOf yX3_levelOf, Cond.code yX3_levelOf cX3_levelOf 6 (some .int), Cond.fieldLink RX3 30 "CueTour$Rig" "wears" "[I"]
def wsL_shortOf : List Cond := .codeWith yL_shortOf cL_shortOf 5 (some .int) [(0, 10, 13, 21)] :: ((wsL_shortOf_r1 ++ (wsL_shortOf_r2 ++ (wsL_shortOf_r3 ++ wsL_shortOf_r4))) ++ wsX50 ++ wsX40 ++ wsX20 ++ wsX30 ++ wsX10 ++ (vx_atS RX5 216 "java/lang/IndexOutOfBoundsException" ["java/lang/RuntimeException", "java/lang/Exception"]).filter goodWord)
def wsL_bestToBorrow_r1 : List Cond := [Cond.classLink RL 21 "java/lang/IndexOutOfBoundsException", Cond.methodLink RL 92 yX5_bestToBorrow, Cond.instanceMethod yX5_bestToBorrow, Cond.selects RX5 yX5_bestToBorrow yX5_bestToBorrow, Cond.initialized RX5, Cond.code yX5_bestToBorrow cX5_bestToBorrow 7 (some .int), Cond.fieldLink RX5 33 "CueTour" "rig" "LCueTour$Rig;", Cond.methodLink RX5 72 yX5_checkNumber, Cond.static yX5_checkNumber, Cond.code yX5_checkNumber cX5_checkNumber 2 none, Cond.classLink RX5 212 "java/lang/IndexOutOfBoundsException", Cond.initialized "java/lang/IndexOutOfBoundsException", Cond.methodLink RX5 189 yX5_readEnds, Cond.instanceMethod yX5_readEnds, Cond.selects RX5 yX5_readEnds yX5_readEnds, Cond.code yX5_readEnds cX5_readEnds 2 none, Cond.fieldLink RX5 10 "CueTour" "script" "LCueTour$Script;", Cond.methodLink RX5 183 yX5_readEndOf, Cond.instanceMethod yX5_readEndOf, Cond.selects RX5 yX5_readEndOf yX5_readEndOf, Cond.code yX5_readEndOf cX5_readEndOf 2 none, Cond.fieldLink RX5 26 "CueTour" "cueList" "LCueTour$CueList;", Cond.fieldLink RX5 53 "CueTour" "endLevels" "[[I", Cond.methodLink RX5 231 yX4_lastSecondOf]
def wsL_bestToBorrow_r2 : List Cond := [Cond.instanceMethod yX4_lastSecondOf, Cond.selects RX4 yX4_lastSecondOf yX4_lastSecondOf, Cond.initialized RX4, Cond.code yX4_lastSecondOf cX4_lastSecondOf 2 (some .int), Cond.fieldLink RX4 9 "CueTour$Script" "seconds" "[I", Cond.methodLink RX4 28 yX4_secondsAhead, Cond.instanceMethod yX4_secondsAhead, Cond.selects RX4 yX4_secondsAhead yX4_secondsAhead, Cond.code yX4_secondsAhead cX4_secondsAhead 4 (some .int), Cond.fieldLink RX4 15 "CueTour$Script" "isOut" "[Z", Cond.methodLink RX5 171 yX1_fillLevels, Cond.instanceMethod yX1_fillLevels, Cond.selects RX1 yX1_fillLevels yX1_fillLevels, Cond.initialized RX1, Cond.code yX1_fillLevels cX1_fillLevels 4 none, Cond.methodLink RX1 90 yX1_levelByFades, Cond.instanceMethod yX1_levelByFades, Cond.selects RX1 yX1_levelByFades yX1_levelByFades, Cond.code yX1_levelByFades cX1_levelByFades 9 (some .int), Cond.fieldLink RX1 45 "CueTour$CueList" "playCount" "I", Cond.fieldLink RX1 33 "CueTour$CueList" "times" "[I", Cond.fieldLink RX1 42 "CueTour$CueList" "plays" "[I", Cond.fieldLink RX1 39 "CueTour$CueList" "made" "[[I", Cond.fieldLink RX1 18 "CueTour$CueList" "fades" "[I"]
def wsL_bestToBorrow_r3 : List Cond := [Cond.methodLink RX1 86 yX1_levelBehind, Cond.static yX1_levelBehind, Cond.code yX1_levelBehind cX1_levelBehind 4 (some .int), Cond.methodLink RX5 192 yX5_countShort, Cond.instanceMethod yX5_countShort, Cond.selects RX5 yX5_countShort yX5_countShort, Cond.code yX5_countShort cX5_countShort 4 (some .int), Cond.fieldLink RX5 19 "CueTour" "patch" "LCueTour$Patch;", Cond.fieldLink RX5 48 "CueTour" "laid" "[I", Cond.methodLink RX5 167 yX3_lay, Cond.instanceMethod yX3_lay, Cond.selects RX3 yX3_lay yX3_lay, Cond.initialized RX3, Cond.code yX3_lay cX3_lay 5 none, Cond.methodLink RX3 60 yX3_lampsFor, Cond.instanceMethod yX3_lampsFor, Cond.selects RX3 yX3_lampsFor yX3_lampsFor, Cond.code yX3_lampsFor cX3_lampsFor 7 (some .int), Cond.fieldLink RX3 36 "CueTour$Rig" "count" "I", Cond.fieldLink RX3 18 "CueTour$Rig" "colours" "[I", Cond.methodLink RX3 52 yX3_isFor, Cond.instanceMethod yX3_isFor, Cond.selects RX3 yX3_isFor yX3_isFor, Cond.code yX3_isFor cX3_isFor 4 (some .boolean)]
def wsL_bestToBorrow_r4 : List Cond := [Cond.fieldLink RX3 24 "CueTour$Rig" "stages" "[I", Cond.fieldLink RX3 27 "CueTour$Rig" "areas" "[I", Cond.methodLink RX5 186 yX5_shortAreas, Cond.instanceMethod yX5_shortAreas, Cond.selects RX5 yX5_shortAreas yX5_shortAreas, Cond.code yX5_shortAreas cX5_shortAreas 5 (some .int), Cond.methodLink RX5 179 yX3_lightOf, Cond.instanceMethod yX3_lightOf, Cond.selects RX3 yX3_lightOf yX3_lightOf, Cond.code yX3_lightOf cX3_lightOf 7 (some .int), Cond.fieldLink RX3 21 "CueTour$Rig" "powers" "[I", Cond.methodLink RX3 64 yX3_levelOf, Cond.instanceMethod yX3_levelOf, Cond.selects RX3 yX3_levelOf yX3_levelOf, Cond.code yX3_levelOf cX3_levelOf 6 (some .int), Cond.fieldLink RX3 30 "CueTour$Rig" "wears" "[I", Cond.methodLink RX5 135 yX3_canGo, Cond.instanceMethod yX3_canGo, Cond.selects RX3 yX3_canGo yX3_canGo, Cond.code yX3_canGo cX3_canGo 3 (some .boolean), Cond.fieldLink RX3 9 "CueTour$Rig" "homes" "[I", Cond.methodLink RX3 44 yX3_isHome, Cond.instanceMethod yX3_isHome, Cond.selects RX3 yX3_isHome yX3_isHome]
def wsL_bestToBorrow_r5 : List Cond := [Cond.code yX3_isHome cX3_isHome 2 (some .boolean), Cond.methodLink RX5 195 yX5_countShortWith, Cond.instanceMethod yX5_countShortWith, Cond.selects RX5 yX5_countShortWith yX5_countShortWith, Cond.code yX5_countShortWith cX5_countShortWith 5 (some .int), Cond.methodLink RX5 143 yX3_put, Cond.instanceMethod yX3_put, Cond.selects RX3 yX3_put yX3_put, Cond.code yX3_put cX3_put 4 none, Cond.methodLink RX5 156 yX3_putHome, Cond.instanceMethod yX3_putHome, Cond.selects RX3 yX3_putHome yX3_putHome, Cond.code yX3_putHome cX3_putHome 2 none, Cond.fieldLink RX3 15 "CueTour$Rig" "homeAreas" "[I", Cond.methodLink RX3 48 yX3_put]
def wsL_bestToBorrow : List Cond := .codeWith yL_bestToBorrow cL_bestToBorrow 5 (some .int) [(0, 10, 13, 21)] :: ((wsL_bestToBorrow_r1 ++ (wsL_bestToBorrow_r2 ++ (wsL_bestToBorrow_r3 ++ (wsL_bestToBorrow_r4 ++ wsL_bestToBorrow_r5)))) ++ wsX50 ++ wsX30 ++ wsX40 ++ wsX10 ++ wsX20 ++ (vx_atS RX5 216 "java/lang/IndexOutOfBoundsException" ["java/lang/RuntimeException", "java/lang/Exception"]).filter goodWord)
def wsL_perform_r1 : List Cond := [Cond.classLink RL 21 "java/lang/IndexOutOfBoundsException", Cond.classLink RL 15 "java/lang/IllegalStateException", Cond.methodLink RL 95 yX5_perform, Cond.instanceMethod yX5_perform, Cond.selects RX5 yX5_perform yX5_perform, Cond.initialized RX5, Cond.code yX5_perform cX5_perform 3 (some .int), Cond.fieldLink RX5 10 "CueTour" "script" "LCueTour$Script;", Cond.fieldLink RX5 40 "CueTour" "book" "LCueTour$Book;", Cond.methodLink RX5 72 yX5_checkNumber, Cond.static yX5_checkNumber, Cond.code yX5_checkNumber cX5_checkNumber 2 none, Cond.classLink RX5 212 "java/lang/IndexOutOfBoundsException", Cond.initialized "java/lang/IndexOutOfBoundsException", Cond.methodLink RX5 86 yX4_total, Cond.instanceMethod yX4_total, Cond.selects RX4 yX4_total yX4_total, Cond.initialized RX4, Cond.code yX4_total cX4_total 1 (some .int), Cond.fieldLink RX4 24 "CueTour$Script" "count" "I", Cond.methodLink RX4 28 yX4_secondsAhead, Cond.instanceMethod yX4_secondsAhead, Cond.selects RX4 yX4_secondsAhead yX4_secondsAhead, Cond.code yX4_secondsAhead cX4_secondsAhead 4 (some .int)]
def wsL_perform_r2 : List Cond := [Cond.fieldLink RX4 15 "CueTour$Script" "isOut" "[Z", Cond.fieldLink RX4 9 "CueTour$Script" "seconds" "[I", Cond.methodLink RX5 139 yX5_checkState, Cond.static yX5_checkState, Cond.code yX5_checkState cX5_checkState 1 none, Cond.classLink RX5 224 "java/lang/IllegalStateException", Cond.initialized "java/lang/IllegalStateException", Cond.methodLink RX5 64 yX5_checkRoom, Cond.static yX5_checkRoom, Cond.code yX5_checkRoom cX5_checkRoom 2 none, Cond.methodLink RX5 189 yX5_readEnds, Cond.instanceMethod yX5_readEnds, Cond.selects RX5 yX5_readEnds yX5_readEnds, Cond.code yX5_readEnds cX5_readEnds 2 none, Cond.methodLink RX5 183 yX5_readEndOf, Cond.instanceMethod yX5_readEndOf, Cond.selects RX5 yX5_readEndOf yX5_readEndOf, Cond.code yX5_readEndOf cX5_readEndOf 2 none, Cond.fieldLink RX5 26 "CueTour" "cueList" "LCueTour$CueList;", Cond.fieldLink RX5 53 "CueTour" "endLevels" "[[I", Cond.methodLink RX5 231 yX4_lastSecondOf, Cond.instanceMethod yX4_lastSecondOf, Cond.selects RX4 yX4_lastSecondOf yX4_lastSecondOf, Cond.code yX4_lastSecondOf cX4_lastSecondOf 2 (some .int)]
def wsL_perform_r3 : List Cond := [Cond.methodLink RX5 171 yX1_fillLevels, Cond.instanceMethod yX1_fillLevels, Cond.selects RX1 yX1_fillLevels yX1_fillLevels, Cond.initialized RX1, Cond.code yX1_fillLevels cX1_fillLevels 4 none, Cond.methodLink RX1 90 yX1_levelByFades, Cond.instanceMethod yX1_levelByFades, Cond.selects RX1 yX1_levelByFades yX1_levelByFades, Cond.code yX1_levelByFades cX1_levelByFades 9 (some .int), Cond.fieldLink RX1 45 "CueTour$CueList" "playCount" "I", Cond.fieldLink RX1 33 "CueTour$CueList" "times" "[I", Cond.fieldLink RX1 42 "CueTour$CueList" "plays" "[I", Cond.fieldLink RX1 39 "CueTour$CueList" "made" "[[I", Cond.fieldLink RX1 18 "CueTour$CueList" "fades" "[I", Cond.methodLink RX1 86 yX1_levelBehind, Cond.static yX1_levelBehind, Cond.code yX1_levelBehind cX1_levelBehind 4 (some .int), Cond.methodLink RX5 192 yX5_countShort, Cond.instanceMethod yX5_countShort, Cond.selects RX5 yX5_countShort yX5_countShort, Cond.code yX5_countShort cX5_countShort 4 (some .int), Cond.fieldLink RX5 33 "CueTour" "rig" "LCueTour$Rig;", Cond.fieldLink RX5 19 "CueTour" "patch" "LCueTour$Patch;", Cond.fieldLink RX5 48 "CueTour" "laid" "[I"]
def wsL_perform_r4 : List Cond := [Cond.methodLink RX5 167 yX3_lay, Cond.instanceMethod yX3_lay, Cond.selects RX3 yX3_lay yX3_lay, Cond.initialized RX3, Cond.code yX3_lay cX3_lay 5 none, Cond.methodLink RX3 60 yX3_lampsFor, Cond.instanceMethod yX3_lampsFor, Cond.selects RX3 yX3_lampsFor yX3_lampsFor, Cond.code yX3_lampsFor cX3_lampsFor 7 (some .int), Cond.fieldLink RX3 36 "CueTour$Rig" "count" "I", Cond.fieldLink RX3 18 "CueTour$Rig" "colours" "[I", Cond.methodLink RX3 52 yX3_isFor, Cond.instanceMethod yX3_isFor, Cond.selects RX3 yX3_isFor yX3_isFor, Cond.code yX3_isFor cX3_isFor 4 (some .boolean), Cond.fieldLink RX3 24 "CueTour$Rig" "stages" "[I", Cond.fieldLink RX3 27 "CueTour$Rig" "areas" "[I", Cond.methodLink RX5 186 yX5_shortAreas, Cond.instanceMethod yX5_shortAreas, Cond.selects RX5 yX5_shortAreas yX5_shortAreas, Cond.code yX5_shortAreas cX5_shortAreas 5 (some .int), Cond.methodLink RX5 179 yX3_lightOf, Cond.instanceMethod yX3_lightOf, Cond.selects RX3 yX3_lightOf yX3_lightOf]
def wsL_perform_r5 : List Cond := [Cond.code yX3_lightOf cX3_lightOf 7 (some .int), Cond.fieldLink RX3 21 "CueTour$Rig" "powers" "[I", Cond.methodLink RX3 64 yX3_levelOf, Cond.instanceMethod yX3_levelOf, Cond.selects RX3 yX3_levelOf yX3_levelOf, Cond.code yX3_levelOf cX3_levelOf 6 (some .int), Cond.fieldLink RX3 30 "CueTour$Rig" "wears" "[I", Cond.methodLink RX5 199 yX5_writeLog, Cond.instanceMethod yX5_writeLog, Cond.selects RX5 yX5_writeLog yX5_writeLog, Cond.code yX5_writeLog cX5_writeLog 4 none, Cond.methodLink RX5 234 yX0_append, Cond.instanceMethod yX0_append, Cond.selects RX0 yX0_append yX0_append, Cond.initialized RX0, Cond.code yX0_append cX0_append 2 (some .int), Cond.fieldLink RX0 9 "CueTour$Book" "stages" "[I", Cond.fieldLink RX0 20 "CueTour$Book" "count" "I", Cond.methodLink RX5 202 yX5_wearOut, Cond.instanceMethod yX5_wearOut, Cond.selects RX5 yX5_wearOut yX5_wearOut, Cond.code yX5_wearOut cX5_wearOut 4 none, Cond.fieldLink RX5 44 "CueTour" "levels" "[I", Cond.methodLink RX5 235 yX3_startBurning]
def wsL_perform_r6 : List Cond := [Cond.instanceMethod yX3_startBurning, Cond.selects RX3 yX3_startBurning yX3_startBurning, Cond.code yX3_startBurning cX3_startBurning 2 none, Cond.fieldLink RX3 33 "CueTour$Rig" "burnt" "[I", Cond.methodLink RX5 238 yX3_burn, Cond.instanceMethod yX3_burn, Cond.selects RX3 yX3_burn yX3_burn, Cond.code yX3_burn cX3_burn 5 none, Cond.methodLink RX5 242 yX3_addBurnt, Cond.instanceMethod yX3_addBurnt, Cond.selects RX3 yX3_addBurnt yX3_addBurnt, Cond.code yX3_addBurnt cX3_addBurnt 2 none]
def wsL_perform : List Cond := .codeWith yL_perform cL_perform 4 (some .int) [(0, 9, 12, 21), (0, 9, 15, 15)] :: ((wsL_perform_r1 ++ (wsL_perform_r2 ++ (wsL_perform_r3 ++ (wsL_perform_r4 ++ (wsL_perform_r5 ++ wsL_perform_r6))))) ++ wsX50 ++ wsX00 ++ wsX40 ++ wsX10 ++ wsX20 ++ wsX30 ++ (vx_atS RX5 216 "java/lang/IndexOutOfBoundsException" ["java/lang/RuntimeException", "java/lang/Exception"]).filter goodWord ++ (vx_atS RX5 228 "java/lang/IllegalStateException" ["java/lang/RuntimeException", "java/lang/Exception"]).filter goodWord)
def wsL_stageOf : List Cond := .codeWith yL_stageOf cL_stageOf 4 (some .int) [(0, 9, 12, 21)] :: ([.classLink RL 21 "java/lang/IndexOutOfBoundsException", .methodLink RL 98 yX5_stageOf, .instanceMethod yX5_stageOf, .selects RX5 yX5_stageOf yX5_stageOf, .initialized RX5, .code yX5_stageOf cX5_stageOf 2 (some .int), .fieldLink RX5 40 "CueTour" "book" "LCueTour$Book;", .methodLink RX5 72 yX5_checkNumber, .static yX5_checkNumber, .code yX5_checkNumber cX5_checkNumber 2 none, .classLink RX5 212 "java/lang/IndexOutOfBoundsException", .initialized "java/lang/IndexOutOfBoundsException"] ++ wsX50 ++ wsX00 ++ (vx_atS RX5 216 "java/lang/IndexOutOfBoundsException" ["java/lang/RuntimeException", "java/lang/Exception"]).filter goodWord)
def wsL_wasShortOf : List Cond := .codeWith yL_wasShortOf cL_wasShortOf 5 (some .int) [(0, 10, 13, 21)] :: ([.classLink RL 21 "java/lang/IndexOutOfBoundsException", .methodLink RL 101 yX5_wasShortOf, .instanceMethod yX5_wasShortOf, .selects RX5 yX5_wasShortOf yX5_wasShortOf, .initialized RX5, .code yX5_wasShortOf cX5_wasShortOf 3 (some .int), .fieldLink RX5 40 "CueTour" "book" "LCueTour$Book;", .fieldLink RX5 10 "CueTour" "script" "LCueTour$Script;", .methodLink RX5 72 yX5_checkNumber, .static yX5_checkNumber, .code yX5_checkNumber cX5_checkNumber 2 none, .classLink RX5 212 "java/lang/IndexOutOfBoundsException", .initialized "java/lang/IndexOutOfBoundsException"] ++ wsX50 ++ wsX00 ++ wsX40 ++ (vx_atS RX5 216 "java/lang/IndexOutOfBoundsException" ["java/lang/RuntimeException", "java/lang/Exception"]).filter goodWord)
def wsL_timesShort : List Cond := .codeWith yL_timesShort cL_timesShort 4 (some .int) [(0, 9, 12, 21)] :: ([.classLink RL 21 "java/lang/IndexOutOfBoundsException", .methodLink RL 104 yX5_timesShort, .instanceMethod yX5_timesShort, .selects RX5 yX5_timesShort yX5_timesShort, .initialized RX5, .code yX5_timesShort cX5_timesShort 2 (some .int), .fieldLink RX5 10 "CueTour" "script" "LCueTour$Script;", .fieldLink RX5 40 "CueTour" "book" "LCueTour$Book;", .methodLink RX5 72 yX5_checkNumber, .static yX5_checkNumber, .code yX5_checkNumber cX5_checkNumber 2 none, .classLink RX5 212 "java/lang/IndexOutOfBoundsException", .initialized "java/lang/IndexOutOfBoundsException", .methodLink RX5 209 yX0_countShortLogs, .instanceMethod yX0_countShortLogs, .selects RX0 yX0_countShortLogs yX0_countShortLogs, .initialized RX0, .code yX0_countShortLogs cX0_countShortLogs 4 (some .int), .fieldLink RX0 20 "CueTour$Book" "count" "I", .fieldLink RX0 17 "CueTour$Book" "shorts" "[[I"] ++ wsX50 ++ wsX40 ++ wsX00 ++ (vx_atS RX5 216 "java/lang/IndexOutOfBoundsException" ["java/lang/RuntimeException", "java/lang/Exception"]).filter goodWord)
def wsL_law0_r1 : List Cond := [Cond.classLink RL 8 RX5, Cond.instantiable RX5 8, Cond.initialized RX5, Cond.classLink RL 108 RX6, Cond.instantiable RX6 30, Cond.initialized RX6, Cond.arrayClass .long, Cond.methodLink RL 107 yX5_init, Cond.instanceMethod yX5_init, Cond.code yX5_init cX5_init 1 none, Cond.methodLink RX5 1 objectInit, Cond.instanceMethod objectInit, Cond.code objectInit ⟨#[0xb1]⟩ 1 none, Cond.classLink RX5 7 RX4, Cond.instantiable RX4 4, Cond.initialized RX4, Cond.fieldLink RX5 10 "CueTour" "script" "LCueTour$Script;", Cond.classLink RX5 16 RX2, Cond.instantiable RX2 2, Cond.initialized RX2, Cond.fieldLink RX5 19 "CueTour" "patch" "LCueTour$Patch;", Cond.classLink RX5 23 RX1, Cond.instantiable RX1 11, Cond.initialized RX1]
def wsL_law0_r2 : List Cond := [Cond.fieldLink RX5 26 "CueTour" "cueList" "LCueTour$CueList;", Cond.classLink RX5 30 RX3, Cond.instantiable RX3 9, Cond.initialized RX3, Cond.fieldLink RX5 33 "CueTour" "rig" "LCueTour$Rig;", Cond.classLink RX5 37 RX0, Cond.instantiable RX0 3, Cond.initialized RX0, Cond.fieldLink RX5 40 "CueTour" "book" "LCueTour$Book;", Cond.arrayClass .int, Cond.fieldLink RX5 44 "CueTour" "levels" "[I", Cond.fieldLink RX5 48 "CueTour" "laid" "[I", Cond.classLink RX5 51 "[[I", Cond.fieldLink RX5 53 "CueTour" "endLevels" "[[I", Cond.instanceMethod yX4_init, Cond.code yX4_init cX4_init 1 none, Cond.methodLink RX4 3 objectInit, Cond.fieldLink RX4 9 "CueTour$Script" "seconds" "[I", Cond.arrayClass .boolean, Cond.fieldLink RX4 15 "CueTour$Script" "isOut" "[Z", Cond.classLink RX4 19 "[[I", Cond.fieldLink RX4 21 "CueTour$Script" "needs" "[[I", Cond.fieldLink RX4 24 "CueTour$Script" "count" "I", Cond.methodLink RX5 18 yX2_init]
def wsL_law0_r3 : List Cond := [Cond.instanceMethod yX2_init, Cond.code yX2_init cX2_init 2 none, Cond.methodLink RX2 3 objectInit, Cond.fieldLink RX2 9 "CueTour$Patch" "areas" "[I", Cond.fieldLink RX2 15 "CueTour$Patch" "colours" "[I", Cond.instanceMethod yX1_init, Cond.code yX1_init cX1_init 1 none, Cond.methodLink RX1 3 objectInit, Cond.fieldLink RX1 9 "CueTour$CueList" "lineOf" "[I", Cond.fieldLink RX1 15 "CueTour$CueList" "offsets" "[I", Cond.fieldLink RX1 18 "CueTour$CueList" "fades" "[I", Cond.classLink RX1 21 "[[I", Cond.fieldLink RX1 23 "CueTour$CueList" "own" "[[I", Cond.fieldLink RX1 26 "CueTour$CueList" "count" "I", Cond.fieldLink RX1 30 "CueTour$CueList" "order" "[I", Cond.fieldLink RX1 33 "CueTour$CueList" "times" "[I", Cond.fieldLink RX1 36 "CueTour$CueList" "into" "[I", Cond.fieldLink RX1 39 "CueTour$CueList" "made" "[[I", Cond.fieldLink RX1 42 "CueTour$CueList" "plays" "[I", Cond.fieldLink RX1 45 "CueTour$CueList" "playCount" "I", Cond.instanceMethod yX3_init, Cond.code yX3_init cX3_init 1 none, Cond.methodLink RX3 3 objectInit, Cond.fieldLink RX3 9 "CueTour$Rig" "homes" "[I"]
def wsL_law0_r4 : List Cond := [Cond.fieldLink RX3 15 "CueTour$Rig" "homeAreas" "[I", Cond.fieldLink RX3 18 "CueTour$Rig" "colours" "[I", Cond.fieldLink RX3 21 "CueTour$Rig" "powers" "[I", Cond.fieldLink RX3 24 "CueTour$Rig" "stages" "[I", Cond.fieldLink RX3 27 "CueTour$Rig" "areas" "[I", Cond.fieldLink RX3 30 "CueTour$Rig" "wears" "[I", Cond.fieldLink RX3 33 "CueTour$Rig" "burnt" "[I", Cond.fieldLink RX3 36 "CueTour$Rig" "count" "I", Cond.instanceMethod yX0_init, Cond.code yX0_init cX0_init 1 none, Cond.methodLink RX0 3 objectInit, Cond.fieldLink RX0 9 "CueTour$Book" "stages" "[I", Cond.classLink RX0 15 "[[I", Cond.fieldLink RX0 17 "CueTour$Book" "shorts" "[[I", Cond.fieldLink RX0 20 "CueTour$Book" "count" "I", Cond.methodLink RL 110 yX6_init, Cond.instanceMethod yX6_init, Cond.code yX6_init cX6_init 2 none, Cond.methodLink RX6 1 objectInit, Cond.fieldLink RX6 7 "CueTourModel" "seconds" "[I", Cond.fieldLink RX6 13 "CueTourModel" "isCut" "[Z", Cond.fieldLink RX6 17 "CueTourModel" "needs" "[I", Cond.fieldLink RX6 20 "CueTourModel" "areaOf" "[I", Cond.fieldLink RX6 23 "CueTourModel" "colourOf" "[I"]
def wsL_law0_r5 : List Cond := [Cond.fieldLink RX6 26 "CueTourModel" "lineOf" "[I", Cond.fieldLink RX6 29 "CueTourModel" "offset" "[I", Cond.fieldLink RX6 32 "CueTourModel" "fade" "[I", Cond.fieldLink RX6 35 "CueTourModel" "to" "[I", Cond.fieldLink RX6 38 "CueTourModel" "home" "[I", Cond.fieldLink RX6 41 "CueTourModel" "homeArea" "[I", Cond.fieldLink RX6 44 "CueTourModel" "stage" "[I", Cond.fieldLink RX6 47 "CueTourModel" "area" "[I", Cond.fieldLink RX6 50 "CueTourModel" "colour" "[I", Cond.fieldLink RX6 53 "CueTourModel" "power" "[I", Cond.fieldLink RX6 56 "CueTourModel" "wear" "[I", Cond.fieldLink RX6 59 "CueTourModel" "played" "[I", Cond.fieldLink RX6 62 "CueTourModel" "wasShort" "[I", Cond.fieldLink RX6 65 "CueTourModel" "order" "[I", Cond.fieldLink RX6 68 "CueTourModel" "row" "[I", Cond.fieldLink RX6 71 "CueTourModel" "start" "[I", Cond.fieldLink RX6 74 "CueTourModel" "laid" "[I", Cond.fieldLink RX6 77 "CueTourModel" "levels" "[I", Cond.fieldLink RX6 80 "CueTourModel" "burns" "[I", Cond.methodLink RL 111 yL_addLine, Cond.static yL_addLine, Cond.initialized RL, Cond.codeWith yL_addLine cL_addLine 4 (some .int) [(0, 9, 12, 13), (0, 9, 15, 15)], Cond.classLink RL 13 "java/lang/IllegalArgumentException"]
def wsL_law0_r6 : List Cond := [Cond.classLink RL 15 "java/lang/IllegalStateException", Cond.methodLink RL 7 yX5_addLine, Cond.instanceMethod yX5_addLine, Cond.selects RX5 yX5_addLine yX5_addLine, Cond.code yX5_addLine cX5_addLine 2 (some .int), Cond.methodLink RX5 56 yX5_checkRange, Cond.static yX5_checkRange, Cond.code yX5_checkRange cX5_checkRange 3 none, Cond.classLink RX5 219 "java/lang/IllegalArgumentException", Cond.initialized "java/lang/IllegalArgumentException", Cond.methodLink RX5 64 yX5_checkRoom, Cond.static yX5_checkRoom, Cond.code yX5_checkRoom cX5_checkRoom 2 none, Cond.classLink RX5 224 "java/lang/IllegalStateException", Cond.initialized "java/lang/IllegalStateException", Cond.methodLink RX5 68 yX4_append, Cond.instanceMethod yX4_append, Cond.selects RX4 yX4_append yX4_append, Cond.code yX4_append cX4_append 2 (some .int), Cond.methodLink RL 116 yX6_addLine, Cond.instanceMethod yX6_addLine, Cond.selects RX6 yX6_addLine yX6_addLine, Cond.code yX6_addLine cX6_addLine 2 (some .int), Cond.fieldLink RX6 87 "CueTourModel" "lines" "I"]
def wsL_law0_r7 : List Cond := [Cond.methodLink RX6 90 yX6_isIn, Cond.static yX6_isIn, Cond.code yX6_isIn cX6_isIn 3 (some .boolean), Cond.methodLink RX6 94 yX6_isFine, Cond.instanceMethod yX6_isFine, Cond.selects RX6 yX6_isFine yX6_isFine, Cond.code yX6_isFine cX6_isFine 2 (some .boolean), Cond.fieldLink RX6 83 "CueTourModel" "thrown" "I", Cond.methodLink RL 117 yX6_thrown, Cond.instanceMethod yX6_thrown, Cond.selects RX6 yX6_thrown yX6_thrown, Cond.code yX6_thrown cX6_thrown 1 (some .int), Cond.methodLink RL 121 yL_need, Cond.static yL_need, Cond.codeWith yL_need cL_need 6 (some .int) [(0, 12, 15, 21), (0, 12, 19, 13)], Cond.classLink RL 21 "java/lang/IndexOutOfBoundsException", Cond.methodLink RL 17 yX5_need, Cond.instanceMethod yX5_need, Cond.selects RX5 yX5_need yX5_need, Cond.code yX5_need cX5_need 5 (some .int), Cond.methodLink RX5 72 yX5_checkNumber, Cond.static yX5_checkNumber, Cond.code yX5_checkNumber cX5_checkNumber 2 none, Cond.classLink RX5 212 "java/lang/IndexOutOfBoundsException"]
def wsL_law0_r8 : List Cond := [Cond.initialized "java/lang/IndexOutOfBoundsException", Cond.methodLink RL 124 yX6_need, Cond.instanceMethod yX6_need, Cond.selects RX6 yX6_need yX6_need, Cond.code yX6_need cX6_need 6 (some .int), Cond.methodLink RX6 98 yX6_isLine, Cond.instanceMethod yX6_isLine, Cond.selects RX6 yX6_isLine yX6_isLine, Cond.code yX6_isLine cX6_isLine 2 (some .boolean), Cond.methodLink RX6 101 yX6_isArea, Cond.static yX6_isArea, Cond.code yX6_isArea cX6_isArea 1 (some .boolean), Cond.methodLink RL 125 yL_cut, Cond.static yL_cut, Cond.codeWith yL_cut cL_cut 5 (some .int) [(0, 10, 13, 21)], Cond.methodLink RL 23 yX5_cut, Cond.instanceMethod yX5_cut, Cond.selects RX5 yX5_cut yX5_cut, Cond.code yX5_cut cX5_cut 3 (some .int), Cond.methodLink RX5 82 yX1_arrange, Cond.instanceMethod yX1_arrange, Cond.selects RX1 yX1_arrange yX1_arrange, Cond.code yX1_arrange cX1_arrange 2 none, Cond.methodLink RX1 48 yX1_sortCues]
def wsL_law0_r9 : List Cond := [Cond.instanceMethod yX1_sortCues, Cond.selects RX1 yX1_sortCues yX1_sortCues, Cond.code yX1_sortCues cX1_sortCues 3 none, Cond.methodLink RX1 61 yX1_comesAhead, Cond.instanceMethod yX1_comesAhead, Cond.selects RX1 yX1_comesAhead yX1_comesAhead, Cond.code yX1_comesAhead cX1_comesAhead 3 (some .boolean), Cond.methodLink RX1 51 yX1_setTimes, Cond.instanceMethod yX1_setTimes, Cond.selects RX1 yX1_setTimes yX1_setTimes, Cond.code yX1_setTimes cX1_setTimes 4 none, Cond.methodLink RX1 71 yX4_secondsAhead, Cond.instanceMethod yX4_secondsAhead, Cond.selects RX4 yX4_secondsAhead yX4_secondsAhead, Cond.code yX4_secondsAhead cX4_secondsAhead 4 (some .int), Cond.methodLink RX1 55 yX1_fold, Cond.instanceMethod yX1_fold, Cond.selects RX1 yX1_fold yX1_fold, Cond.code yX1_fold cX1_fold 4 none, Cond.methodLink RX1 75 yX1_forget, Cond.instanceMethod yX1_forget, Cond.selects RX1 yX1_forget yX1_forget, Cond.code yX1_forget cX1_forget 3 none, Cond.methodLink RX1 79 yX1_fillIn]
def wsL_law0_r10 : List Cond := [Cond.instanceMethod yX1_fillIn, Cond.selects RX1 yX1_fillIn yX1_fillIn, Cond.code yX1_fillIn cX1_fillIn 4 none, Cond.methodLink RX1 58 yX1_sortPlays, Cond.instanceMethod yX1_sortPlays, Cond.selects RX1 yX1_sortPlays yX1_sortPlays, Cond.code yX1_sortPlays cX1_sortPlays 2 none, Cond.methodLink RX1 83 yX1_insertPlay, Cond.instanceMethod yX1_insertPlay, Cond.selects RX1 yX1_insertPlay yX1_insertPlay, Cond.code yX1_insertPlay cX1_insertPlay 3 none, Cond.methodLink RX5 86 yX4_total, Cond.instanceMethod yX4_total, Cond.selects RX4 yX4_total yX4_total, Cond.code yX4_total cX4_total 1 (some .int), Cond.methodLink RX4 28 yX4_secondsAhead, Cond.methodLink RL 128 yX6_cut, Cond.instanceMethod yX6_cut, Cond.selects RX6 yX6_cut yX6_cut, Cond.code yX6_cut cX6_cut 3 (some .int), Cond.methodLink RX6 104 yX6_ahead, Cond.instanceMethod yX6_ahead, Cond.selects RX6 yX6_ahead yX6_ahead, Cond.code yX6_ahead cX6_ahead 4 (some .int)]
def wsL_law0_r11 : List Cond := [Cond.methodLink RL 129 yX5_lines, Cond.instanceMethod yX5_lines, Cond.selects RX5 yX5_lines yX5_lines, Cond.code yX5_lines cX5_lines 1 (some .int), Cond.methodLink RL 132 yX6_lines, Cond.instanceMethod yX6_lines, Cond.selects RX6 yX6_lines yX6_lines, Cond.code yX6_lines cX6_lines 1 (some .int), Cond.methodLink RL 133 yL_startOf, Cond.static yL_startOf, Cond.codeWith yL_startOf cL_startOf 4 (some .int) [(0, 9, 12, 21)], Cond.methodLink RL 27 yX5_startOf, Cond.instanceMethod yX5_startOf, Cond.selects RX5 yX5_startOf yX5_startOf, Cond.code yX5_startOf cX5_startOf 2 (some .int), Cond.methodLink RX5 90 yX4_secondsAhead, Cond.methodLink RL 135 yX6_startOf, Cond.instanceMethod yX6_startOf, Cond.selects RX6 yX6_startOf yX6_startOf, Cond.code yX6_startOf cX6_startOf 2 (some .int), Cond.methodLink RL 136 yX5_length, Cond.instanceMethod yX5_length, Cond.selects RX5 yX5_length yX5_length, Cond.code yX5_length cX5_length 1 (some .int)]
def wsL_law0_r12 : List Cond := [Cond.methodLink RL 139 yX6_length, Cond.instanceMethod yX6_length, Cond.selects RX6 yX6_length yX6_length, Cond.code yX6_length cX6_length 1 (some .int), Cond.methodLink RL 140 yL_setChannel, Cond.static yL_setChannel, Cond.codeWith yL_setChannel cL_setChannel 6 (some .int) [(0, 12, 15, 21), (0, 12, 19, 13)], Cond.methodLink RL 30 yX5_setChannel, Cond.instanceMethod yX5_setChannel, Cond.selects RX5 yX5_setChannel yX5_setChannel, Cond.code yX5_setChannel cX5_setChannel 5 (some .int), Cond.methodLink RL 142 yX6_setChannel, Cond.instanceMethod yX6_setChannel, Cond.selects RX6 yX6_setChannel yX6_setChannel, Cond.code yX6_setChannel cX6_setChannel 6 (some .int), Cond.methodLink RX6 108 yX6_isChannel, Cond.static yX6_isChannel, Cond.code yX6_isChannel cX6_isChannel 1 (some .boolean), Cond.methodLink RL 143 yL_addCue, Cond.static yL_addCue, Cond.codeWith yL_addCue cL_addCue 6 (some .int) [(0, 12, 15, 21), (0, 12, 19, 13), (0, 12, 23, 15)], Cond.methodLink RL 33 yX5_addCue, Cond.instanceMethod yX5_addCue, Cond.selects RX5 yX5_addCue yX5_addCue]
def wsL_law0_r13 : List Cond := [Cond.code yX5_addCue cX5_addCue 5 (some .int), Cond.methodLink RX5 100 yX1_append, Cond.instanceMethod yX1_append, Cond.selects RX1 yX1_append yX1_append, Cond.code yX1_append cX1_append 2 (some .int), Cond.methodLink RX5 102 yX1_place, Cond.instanceMethod yX1_place, Cond.selects RX1 yX1_place yX1_place, Cond.code yX1_place cX1_place 5 none, Cond.methodLink RL 145 yX6_addCue, Cond.instanceMethod yX6_addCue, Cond.selects RX6 yX6_addCue yX6_addCue, Cond.code yX6_addCue cX6_addCue 5 (some .int), Cond.fieldLink RX6 111 "CueTourModel" "cues" "I", Cond.methodLink RX6 114 yX6_isFade, Cond.static yX6_isFade, Cond.code yX6_isFade cX6_isFade 2 (some .boolean), Cond.methodLink RL 146 yL_move, Cond.static yL_move, Cond.codeWith yL_move cL_move 7 (some .int) [(0, 14, 17, 21), (0, 14, 21, 13)], Cond.methodLink RL 36 yX5_move, Cond.instanceMethod yX5_move, Cond.selects RX5 yX5_move yX5_move, Cond.code yX5_move cX5_move 6 (some .int)]
def wsL_law0_r14 : List Cond := [Cond.methodLink RL 149 yX6_move, Cond.instanceMethod yX6_move, Cond.selects RX6 yX6_move yX6_move, Cond.code yX6_move cX6_move 7 (some .int), Cond.methodLink RX6 118 yX6_isCue, Cond.instanceMethod yX6_isCue, Cond.selects RX6 yX6_isCue yX6_isCue, Cond.code yX6_isCue cX6_isCue 2 (some .boolean), Cond.methodLink RL 150 yL_change, Cond.static yL_change, Cond.codeWith yL_change cL_change 6 (some .int) [(0, 12, 15, 21), (0, 12, 19, 13)], Cond.methodLink RL 40 yX5_change, Cond.instanceMethod yX5_change, Cond.selects RX5 yX5_change yX5_change, Cond.code yX5_change cX5_change 5 (some .int), Cond.methodLink RL 152 yX6_change, Cond.instanceMethod yX6_change, Cond.selects RX6 yX6_change yX6_change, Cond.code yX6_change cX6_change 6 (some .int), Cond.methodLink RL 153 yX5_cues, Cond.instanceMethod yX5_cues, Cond.selects RX5 yX5_cues yX5_cues, Cond.code yX5_cues cX5_cues 1 (some .int), Cond.methodLink RL 156 yX6_cues]
def wsL_law0_r15 : List Cond := [Cond.instanceMethod yX6_cues, Cond.selects RX6 yX6_cues yX6_cues, Cond.code yX6_cues cX6_cues 1 (some .int), Cond.methodLink RL 157 yL_cueAt, Cond.static yL_cueAt, Cond.codeWith yL_cueAt cL_cueAt 4 (some .int) [(0, 9, 12, 21)], Cond.methodLink RL 43 yX5_cueAt, Cond.instanceMethod yX5_cueAt, Cond.selects RX5 yX5_cueAt yX5_cueAt, Cond.code yX5_cueAt cX5_cueAt 2 (some .int), Cond.methodLink RL 159 yX6_cueAt, Cond.instanceMethod yX6_cueAt, Cond.selects RX6 yX6_cueAt yX6_cueAt, Cond.code yX6_cueAt cX6_cueAt 2 (some .int), Cond.methodLink RX6 124 yX6_orders, Cond.instanceMethod yX6_orders, Cond.selects RX6 yX6_orders yX6_orders, Cond.code yX6_orders cX6_orders 4 none, Cond.methodLink RX6 121 yX6_isAhead, Cond.instanceMethod yX6_isAhead, Cond.selects RX6 yX6_isAhead yX6_isAhead, Cond.code yX6_isAhead cX6_isAhead 3 (some .boolean), Cond.methodLink RL 160 yL_timeOf, Cond.static yL_timeOf]
def wsL_law0_r16 : List Cond := [Cond.codeWith yL_timeOf cL_timeOf 4 (some .int) [(0, 9, 12, 21)], Cond.methodLink RL 46 yX5_timeOf, Cond.instanceMethod yX5_timeOf, Cond.selects RX5 yX5_timeOf yX5_timeOf, Cond.code yX5_timeOf cX5_timeOf 2 (some .int), Cond.methodLink RL 162 yX6_timeOf, Cond.instanceMethod yX6_timeOf, Cond.selects RX6 yX6_timeOf yX6_timeOf, Cond.code yX6_timeOf cX6_timeOf 2 (some .int), Cond.methodLink RX6 130 yX6_isPlayed, Cond.instanceMethod yX6_isPlayed, Cond.selects RX6 yX6_isPlayed yX6_isPlayed, Cond.code yX6_isPlayed cX6_isPlayed 2 (some .boolean), Cond.methodLink RL 163 yL_foldedInto, Cond.static yL_foldedInto, Cond.codeWith yL_foldedInto cL_foldedInto 4 (some .int) [(0, 9, 12, 21)], Cond.methodLink RL 49 yX5_foldedInto, Cond.instanceMethod yX5_foldedInto, Cond.selects RX5 yX5_foldedInto yX5_foldedInto, Cond.code yX5_foldedInto cX5_foldedInto 2 (some .int), Cond.methodLink RL 165 yX6_foldedInto, Cond.instanceMethod yX6_foldedInto, Cond.selects RX6 yX6_foldedInto yX6_foldedInto, Cond.code yX6_foldedInto cX6_foldedInto 3 (some .int)]
def wsL_law0_r17 : List Cond := [Cond.methodLink RX6 136 yX6_placeOf, Cond.instanceMethod yX6_placeOf, Cond.selects RX6 yX6_placeOf yX6_placeOf, Cond.code yX6_placeOf cX6_placeOf 3 (some .int), Cond.methodLink RL 166 yL_changes, Cond.static yL_changes, Cond.codeWith yL_changes cL_changes 5 (some .int) [(0, 10, 13, 21)], Cond.methodLink RL 52 yX5_changes, Cond.instanceMethod yX5_changes, Cond.selects RX5 yX5_changes yX5_changes, Cond.code yX5_changes cX5_changes 3 (some .int), Cond.methodLink RL 169 yX6_changes, Cond.instanceMethod yX6_changes, Cond.selects RX6 yX6_changes yX6_changes, Cond.code yX6_changes cX6_changes 3 (some .int), Cond.methodLink RX6 139 yX6_changesAt, Cond.instanceMethod yX6_changesAt, Cond.selects RX6 yX6_changesAt yX6_changesAt, Cond.code yX6_changesAt cX6_changesAt 5 (some .int), Cond.methodLink RL 170 yL_levelAt, Cond.static yL_levelAt, Cond.codeWith yL_levelAt cL_levelAt 5 (some .int) [(0, 10, 13, 21), (0, 10, 17, 13)], Cond.methodLink RL 56 yX5_levelAt, Cond.instanceMethod yX5_levelAt]
def wsL_law0_r18 : List Cond := [Cond.selects RX5 yX5_levelAt yX5_levelAt, Cond.code yX5_levelAt cX5_levelAt 3 (some .int), Cond.methodLink RX5 124 yX1_levelByFades, Cond.instanceMethod yX1_levelByFades, Cond.selects RX1 yX1_levelByFades yX1_levelByFades, Cond.code yX1_levelByFades cX1_levelByFades 9 (some .int), Cond.methodLink RX1 86 yX1_levelBehind, Cond.static yX1_levelBehind, Cond.code yX1_levelBehind cX1_levelBehind 4 (some .int), Cond.methodLink RL 172 yX6_levelAt, Cond.instanceMethod yX6_levelAt, Cond.selects RX6 yX6_levelAt yX6_levelAt, Cond.code yX6_levelAt cX6_levelAt 3 (some .int), Cond.methodLink RX6 156 yX6_levelNow, Cond.instanceMethod yX6_levelNow, Cond.selects RX6 yX6_levelNow yX6_levelNow, Cond.code yX6_levelNow cX6_levelNow 3 (some .int), Cond.methodLink RX6 147 yX6_isTime, Cond.static yX6_isTime, Cond.code yX6_isTime cX6_isTime 1 (some .boolean), Cond.methodLink RX6 150 yX6_plays, Cond.instanceMethod yX6_plays, Cond.selects RX6 yX6_plays yX6_plays, Cond.code yX6_plays cX6_plays 3 none]
def wsL_law0_r19 : List Cond := [Cond.fieldLink RX6 127 "CueTourModel" "rows" "I", Cond.methodLink RX6 133 yX6_when, Cond.instanceMethod yX6_when, Cond.selects RX6 yX6_when yX6_when, Cond.code yX6_when cX6_when 2 (some .int), Cond.methodLink RX6 153 yX6_level, Cond.instanceMethod yX6_level, Cond.selects RX6 yX6_level yX6_level, Cond.code yX6_level cX6_level 11 (some .int), Cond.methodLink RX6 143 yX6_behind, Cond.static yX6_behind, Cond.code yX6_behind cX6_behind 4 (some .int), Cond.methodLink RL 173 yL_levelBySeconds, Cond.static yL_levelBySeconds, Cond.codeWith yL_levelBySeconds cL_levelBySeconds 5 (some .int) [(0, 10, 13, 21), (0, 10, 17, 13)], Cond.methodLink RL 59 yX5_levelBySeconds, Cond.instanceMethod yX5_levelBySeconds, Cond.selects RX5 yX5_levelBySeconds yX5_levelBySeconds, Cond.code yX5_levelBySeconds cX5_levelBySeconds 3 (some .int), Cond.methodLink RX5 128 yX1_levelByTicks, Cond.instanceMethod yX1_levelByTicks, Cond.selects RX1 yX1_levelByTicks yX1_levelByTicks, Cond.code yX1_levelByTicks cX1_levelByTicks 11 (some .int), Cond.methodLink RL 175 yX6_levelBySeconds]
def wsL_law0_r20 : List Cond := [Cond.instanceMethod yX6_levelBySeconds, Cond.selects RX6 yX6_levelBySeconds yX6_levelBySeconds, Cond.code yX6_levelBySeconds cX6_levelBySeconds 3 (some .int), Cond.methodLink RL 176 yL_addLamp, Cond.static yL_addLamp, Cond.codeWith yL_addLamp cL_addLamp 7 (some .int) [(0, 14, 17, 21), (0, 14, 21, 13), (0, 14, 25, 15)], Cond.methodLink RL 62 yX5_addLamp, Cond.instanceMethod yX5_addLamp, Cond.selects RX5 yX5_addLamp yX5_addLamp, Cond.code yX5_addLamp cX5_addLamp 5 (some .int), Cond.methodLink RX5 132 yX3_append, Cond.instanceMethod yX3_append, Cond.selects RX3 yX3_append yX3_append, Cond.code yX3_append cX3_append 6 (some .int), Cond.methodLink RX3 40 yX3_putHome, Cond.instanceMethod yX3_putHome, Cond.selects RX3 yX3_putHome yX3_putHome, Cond.code yX3_putHome cX3_putHome 2 none, Cond.methodLink RX3 48 yX3_put, Cond.instanceMethod yX3_put, Cond.selects RX3 yX3_put yX3_put, Cond.code yX3_put cX3_put 4 none, Cond.methodLink RL 178 yX6_addLamp, Cond.instanceMethod yX6_addLamp]
def wsL_law0_r21 : List Cond := [Cond.selects RX6 yX6_addLamp yX6_addLamp, Cond.code yX6_addLamp cX6_addLamp 7 (some .int), Cond.fieldLink RX6 159 "CueTourModel" "lamps" "I", Cond.methodLink RX6 162 yX6_isStage, Cond.static yX6_isStage, Cond.code yX6_isStage cX6_isStage 1 (some .boolean), Cond.methodLink RL 179 yL_borrow, Cond.static yL_borrow, Cond.codeWith yL_borrow cL_borrow 6 (some .int) [(0, 12, 15, 21), (0, 12, 19, 15)], Cond.methodLink RL 65 yX5_borrow, Cond.instanceMethod yX5_borrow, Cond.selects RX5 yX5_borrow yX5_borrow, Cond.code yX5_borrow cX5_borrow 4 (some .int), Cond.methodLink RX5 135 yX3_canGo, Cond.instanceMethod yX3_canGo, Cond.selects RX3 yX3_canGo yX3_canGo, Cond.code yX3_canGo cX3_canGo 3 (some .boolean), Cond.methodLink RX3 44 yX3_isHome, Cond.instanceMethod yX3_isHome, Cond.selects RX3 yX3_isHome yX3_isHome, Cond.code yX3_isHome cX3_isHome 2 (some .boolean), Cond.methodLink RX5 139 yX5_checkState, Cond.static yX5_checkState, Cond.code yX5_checkState cX5_checkState 1 none]
def wsL_law0_r22 : List Cond := [Cond.methodLink RX5 143 yX3_put, Cond.methodLink RL 181 yX6_borrow, Cond.instanceMethod yX6_borrow, Cond.selects RX6 yX6_borrow yX6_borrow, Cond.code yX6_borrow cX6_borrow 5 (some .int), Cond.methodLink RX6 165 yX6_isLamp, Cond.instanceMethod yX6_isLamp, Cond.selects RX6 yX6_isLamp yX6_isLamp, Cond.code yX6_isLamp cX6_isLamp 2 (some .boolean), Cond.methodLink RX6 168 yX6_isHome, Cond.instanceMethod yX6_isHome, Cond.selects RX6 yX6_isHome yX6_isHome, Cond.code yX6_isHome cX6_isHome 2 (some .boolean), Cond.methodLink RL 182 yL_bringBack, Cond.static yL_bringBack, Cond.codeWith yL_bringBack cL_bringBack 4 (some .int) [(0, 9, 12, 21), (0, 9, 15, 15)], Cond.methodLink RL 68 yX5_bringBack, Cond.instanceMethod yX5_bringBack, Cond.selects RX5 yX5_bringBack yX5_bringBack, Cond.code yX5_bringBack cX5_bringBack 3 (some .int), Cond.methodLink RX5 149 yX3_isHome, Cond.methodLink RX5 156 yX3_putHome, Cond.methodLink RL 184 yX6_bringBack, Cond.instanceMethod yX6_bringBack]
def wsL_law0_r23 : List Cond := [Cond.selects RX6 yX6_bringBack yX6_bringBack, Cond.code yX6_bringBack cX6_bringBack 4 (some .int), Cond.methodLink RL 185 yL_replace, Cond.static yL_replace, Cond.codeWith yL_replace cL_replace 4 (some .int) [(0, 9, 12, 21)], Cond.methodLink RL 71 yX5_replace, Cond.instanceMethod yX5_replace, Cond.selects RX5 yX5_replace yX5_replace, Cond.code yX5_replace cX5_replace 3 (some .int), Cond.methodLink RL 187 yX6_replace, Cond.instanceMethod yX6_replace, Cond.selects RX6 yX6_replace yX6_replace, Cond.code yX6_replace cX6_replace 3 (some .int), Cond.methodLink RL 188 yX5_lamps, Cond.instanceMethod yX5_lamps, Cond.selects RX5 yX5_lamps yX5_lamps, Cond.code yX5_lamps cX5_lamps 1 (some .int), Cond.methodLink RL 191 yX6_lamps, Cond.instanceMethod yX6_lamps, Cond.selects RX6 yX6_lamps yX6_lamps, Cond.code yX6_lamps cX6_lamps 1 (some .int), Cond.methodLink RL 192 yL_whereIs, Cond.static yL_whereIs, Cond.codeWith yL_whereIs cL_whereIs 4 (some .int) [(0, 9, 12, 21)]]
def wsL_law0_r24 : List Cond := [Cond.methodLink RL 74 yX5_whereIs, Cond.instanceMethod yX5_whereIs, Cond.selects RX5 yX5_whereIs yX5_whereIs, Cond.code yX5_whereIs cX5_whereIs 2 (some .int), Cond.methodLink RL 194 yX6_whereIs, Cond.instanceMethod yX6_whereIs, Cond.selects RX6 yX6_whereIs yX6_whereIs, Cond.code yX6_whereIs cX6_whereIs 2 (some .int), Cond.methodLink RL 195 yL_wear, Cond.static yL_wear, Cond.codeWith yL_wear cL_wear 4 (some .int) [(0, 9, 12, 21)], Cond.methodLink RL 77 yX5_wear, Cond.instanceMethod yX5_wear, Cond.selects RX5 yX5_wear yX5_wear, Cond.code yX5_wear cX5_wear 2 (some .int), Cond.methodLink RL 197 yX6_wear, Cond.instanceMethod yX6_wear, Cond.selects RX6 yX6_wear yX6_wear, Cond.code yX6_wear cX6_wear 2 (some .int), Cond.methodLink RL 198 yL_laidOn, Cond.static yL_laidOn, Cond.codeWith yL_laidOn cL_laidOn 5 (some .int) [(0, 10, 13, 21)], Cond.methodLink RL 80 yX5_laidOn, Cond.instanceMethod yX5_laidOn]
def wsL_law0_r25 : List Cond := [Cond.selects RX5 yX5_laidOn yX5_laidOn, Cond.code yX5_laidOn cX5_laidOn 3 (some .int), Cond.methodLink RX5 163 yX3_lampsFor, Cond.instanceMethod yX3_lampsFor, Cond.selects RX3 yX3_lampsFor yX3_lampsFor, Cond.code yX3_lampsFor cX3_lampsFor 7 (some .int), Cond.methodLink RX3 52 yX3_isFor, Cond.instanceMethod yX3_isFor, Cond.selects RX3 yX3_isFor yX3_isFor, Cond.code yX3_isFor cX3_isFor 4 (some .boolean), Cond.methodLink RL 200 yX6_laidOn, Cond.instanceMethod yX6_laidOn, Cond.selects RX6 yX6_laidOn yX6_laidOn, Cond.code yX6_laidOn cX6_laidOn 3 (some .int), Cond.methodLink RX6 171 yX6_lays, Cond.instanceMethod yX6_lays, Cond.selects RX6 yX6_lays yX6_lays, Cond.code yX6_lays cX6_lays 7 (some .int), Cond.methodLink RL 201 yL_lampLevel, Cond.static yL_lampLevel, Cond.codeWith yL_lampLevel cL_lampLevel 5 (some .int) [(0, 10, 13, 21), (0, 10, 17, 13)], Cond.methodLink RL 83 yX5_lampLevel, Cond.instanceMethod yX5_lampLevel, Cond.selects RX5 yX5_lampLevel yX5_lampLevel]
def wsL_law0_r26 : List Cond := [Cond.code yX5_lampLevel cX5_lampLevel 3 (some .int), Cond.methodLink RX5 167 yX3_lay, Cond.instanceMethod yX3_lay, Cond.selects RX3 yX3_lay yX3_lay, Cond.code yX3_lay cX3_lay 5 none, Cond.methodLink RX3 60 yX3_lampsFor, Cond.methodLink RX5 171 yX1_fillLevels, Cond.instanceMethod yX1_fillLevels, Cond.selects RX1 yX1_fillLevels yX1_fillLevels, Cond.code yX1_fillLevels cX1_fillLevels 4 none, Cond.methodLink RX1 90 yX1_levelByFades, Cond.methodLink RX5 175 yX3_levelOf, Cond.instanceMethod yX3_levelOf, Cond.selects RX3 yX3_levelOf yX3_levelOf, Cond.code yX3_levelOf cX3_levelOf 6 (some .int), Cond.methodLink RL 203 yX6_lampLevel, Cond.instanceMethod yX6_lampLevel, Cond.selects RX6 yX6_lampLevel yX6_lampLevel, Cond.code yX6_lampLevel cX6_lampLevel 4 (some .int), Cond.methodLink RX6 177 yX6_laysAll, Cond.instanceMethod yX6_laysAll, Cond.selects RX6 yX6_laysAll yX6_laysAll, Cond.code yX6_laysAll cX6_laysAll 3 none, Cond.methodLink RX6 181 yX6_lights]
def wsL_law0_r27 : List Cond := [Cond.instanceMethod yX6_lights, Cond.selects RX6 yX6_lights yX6_lights, Cond.code yX6_lights cX6_lights 3 none, Cond.methodLink RX6 174 yX6_lampNow, Cond.instanceMethod yX6_lampNow, Cond.selects RX6 yX6_lampNow yX6_lampNow, Cond.code yX6_lampNow cX6_lampNow 5 (some .int), Cond.methodLink RL 204 yL_light, Cond.static yL_light, Cond.codeWith yL_light cL_light 6 (some .int) [(0, 12, 15, 21), (0, 12, 19, 13)], Cond.methodLink RL 86 yX5_light, Cond.instanceMethod yX5_light, Cond.selects RX5 yX5_light yX5_light, Cond.code yX5_light cX5_light 4 (some .int), Cond.methodLink RX5 179 yX3_lightOf, Cond.instanceMethod yX3_lightOf, Cond.selects RX3 yX3_lightOf yX3_lightOf, Cond.code yX3_lightOf cX3_lightOf 7 (some .int), Cond.methodLink RX3 64 yX3_levelOf, Cond.methodLink RL 206 yX6_light, Cond.instanceMethod yX6_light, Cond.selects RX6 yX6_light yX6_light, Cond.code yX6_light cX6_light 5 (some .int), Cond.methodLink RX6 184 yX6_lightNow]
def wsL_law0_r28 : List Cond := [Cond.instanceMethod yX6_lightNow, Cond.selects RX6 yX6_lightNow yX6_lightNow, Cond.code yX6_lightNow cX6_lightNow 5 (some .int), Cond.methodLink RL 207 yL_shortOf, Cond.static yL_shortOf, Cond.codeWith yL_shortOf cL_shortOf 5 (some .int) [(0, 10, 13, 21)], Cond.methodLink RL 89 yX5_shortOf, Cond.instanceMethod yX5_shortOf, Cond.selects RX5 yX5_shortOf yX5_shortOf, Cond.code yX5_shortOf cX5_shortOf 3 (some .int), Cond.methodLink RX5 183 yX5_readEndOf, Cond.instanceMethod yX5_readEndOf, Cond.selects RX5 yX5_readEndOf yX5_readEndOf, Cond.code yX5_readEndOf cX5_readEndOf 2 none, Cond.methodLink RX5 231 yX4_lastSecondOf, Cond.instanceMethod yX4_lastSecondOf, Cond.selects RX4 yX4_lastSecondOf yX4_lastSecondOf, Cond.code yX4_lastSecondOf cX4_lastSecondOf 2 (some .int), Cond.methodLink RX5 186 yX5_shortAreas, Cond.instanceMethod yX5_shortAreas, Cond.selects RX5 yX5_shortAreas yX5_shortAreas, Cond.code yX5_shortAreas cX5_shortAreas 5 (some .int), Cond.methodLink RL 209 yX6_shortOf, Cond.instanceMethod yX6_shortOf]
def wsL_law0_r29 : List Cond := [Cond.selects RX6 yX6_shortOf yX6_shortOf, Cond.code yX6_shortOf cX6_shortOf 3 (some .int), Cond.methodLink RX6 187 yX6_shorts, Cond.instanceMethod yX6_shorts, Cond.selects RX6 yX6_shorts yX6_shorts, Cond.code yX6_shorts cX6_shorts 5 (some .int), Cond.methodLink RL 210 yX5_bestStage, Cond.instanceMethod yX5_bestStage, Cond.selects RX5 yX5_bestStage yX5_bestStage, Cond.code yX5_bestStage cX5_bestStage 5 (some .int), Cond.methodLink RX5 189 yX5_readEnds, Cond.instanceMethod yX5_readEnds, Cond.selects RX5 yX5_readEnds yX5_readEnds, Cond.code yX5_readEnds cX5_readEnds 2 none, Cond.methodLink RX5 192 yX5_countShort, Cond.instanceMethod yX5_countShort, Cond.selects RX5 yX5_countShort yX5_countShort, Cond.code yX5_countShort cX5_countShort 4 (some .int), Cond.methodLink RL 213 yX6_bestStage, Cond.instanceMethod yX6_bestStage, Cond.selects RX6 yX6_bestStage yX6_bestStage, Cond.code yX6_bestStage cX6_bestStage 5 (some .int), Cond.methodLink RX6 190 yX6_shortLines, Cond.instanceMethod yX6_shortLines]
def wsL_law0_r30 : List Cond := [Cond.selects RX6 yX6_shortLines yX6_shortLines, Cond.code yX6_shortLines cX6_shortLines 4 (some .int), Cond.methodLink RL 214 yL_bestToBorrow, Cond.static yL_bestToBorrow, Cond.codeWith yL_bestToBorrow cL_bestToBorrow 5 (some .int) [(0, 10, 13, 21)], Cond.methodLink RL 92 yX5_bestToBorrow, Cond.instanceMethod yX5_bestToBorrow, Cond.selects RX5 yX5_bestToBorrow yX5_bestToBorrow, Cond.code yX5_bestToBorrow cX5_bestToBorrow 7 (some .int), Cond.methodLink RX5 195 yX5_countShortWith, Cond.instanceMethod yX5_countShortWith, Cond.selects RX5 yX5_countShortWith yX5_countShortWith, Cond.code yX5_countShortWith cX5_countShortWith 5 (some .int), Cond.methodLink RL 216 yX6_bestToBorrow, Cond.instanceMethod yX6_bestToBorrow, Cond.selects RX6 yX6_bestToBorrow yX6_bestToBorrow, Cond.code yX6_bestToBorrow cX6_bestToBorrow 7 (some .int), Cond.methodLink RL 217 yL_perform, Cond.static yL_perform, Cond.codeWith yL_perform cL_perform 4 (some .int) [(0, 9, 12, 21), (0, 9, 15, 15)], Cond.methodLink RL 95 yX5_perform, Cond.instanceMethod yX5_perform, Cond.selects RX5 yX5_perform yX5_perform, Cond.code yX5_perform cX5_perform 3 (some .int)]
def wsL_law0_r31 : List Cond := [Cond.methodLink RX5 199 yX5_writeLog, Cond.instanceMethod yX5_writeLog, Cond.selects RX5 yX5_writeLog yX5_writeLog, Cond.code yX5_writeLog cX5_writeLog 4 none, Cond.methodLink RX5 234 yX0_append, Cond.instanceMethod yX0_append, Cond.selects RX0 yX0_append yX0_append, Cond.code yX0_append cX0_append 2 (some .int), Cond.methodLink RX5 202 yX5_wearOut, Cond.instanceMethod yX5_wearOut, Cond.selects RX5 yX5_wearOut yX5_wearOut, Cond.code yX5_wearOut cX5_wearOut 4 none, Cond.methodLink RX5 235 yX3_startBurning, Cond.instanceMethod yX3_startBurning, Cond.selects RX3 yX3_startBurning yX3_startBurning, Cond.code yX3_startBurning cX3_startBurning 2 none, Cond.methodLink RX5 238 yX3_burn, Cond.instanceMethod yX3_burn, Cond.selects RX3 yX3_burn yX3_burn, Cond.code yX3_burn cX3_burn 5 none, Cond.methodLink RX5 242 yX3_addBurnt, Cond.instanceMethod yX3_addBurnt, Cond.selects RX3 yX3_addBurnt yX3_addBurnt, Cond.code yX3_addBurnt cX3_addBurnt 2 none]
def wsL_law0_r32 : List Cond := [Cond.methodLink RL 219 yX6_perform, Cond.instanceMethod yX6_perform, Cond.selects RX6 yX6_perform yX6_perform, Cond.code yX6_perform cX6_perform 6 (some .int), Cond.fieldLink RX6 193 "CueTourModel" "logs" "I", Cond.methodLink RX6 196 yX6_wears, Cond.instanceMethod yX6_wears, Cond.selects RX6 yX6_wears yX6_wears, Cond.code yX6_wears cX6_wears 5 none, Cond.methodLink RL 220 yX5_logs, Cond.instanceMethod yX5_logs, Cond.selects RX5 yX5_logs yX5_logs, Cond.code yX5_logs cX5_logs 1 (some .int), Cond.methodLink RL 223 yX6_logs, Cond.instanceMethod yX6_logs, Cond.selects RX6 yX6_logs yX6_logs, Cond.code yX6_logs cX6_logs 1 (some .int), Cond.methodLink RL 224 yL_stageOf, Cond.static yL_stageOf, Cond.codeWith yL_stageOf cL_stageOf 4 (some .int) [(0, 9, 12, 21)], Cond.methodLink RL 98 yX5_stageOf, Cond.instanceMethod yX5_stageOf, Cond.selects RX5 yX5_stageOf yX5_stageOf, Cond.code yX5_stageOf cX5_stageOf 2 (some .int)]
def wsL_law0_r33 : List Cond := [Cond.methodLink RL 226 yX6_stageOf, Cond.instanceMethod yX6_stageOf, Cond.selects RX6 yX6_stageOf yX6_stageOf, Cond.code yX6_stageOf cX6_stageOf 2 (some .int), Cond.methodLink RX6 199 yX6_isLog, Cond.instanceMethod yX6_isLog, Cond.selects RX6 yX6_isLog yX6_isLog, Cond.code yX6_isLog cX6_isLog 2 (some .boolean), Cond.methodLink RL 227 yL_wasShortOf, Cond.static yL_wasShortOf, Cond.codeWith yL_wasShortOf cL_wasShortOf 5 (some .int) [(0, 10, 13, 21)], Cond.methodLink RL 101 yX5_wasShortOf, Cond.instanceMethod yX5_wasShortOf, Cond.selects RX5 yX5_wasShortOf yX5_wasShortOf, Cond.code yX5_wasShortOf cX5_wasShortOf 3 (some .int), Cond.methodLink RL 229 yX6_wasShortOf, Cond.instanceMethod yX6_wasShortOf, Cond.selects RX6 yX6_wasShortOf yX6_wasShortOf, Cond.code yX6_wasShortOf cX6_wasShortOf 3 (some .int), Cond.methodLink RL 230 yL_timesShort, Cond.static yL_timesShort, Cond.codeWith yL_timesShort cL_timesShort 4 (some .int) [(0, 9, 12, 21)], Cond.methodLink RL 104 yX5_timesShort, Cond.instanceMethod yX5_timesShort]
def wsL_law0_r34 : List Cond := [Cond.selects RX5 yX5_timesShort yX5_timesShort, Cond.code yX5_timesShort cX5_timesShort 2 (some .int), Cond.methodLink RX5 209 yX0_countShortLogs, Cond.instanceMethod yX0_countShortLogs, Cond.selects RX0 yX0_countShortLogs yX0_countShortLogs, Cond.code yX0_countShortLogs cX0_countShortLogs 4 (some .int), Cond.methodLink RL 232 yX6_timesShort, Cond.instanceMethod yX6_timesShort, Cond.selects RX6 yX6_timesShort yX6_timesShort, Cond.code yX6_timesShort cX6_timesShort 4 (some .int)]
def wsL_law0 : List Cond := (wsL_law0_r1 ++ (wsL_law0_r2 ++ (wsL_law0_r3 ++ (wsL_law0_r4 ++ (wsL_law0_r5 ++ (wsL_law0_r6 ++ (wsL_law0_r7 ++ (wsL_law0_r8 ++ (wsL_law0_r9 ++ (wsL_law0_r10 ++ (wsL_law0_r11 ++ (wsL_law0_r12 ++ (wsL_law0_r13 ++ (wsL_law0_r14 ++ (wsL_law0_r15 ++ (wsL_law0_r16 ++ (wsL_law0_r17 ++ (wsL_law0_r18 ++ (wsL_law0_r19 ++ (wsL_law0_r20 ++ (wsL_law0_r21 ++ (wsL_law0_r22 ++ (wsL_law0_r23 ++ (wsL_law0_r24 ++ (wsL_law0_r25 ++ (wsL_law0_r26 ++ (wsL_law0_r27 ++ (wsL_law0_r28 ++ (wsL_law0_r29 ++ (wsL_law0_r30 ++ (wsL_law0_r31 ++ (wsL_law0_r32 ++ (wsL_law0_r33 ++ wsL_law0_r34))))))))))))))))))))))))))))))))) ++ wsX50 ++ wsX60 ++ wsX40 ++ wsX20 ++ wsX10 ++ wsX30 ++ wsX00 ++ ([] : List Cond)
def wsL_law : List Cond := wsL_law0 ++ (vx_atS RX5 223 "java/lang/IllegalArgumentException" ["java/lang/RuntimeException", "java/lang/Exception"]).filter goodWord ++ (vx_atS RX5 228 "java/lang/IllegalStateException" ["java/lang/RuntimeException", "java/lang/Exception"]).filter goodWord ++ (vx_atS RX5 216 "java/lang/IndexOutOfBoundsException" ["java/lang/RuntimeException", "java/lang/Exception"]).filter goodWord
abbrev vwCl : List vw_C := [(RX0, TX0, 3), (RX1, TX1, 11), (RX2, TX2, 2), (RX3, TX3, 9), (RX4, TX4, 4), (RX5, TX5, 8), (RX6, TX6, 30)]
end
section
/-! the abstract machine: all objects and arrays of the two systems bear numbers (0 .. 177), the memory is a function of number and place; an instruction is a transformer of predicates of (pc, locals, stack, memory); once for all methods it is shown that what is true of the transformers is true of the machine -/
abbrev aM : Type := Nat → Nat → Int32
abbrev aS : Type := Nat × List Value × List Value × aM
abbrev aI : Type := (aS → Prop) → aS → Prop
def mput (σ : aM) (k i : Nat) (v : Int32) : aM := fun a => if a = k then upd (σ a) i v else σ a
def ix (i : Int32) : Nat := i.toNatClampNeg
def inb (i : Int32) (n : Nat) : Bool := decide (0 ≤ i.toInt) && decide (i.toInt < n)
theorem inb_in {i : Int32} {n : Nat} (h : inb i n = true) : vp_in i n := by
  simp only [inb, Bool.and_eq_true, decide_eq_true_eq] at h
  exact vp_in_iff.mpr h
/-- kinds: 0 an object, 1 ints, 2 booleans, 3 an array of rows -/
def kd (k : Nat) : Nat := if k < 7 then 0 else if k = 8 ∨ k = 30 then 2 else if k < 53 then 1 else if k < 58 then 3 else if k < 178 then 1 else 9
def lnT : List Nat := [0, 0, 0, 0, 0, 0, 0, 30, 30, 10, 10, 20, 20, 20, 20, 20, 20, 20, 20, 20, 20, 20, 20, 20, 20, 20, 20, 10, 10, 30, 30, 120, 10, 10, 20, 20, 20, 200, 20, 20, 20, 20, 20, 20, 20, 20, 600, 20, 20, 30, 10, 10, 20, 30, 20, 20, 30, 20]
def ln (k : Nat) : Nat := if k < 58 then lnT.getD k 0 else if k < 88 then 4 else if k < 158 then 10 else 30
def rb (k : Nat) : Nat := if k = 53 then 58 else if k = 54 then 88 else if k = 55 then 108 else if k = 56 then 128 else 158
def cn (o : Nat) : Nat := [5, 4, 2, 1, 3, 0, 6].getD o 0
def ft (o : Nat) : List (Option Nat) := match o with
  | 0 => [some 1, some 2, some 3, some 4, some 5, some 27, some 28, some 56]
  | 1 => [some 7, some 8, some 53, none]
  | 2 => [some 9, some 10]
  | 3 => [some 11, some 12, some 13, some 54, none, some 14, some 15, some 16, some 55, some 17, none]
  | 4 => [some 18, some 19, some 20, some 21, some 22, some 23, some 24, some 25, none]
  | 5 => [some 26, some 57, none]
  | 6 => [none, some 29, some 30, some 31, none, some 32, some 33, some 34, some 35, some 36, some 37, none, some 38, some 39, some 40, some 41, some 42, some 43, some 44, none, some 45, some 46, none, some 47, some 48, none, some 49, some 50, some 51, some 52]
  | _ => []
theorem kd_lt {k : Nat} (h : kd k = 1 ∨ kd k = 2 ∨ kd k = 3) : 7 ≤ k ∧ k < 178 := by
  unfold kd at h
  by_cases h1 : k < 7
  · simp [h1] at h
  · by_cases h2 : k < 178
    · omega
    · rw [if_neg h1, if_neg (by omega), if_neg (by omega), if_neg (by omega), if_neg h2] at h
      omega
def fsL (ad : Nat → Nat) (f : Nat → Int32) : Nat → List (Option Nat) → List Value
  | _, [] => []
  | j, some k :: t => .ref (ad k) :: fsL ad f (j + 1) t
  | j, none :: t => .int (f j) :: fsL ad f (j + 1) t
theorem fsL_int {ad : Nat → Nat} {f : Nat → Int32} : ∀ (t : List (Option Nat)) (j0 j : Nat), t[j]? = some none → (fsL ad f j0 t)[j]? = some (.int (f (j0 + j)))
  | [], _, j, h => by simp at h
  | some k :: t, j0, 0, h => by simp at h
  | none :: t, j0, 0, h => by simp [fsL]
  | some k :: t, j0, j + 1, h => by
    have := fsL_int (ad := ad) (f := f) t (j0 + 1) j (by simpa using h)
    simp only [fsL, List.getElem?_cons_succ]
    rw [this]
    congr 3
    omega
  | none :: t, j0, j + 1, h => by
    have := fsL_int (ad := ad) (f := f) t (j0 + 1) j (by simpa using h)
    simp only [fsL, List.getElem?_cons_succ]
    rw [this]
    congr 3
    omega
theorem fsL_ref {ad : Nat → Nat} {f : Nat → Int32} {k : Nat} : ∀ (t : List (Option Nat)) (j0 j : Nat), t[j]? = some (some k) → (fsL ad f j0 t)[j]? = some (.ref (ad k))
  | [], _, j, h => by simp at h
  | some k :: t, j0, 0, h => by simp at h; simp [fsL, h]
  | none :: t, j0, 0, h => by simp at h
  | some k :: t, j0, j + 1, h => by simpa [fsL] using fsL_ref t (j0 + 1) j (by simpa using h)
  | none :: t, j0, j + 1, h => by simpa [fsL] using fsL_ref t (j0 + 1) j (by simpa using h)
theorem fsL_len {ad : Nat → Nat} {f : Nat → Int32} : ∀ (t : List (Option Nat)) (j0 : Nat), (fsL ad f j0 t).length = t.length
  | [], _ => rfl
  | some k :: t, j0 => by simp [fsL, fsL_len t]
  | none :: t, j0 => by simp [fsL, fsL_len t]
theorem fsL_low {ad : Nat → Nat} {f : Nat → Int32} {i : Nat} {v : Int32} : ∀ (t : List (Option Nat)) (j0 : Nat), i < j0 → fsL ad (upd f i v) j0 t = fsL ad f j0 t
  | [], _, _ => rfl
  | some k :: t, j0, h => by simp [fsL, fsL_low (i := i) (v := v) t (j0 + 1) (by omega)]
  | none :: t, j0, h => by simp [fsL, fsL_low (i := i) (v := v) t (j0 + 1) (by omega), upd, show ¬ j0 = i by omega]
theorem fsL_set {ad : Nat → Nat} {f : Nat → Int32} {v : Int32} : ∀ (t : List (Option Nat)) (j0 j : Nat), t[j]? = some none → (fsL ad f j0 t).set j (.int v) = fsL ad (upd f (j0 + j) v) j0 t
  | [], _, j, h => by simp at h
  | some k :: t, j0, 0, h => by simp at h
  | none :: t, j0, 0, h => by simp [fsL, fsL_low t (j0 + 1) (show j0 < j0 + 1 by omega), upd]
  | some k :: t, j0, j + 1, h => by
    have := fsL_set (ad := ad) (f := f) (v := v) t (j0 + 1) j (by simpa using h)
    rw [show j0 + 1 + j = j0 + (j + 1) by omega] at this
    simp [fsL, this]
  | none :: t, j0, j + 1, h => by
    have := fsL_set (ad := ad) (f := f) (v := v) t (j0 + 1) j (by simpa using h)
    rw [show j0 + 1 + j = j0 + (j + 1) by omega] at this
    simp [fsL, this, upd, show ¬ j0 = j0 + (j + 1) by omega]
def cellE (cI cZ cA : ClassId) (ad : Nat → Nat) (σ : aM) (k : Nat) : va_E :=
  if kd k = 0 then .inr (cn k, fsL ad (σ k) 0 (ft k)) else if kd k = 3 then .inl (cA, ln k, .inr (.inr (.inr (.inr (fun i => if i < ln k then some (ad (rb k + i)) else none))))) else .inl (if kd k = 2 then cZ else cI, ln k, .inl (σ k))
def wl (cI cZ cA : ClassId) (ad : Nat → Nat) (σ : aM) : va_W := (List.range 178).map (fun k => (ad k, cellE cI cZ cA ad σ k))
def TY (cI cZ cA : ClassId) : List (ClassId × FieldType) := [(cI, .int), (cZ, .boolean), (cA, .array .int)]
def AA (ad : Nat → Nat) (sz : Nat) : Nat → Prop := fun q => (∃ k, k < 178 ∧ q = ad k) ∨ sz ≤ q
def adI (ad : Nat → Nat) : Prop := ∀ i j, i < 178 → j < 178 → ad i = ad j → i = j
theorem wl_at {cI cZ cA : ClassId} {ad : Nat → Nat} {σ : aM} {k : Nat} (h : k < 178) : (wl cI cZ cA ad σ)[k]? = some (ad k, cellE cI cZ cA ad σ k) := by
  simp [wl, h]
theorem wl_D {cI cZ cA : ClassId} {ad : Nat → Nat} (hi : adI ad) (σ : aM) (sz : Nat) : va_D (AA ad sz) (wl cI cZ cA ad σ) := by
  have key : ∀ (k : Nat) (q : Nat × va_E), (wl cI cZ cA ad σ)[k]? = some q → k < 178 ∧ q.1 = ad k := by
    intro k q h
    have hk : k < 178 := by
      have := (List.getElem?_eq_some_iff.mp h).1
      simpa [wl] using this
    rw [wl_at hk] at h
    cases h
    exact ⟨hk, rfl⟩
  refine ⟨fun i j p q h1 h2 e => ?_, fun k q h => Or.inl ⟨k, (key k q h).1, (key k q h).2⟩⟩
  obtain ⟨a1, a2⟩ := key i p h1
  obtain ⟨b1, b2⟩ := key j q h2
  exact hi i j a1 b1 (by rw [← a2, ← b2, e])
theorem cellE_ne {cI cZ cA : ClassId} {ad : Nat → Nat} {σ : aM} {k i j : Nat} {v : Int32} (h : j ≠ k) : cellE cI cZ cA ad (mput σ k i v) j = cellE cI cZ cA ad σ j := by
  have e : mput σ k i v j = σ j := by simp [mput, h]
  simp only [cellE, e]
theorem wl_set {cI cZ cA : ClassId} {ad : Nat → Nat} {σ : aM} {k i : Nat} {v : Int32} {e : va_E} (he : cellE cI cZ cA ad (mput σ k i v) k = e) : (wl cI cZ cA ad σ).set k (ad k, e) = wl cI cZ cA ad (mput σ k i v) := by
  apply List.ext_getElem?
  intro j
  rw [List.getElem?_set]
  by_cases hj : j < 178
  · by_cases hk : k = j
    · subst hk
      simp [wl, hj, he]
    · simp only [if_neg hk]
      rw [wl_at hj, wl_at hj, cellE_ne (fun h => hk h.symm)]
  · have : ¬ j < (wl cI cZ cA ad σ).length := by simpa [wl] using hj
    by_cases hk : k = j
    · subst hk
      simp [wl, hj]
    · simp only [if_neg hk]
      simp [wl, hj]
theorem cellE_int {cI cZ cA : ClassId} {ad : Nat → Nat} {σ : aM} {k : Nat} (h : kd k = 1) : cellE cI cZ cA ad σ k = .inl (cI, ln k, .inl (σ k)) := by
  simp [cellE, h]
theorem cellE_bool {cI cZ cA : ClassId} {ad : Nat → Nat} {σ : aM} {k : Nat} (h : kd k = 2) : cellE cI cZ cA ad σ k = .inl (cZ, ln k, .inl (σ k)) := by
  simp [cellE, h]
theorem cellE_rows {cI cZ cA : ClassId} {ad : Nat → Nat} {σ : aM} {k : Nat} (h : kd k = 3) : cellE cI cZ cA ad σ k = .inl (cA, ln k, .inr (.inr (.inr (.inr (fun i => if i < ln k then some (ad (rb k + i)) else none))))) := by
  simp [cellE, h]
theorem cellE_obj {cI cZ cA : ClassId} {ad : Nat → Nat} {σ : aM} {k : Nat} (h : k < 7) : cellE cI cZ cA ad σ k = .inr (cn k, fsL ad (σ k) 0 (ft k)) := by
  simp [cellE, kd, h]
def cv (ad : Nat → Nat) (v : Value) : Value := match v with
  | .ref k => .ref (ad k)
  | w => w
theorem cv_cat (ad : Nat → Nat) (v : Value) : (cv ad v).category = v.category := by
  cases v <;> rfl
/-- the locals; null stands for a place of which nothing is said -/
def lh (ad : Nat → Nat) (ls : Array Slot) (n : Nat) (L : List Value) : Prop := ls.size = n ∧ lv_wf ls ∧ L.length = n ∧ (∀ v ∈ L, v.category = 1) ∧ ∀ (k : Nat) (v : Value), L[k]? = some v → v ≠ .null → ls[k]? = some (.val (cv ad v))
def lhP (ad : Nat → Nat) (q : Value × Nat) : Option (Nat × Value) := match q.1 with
  | .null => none
  | v => some (q.2, cv ad v)
def lhL (ad : Nat → Nat) (L : List Value) : List (Nat × Value) := L.zipIdx.filterMap (lhP ad)
theorem lhP_some {ad : Nat → Nat} {v : Value} {k : Nat} (h : v ≠ .null) : lhP ad (v, k) = some (k, cv ad v) := by
  cases v <;> first | rfl | exact absurd rfl h
theorem lhL_in {ad : Nat → Nat} {L : List Value} {k : Nat} {v : Value} (h : L[k]? = some v) (hv : v ≠ .null) : (k, cv ad v) ∈ lhL ad L := by
  refine List.mem_filterMap.mpr ⟨(v, k), ?_, lhP_some hv⟩
  rw [List.mem_zipIdx_iff_getElem?]
  exact h
theorem lhL_has {ad : Nat → Nat} {ls : Array Slot} {n : Nat} {L : List Value} (h : lh ad ls n L) : lv_has ls n (lhL ad L) := by
  refine ⟨h.1, h.2.1, fun q hq => ?_⟩
  obtain ⟨⟨v, k⟩, hm, he⟩ := List.mem_filterMap.mp hq
  rw [List.mem_zipIdx_iff_getElem?] at hm
  by_cases hn : v = .null
  · subst hn
    simp [lhP] at he
  · rw [lhP_some hn] at he
    cases he
    exact h.2.2.2.2 k v hm hn
theorem lh_set {ad : Nat → Nat} {ls ls' : Array Slot} {n i : Nat} {L : List Value} {w : Value} (h : lh ad ls n L) (hc : w.category = 1)
    (hs : lv_has ls' n ((i, cv ad w) :: (lhL ad L).filter (fun q => !(q.1 == i) && !(q.1 + 1 == i && q.2.category == 2)))) : lh ad ls' n (L.set i w) := by
  refine ⟨hs.1, hs.2.1, by rw [List.length_set]; exact h.2.2.1, fun v hv => ?_, fun k v hk hv => ?_⟩
  · rcases List.mem_or_eq_of_mem_set hv with h1 | h1
    · exact h.2.2.2.1 v h1
    · rw [h1]; exact hc
  · rw [List.getElem?_set] at hk
    by_cases e : i = k
    · subst e
      rw [if_pos rfl] at hk
      split at hk
      · cases hk
        exact hs.2.2 _ List.mem_cons_self
      · cases hk
    · rw [if_neg e] at hk
      refine hs.2.2 (k, cv ad v) (List.mem_cons_of_mem _ (List.mem_filter.mpr ⟨lhL_in hk hv, ?_⟩))
      have h1 : (cv ad v).category = 1 := by
        rw [cv_cat]
        exact h.2.2.2.1 v (List.mem_of_getElem? hk)
      simp [h1, show ¬ k = i from fun q => e q.symm]
theorem lh_args {ad : Nat → Nat} : ∀ (vs : List Value) (i : Nat), (∀ v ∈ vs, v.category = 1) → ∀ (k : Nat) (v : Value), vs[k]? = some v → (i + k, cv ad v) ∈ lv_args i (vs.map (cv ad))
  | [], _, _, k, v, h => by simp at h
  | w :: vs, i, hc, 0, v, h => by
    simp at h
    subst h
    simp [lv_args]
  | w :: vs, i, hc, k + 1, v, h => by
    have h1 : (cv ad w).category = 1 := by rw [cv_cat]; exact hc w List.mem_cons_self
    have := lh_args (ad := ad) vs (i + 1) (fun v hv => hc v (List.mem_cons_of_mem _ hv)) k v (by simpa using h)
    simp only [List.map_cons, lv_args, h1]
    rw [show i + (k + 1) = i + 1 + k by omega]
    exact List.mem_cons_of_mem _ this
theorem lh_entry {ad : Nat → Nat} (vs : List Value) {n : Nat} (hc : ∀ v ∈ vs, v.category = 1) (hn : vs.length ≤ n) : lh ad ((lg_sl (vs.map (cv ad)) ++ List.replicate (n - (lg_sl (vs.map (cv ad))).length) Slot.unset).toArray) n (vs ++ List.replicate (n - vs.length) .null) := by
  have hsl : ∀ ws : List Value, (∀ v ∈ ws, v.category = 1) → (lg_sl (ws.map (cv ad))).length = ws.length := by
    intro ws
    induction ws with
    | nil => intro _; rfl
    | cons w ws ih =>
      intro h
      have h1 : (cv ad w).category = 1 := by rw [cv_cat]; exact h w List.mem_cons_self
      have := ih (fun v hv => h v (List.mem_cons_of_mem _ hv))
      simp only [lg_sl] at this ⊢
      simp [h1, this]
  have hl := lv_entry (vs.map (cv ad)) (n := n) (by rw [hsl vs hc]; exact hn)
  refine ⟨hl.1, hl.2.1, by simp; omega, fun v hv => ?_, fun k v hk hv => ?_⟩
  · rcases List.mem_append.mp hv with h | h
    · exact hc v h
    · rw [List.eq_of_mem_replicate h]; rfl
  · by_cases hlt : k < vs.length
    · rw [List.getElem?_append_left hlt] at hk
      have := hl.2.2 (0 + k, cv ad v) (lh_args vs 0 hc k v hk)
      simpa using this
    · rw [List.getElem?_append_right (by omega)] at hk
      rw [List.getElem?_replicate] at hk
      split at hk
      · cases hk
        exact absurd rfl hv
      · cases hk
section MACHI
/-! the instructions -/
def I_bot : aI := fun _ _ => False
def I_iload (i len : Nat) : aI := fun K x => match x with
  | (pc, L, st, σ) => match L[i]? with
    | some (.int v) => K (pc + len, L, .int v :: st, σ)
    | _ => False
def I_aload (i len : Nat) : aI := fun K x => match x with
  | (pc, L, st, σ) => match L[i]? with
    | some (.ref v) => K (pc + len, L, .ref v :: st, σ)
    | _ => False
def I_const (v : Int32) (len : Nat) : aI := fun K x => match x with
  | (pc, L, st, σ) => K (pc + len, L, .int v :: st, σ)
def I_istore (i len : Nat) : aI := fun K x => match x with
  | (pc, L, .int v :: st, σ) => match L[i]? with
    | some _ => K (pc + len, L.set i (.int v), st, σ)
    | none => False
  | _ => False
def I_iinc (i : Nat) (n : Int32) : aI := fun K x => match x with
  | (pc, L, st, σ) => match L[i]? with
    | some (.int v) => K (pc + 3, L.set i (.int (v + n)), st, σ)
    | _ => False
def I_bin (f : Int32 → Int32 → Int32) : aI := fun K x => match x with
  | (pc, L, .int b :: .int a :: st, σ) => K (pc + 1, L, .int (f a b) :: st, σ)
  | _ => False
def I_div (f : Int32 → Int32 → Int32) : aI := fun K x => match x with
  | (pc, L, .int b :: .int a :: st, σ) => ¬ b = 0 ∧ K (pc + 1, L, .int (f a b) :: st, σ)
  | _ => False
def I_dup : aI := fun K x => match x with
  | (pc, L, .int a :: st, σ) => K (pc + 1, L, .int a :: .int a :: st, σ)
  | (pc, L, .ref a :: st, σ) => K (pc + 1, L, .ref a :: .ref a :: st, σ)
  | _ => False
def I_dup2 : aI := fun K x => match x with
  | (pc, L, .int b :: .ref a :: st, σ) => K (pc + 1, L, .int b :: .ref a :: .int b :: .ref a :: st, σ)
  | _ => False
def I_if (c : Int32 → Prop) (tgt : Nat) : aI := fun K x => match x with
  | (pc, L, .int a :: st, σ) => (c a → K (tgt, L, st, σ)) ∧ (¬ c a → K (pc + 3, L, st, σ))
  | _ => False
def I_icmp (c : Int32 → Int32 → Prop) (tgt : Nat) : aI := fun K x => match x with
  | (pc, L, .int b :: .int a :: st, σ) => (c a b → K (tgt, L, st, σ)) ∧ (¬ c a b → K (pc + 3, L, st, σ))
  | _ => False
def I_goto (tgt : Nat) : aI := fun K x => match x with
  | (_, L, st, σ) => K (tgt, L, st, σ)
def I_getI (o j : Nat) : aI := fun K x => match x with
  | (pc, L, .ref a :: st, σ) => bif Nat.beq a o then K (pc + 3, L, .int (σ o j) :: st, σ) else False
  | _ => False
def I_getR (o k : Nat) : aI := fun K x => match x with
  | (pc, L, .ref a :: st, σ) => bif Nat.beq a o then K (pc + 3, L, .ref k :: st, σ) else False
  | _ => False
def I_putI (o j : Nat) : aI := fun K x => match x with
  | (pc, L, .int v :: .ref a :: st, σ) => bif Nat.beq a o then K (pc + 3, L, st, mput σ o j v) else False
  | _ => False
def I_iald : aI := fun K x => match x with
  | (pc, L, .int i :: .ref a :: st, σ) => kd a = 1 ∧ inb i (ln a) = true ∧ K (pc + 1, L, .int (σ a (ix i)) :: st, σ)
  | _ => False
def I_zald : aI := fun K x => match x with
  | (pc, L, .int i :: .ref a :: st, σ) => kd a = 2 ∧ inb i (ln a) = true ∧ K (pc + 1, L, .int (σ a (ix i)) :: st, σ)
  | _ => False
def I_iast : aI := fun K x => match x with
  | (pc, L, .int v :: .int i :: .ref a :: st, σ) => kd a = 1 ∧ inb i (ln a) = true ∧ K (pc + 1, L, st, mput σ a (ix i) v)
  | _ => False
def I_zast : aI := fun K x => match x with
  | (pc, L, .int v :: .int i :: .ref a :: st, σ) => kd a = 2 ∧ inb i (ln a) = true ∧ (v = 0 ∨ v = 1) ∧ K (pc + 1, L, st, mput σ a (ix i) v)
  | _ => False
def I_aald : aI := fun K x => match x with
  | (pc, L, .int i :: .ref a :: st, σ) => kd a = 3 ∧ inb i (ln a) = true ∧ K (pc + 1, L, .ref (rb a + ix i) :: st, σ)
  | _ => False
def I_iret (Qa : Int32 → aM → Prop) : aI := fun _ x => match x with
  | (_, _, [.int v], σ) => Qa v σ
  | _ => False
def I_zret (Qa : Int32 → aM → Prop) : aI := fun _ x => match x with
  | (_, _, [.int v], σ) => (v = 0 ∨ v = 1) ∧ Qa v σ
  | _ => False
def I_vret (Qa : Int32 → aM → Prop) : aI := fun _ x => match x with
  | (_, _, [], σ) => Qa 0 σ
  | _ => False
abbrev aF : Type := List Value → aM → Option (Int32 × aM)
def catS (st : List Value) : Bool := Nat.ble (st.map fun v => v.category).sum 8
/-- a call on the object o with n arguments -/
def I_callV (o n : Nat) (F : aF) : aI := fun K x => match x with
  | (pc, L, st, σ) => match st.drop n with
    | .ref a :: rest => bif Nat.beq a o && catS rest then (∃ r σ', F (st.take n).reverse σ = some (r, σ') ∧ K (pc + 3, L, .int r :: rest, σ')) else False
    | _ => False
def I_callVv (o n : Nat) (F : aF) : aI := fun K x => match x with
  | (pc, L, st, σ) => match st.drop n with
    | .ref a :: rest => bif Nat.beq a o && catS rest then (∃ r σ', F (st.take n).reverse σ = some (r, σ') ∧ K (pc + 3, L, rest, σ')) else False
    | _ => False
def I_callS (n : Nat) (F : aF) : aI := fun K x => match x with
  | (pc, L, st, σ) => bif Nat.ble n st.length && catS (st.drop n) then (∃ r σ', F (st.take n).reverse σ = some (r, σ') ∧ K (pc + 3, L, .int r :: st.drop n, σ')) else False
def I_callSv (n : Nat) (F : aF) : aI := fun K x => match x with
  | (pc, L, st, σ) => bif Nat.ble n st.length && catS (st.drop n) then (∃ r σ', F (st.take n).reverse σ = some (r, σ') ∧ K (pc + 3, L, st.drop n, σ')) else False
/-- k instructions on -/
def wp (T : List aI) : Nat → (aS → Prop) → aS → Prop
  | 0, K, x => K x
  | n + 1, K, x => T.getD x.1 I_bot (wp T n K) x
def mono (i : aI) : Prop := ∀ (K K' : aS → Prop) (x : aS), (∀ y, K y → K' y) → i K x → i K' x
theorem mono_bot : mono I_bot := fun _ _ _ _ h => h
theorem mono_iload (i len : Nat) : mono (I_iload i len) := by
  intro K K' x hK h
  obtain ⟨pc, L, st, σ⟩ := x
  revert h
  simp only [I_iload]
  split <;> intro h
  · exact hK _ h
  · exact h
theorem mono_aload (i len : Nat) : mono (I_aload i len) := by
  intro K K' x hK h
  obtain ⟨pc, L, st, σ⟩ := x
  revert h
  simp only [I_aload]
  split <;> intro h
  · exact hK _ h
  · exact h
theorem mono_const (v : Int32) (len : Nat) : mono (I_const v len) := by
  intro K K' x hK h
  obtain ⟨pc, L, st, σ⟩ := x
  exact hK _ h
theorem mono_goto (t : Nat) : mono (I_goto t) := by
  intro K K' x hK h
  obtain ⟨pc, L, st, σ⟩ := x
  exact hK _ h
theorem mono_istore (i len : Nat) : mono (I_istore i len) := by
  intro K K' x hK h
  revert h
  unfold I_istore
  split
  · split <;> intro h
    · exact hK _ h
    · exact h
  · exact id
theorem mono_iinc (i : Nat) (n : Int32) : mono (I_iinc i n) := by
  intro K K' x hK h
  obtain ⟨pc, L, st, σ⟩ := x
  revert h
  simp only [I_iinc]
  split <;> intro h
  · exact hK _ h
  · exact h
theorem mono_bin (f : Int32 → Int32 → Int32) : mono (I_bin f) := by
  intro K K' x hK h
  revert h
  unfold I_bin
  split
  · exact hK _
  · exact id
theorem mono_div (f : Int32 → Int32 → Int32) : mono (I_div f) := by
  intro K K' x hK h
  revert h
  unfold I_div
  split
  · exact fun h => ⟨h.1, hK _ h.2⟩
  · exact id
theorem mono_dup : mono I_dup := by
  intro K K' x hK h
  revert h
  unfold I_dup
  split
  · exact hK _
  · exact hK _
  · exact id
theorem mono_dup2 : mono I_dup2 := by
  intro K K' x hK h
  revert h
  unfold I_dup2
  split
  · exact hK _
  · exact id
theorem mono_if (c : Int32 → Prop) (t : Nat) : mono (I_if c t) := by
  intro K K' x hK h
  revert h
  unfold I_if
  split
  · exact fun h => ⟨fun q => hK _ (h.1 q), fun q => hK _ (h.2 q)⟩
  · exact id
theorem mono_icmp (c : Int32 → Int32 → Prop) (t : Nat) : mono (I_icmp c t) := by
  intro K K' x hK h
  revert h
  unfold I_icmp
  split
  · exact fun h => ⟨fun q => hK _ (h.1 q), fun q => hK _ (h.2 q)⟩
  · exact id
theorem mono_bif {b : Bool} {P P' : Prop} (h : P → P') : (bif b then P else False) → (bif b then P' else False) := by
  cases b
  · exact id
  · exact h
theorem mono_getI (o j : Nat) : mono (I_getI o j) := by
  intro K K' x hK h
  revert h
  unfold I_getI
  split
  · exact mono_bif (hK _)
  · exact id
theorem mono_getR (o k : Nat) : mono (I_getR o k) := by
  intro K K' x hK h
  revert h
  unfold I_getR
  split
  · exact mono_bif (hK _)
  · exact id
theorem mono_putI (o j : Nat) : mono (I_putI o j) := by
  intro K K' x hK h
  revert h
  unfold I_putI
  split
  · exact mono_bif (hK _)
  · exact id
theorem mono_iald : mono I_iald := by
  intro K K' x hK h
  revert h
  unfold I_iald
  split
  · exact fun h => ⟨h.1, h.2.1, hK _ h.2.2⟩
  · exact id
theorem mono_zald : mono I_zald := by
  intro K K' x hK h
  revert h
  unfold I_zald
  split
  · exact fun h => ⟨h.1, h.2.1, hK _ h.2.2⟩
  · exact id
theorem mono_aald : mono I_aald := by
  intro K K' x hK h
  revert h
  unfold I_aald
  split
  · exact fun h => ⟨h.1, h.2.1, hK _ h.2.2⟩
  · exact id
theorem mono_iast : mono I_iast := by
  intro K K' x hK h
  revert h
  unfold I_iast
  split
  · exact fun h => ⟨h.1, h.2.1, hK _ h.2.2⟩
  · exact id
theorem mono_zast : mono I_zast := by
  intro K K' x hK h
  revert h
  unfold I_zast
  split
  · exact fun h => ⟨h.1, h.2.1, h.2.2.1, hK _ h.2.2.2⟩
  · exact id
theorem mono_iret (Qa : Int32 → aM → Prop) : mono (I_iret Qa) := fun _ _ _ _ h => h
theorem mono_zret (Qa : Int32 → aM → Prop) : mono (I_zret Qa) := fun _ _ _ _ h => h
theorem mono_vret (Qa : Int32 → aM → Prop) : mono (I_vret Qa) := fun _ _ _ _ h => h
theorem mono_callV (o n : Nat) (F : aF) : mono (I_callV o n F) := by
  intro K K' x hK h
  obtain ⟨pc, L, st, σ⟩ := x
  revert h
  simp only [I_callV]
  split
  · exact mono_bif fun ⟨r, σ', h1, h2⟩ => ⟨r, σ', h1, hK _ h2⟩
  · exact id
theorem mono_callVv (o n : Nat) (F : aF) : mono (I_callVv o n F) := by
  intro K K' x hK h
  obtain ⟨pc, L, st, σ⟩ := x
  revert h
  simp only [I_callVv]
  split
  · exact mono_bif fun ⟨r, σ', h1, h2⟩ => ⟨r, σ', h1, hK _ h2⟩
  · exact id
theorem mono_callS (n : Nat) (F : aF) : mono (I_callS n F) := by
  intro K K' x hK h
  obtain ⟨pc, L, st, σ⟩ := x
  exact mono_bif (fun ⟨r, σ', h1, h2⟩ => ⟨r, σ', h1, hK _ h2⟩) h
theorem mono_callSv (n : Nat) (F : aF) : mono (I_callSv n F) := by
  intro K K' x hK h
  obtain ⟨pc, L, st, σ⟩ := x
  exact mono_bif (fun ⟨r, σ', h1, h2⟩ => ⟨r, σ', h1, hK _ h2⟩) h
end MACHI
end
section
/-- the links between nest mates: they stand in no word list of a method, they go along beside it -/
def nwL : List Cond := [Cond.fieldLinkNest "CueTour" 60 "CueTour$Script" "count" "I" "CueTour", Cond.fieldLinkNest "CueTour" 75 "CueTour$Script" "needs" "[[I" "CueTour", Cond.fieldLinkNest "CueTour" 78 "CueTour$Script" "isOut" "[Z" "CueTour", Cond.fieldLinkNest "CueTour" 93 "CueTour$Patch" "areas" "[I" "CueTour", Cond.fieldLinkNest "CueTour" 96 "CueTour$Patch" "colours" "[I" "CueTour", Cond.fieldLinkNest "CueTour" 99 "CueTour$CueList" "count" "I" "CueTour", Cond.fieldLinkNest "CueTour" 106 "CueTour$CueList" "lineOf" "[I" "CueTour", Cond.fieldLinkNest "CueTour" 109 "CueTour$CueList" "own" "[[I" "CueTour", Cond.fieldLinkNest "CueTour" 112 "CueTour$CueList" "order" "[I" "CueTour", Cond.fieldLinkNest "CueTour" 115 "CueTour$CueList" "times" "[I" "CueTour", Cond.fieldLinkNest "CueTour" 118 "CueTour$CueList" "into" "[I" "CueTour", Cond.fieldLinkNest "CueTour" 121 "CueTour$CueList" "made" "[[I" "CueTour", Cond.fieldLinkNest "CueTour" 131 "CueTour$Rig" "count" "I" "CueTour", Cond.fieldLinkNest "CueTour" 146 "CueTour$Rig" "homes" "[I" "CueTour", Cond.fieldLinkNest "CueTour" 153 "CueTour$Rig" "stages" "[I" "CueTour", Cond.fieldLinkNest "CueTour" 160 "CueTour$Rig" "wears" "[I" "CueTour", Cond.fieldLinkNest "CueTour" 198 "CueTour$Book" "count" "I" "CueTour", Cond.fieldLinkNest "CueTour" 205 "CueTour$Book" "stages" "[I" "CueTour", Cond.fieldLinkNest "CueTour" 206 "CueTour$Book" "shorts" "[[I" "CueTour", Cond.fieldLinkNest "CueTour$CueList" 65 "CueTour$Script" "isOut" "[Z" "CueTour", Cond.fieldLinkNest "CueTour$Rig" 56 "CueTour$Patch" "areas" "[I" "CueTour", Cond.fieldLinkNest "CueTour$Rig" 59 "CueTour$Patch" "colours" "[I" "CueTour"]
def NW (U : State) : Prop := ∀ w ∈ nwL, va_Nw w U
theorem nw_on : ∀ w ∈ nwL, w.onTables = true := by decide +kernel
theorem nw_same {u U : State} (h : u.vm = U.vm) (hN : NW u) : NW U := fun w hw => va_Nw.same (nw_on w hw) h (hN w hw)
theorem nw_in : ∀ w ∈ nwL, w ∈ tables_1 := by decide +kernel
theorem nw_warm {s U : State} (hW : s.WarmedH U.vm) (hN : NW s) : NW U :=
  List.forall_mem_cons.mpr ⟨va_Nw.warmF hW (hN _ (List.mem_of_getElem? (i := 0) rfl)), List.forall_mem_cons.mpr ⟨va_Nw.warmF hW (hN _ (List.mem_of_getElem? (i := 1) rfl)), List.forall_mem_cons.mpr ⟨va_Nw.warmF hW (hN _ (List.mem_of_getElem? (i := 2) rfl)), List.forall_mem_cons.mpr ⟨va_Nw.warmF hW (hN _ (List.mem_of_getElem? (i := 3) rfl)), List.forall_mem_cons.mpr ⟨va_Nw.warmF hW (hN _ (List.mem_of_getElem? (i := 4) rfl)), List.forall_mem_cons.mpr ⟨va_Nw.warmF hW (hN _ (List.mem_of_getElem? (i := 5) rfl)), List.forall_mem_cons.mpr ⟨va_Nw.warmF hW (hN _ (List.mem_of_getElem? (i := 6) rfl)), List.forall_mem_cons.mpr ⟨va_Nw.warmF hW (hN _ (List.mem_of_getElem? (i := 7) rfl)), List.forall_mem_cons.mpr ⟨va_Nw.warmF hW (hN _ (List.mem_of_getElem? (i := 8) rfl)), List.forall_mem_cons.mpr ⟨va_Nw.warmF hW (hN _ (List.mem_of_getElem? (i := 9) rfl)), List.forall_mem_cons.mpr ⟨va_Nw.warmF hW (hN _ (List.mem_of_getElem? (i := 10) rfl)), List.forall_mem_cons.mpr ⟨va_Nw.warmF hW (hN _ (List.mem_of_getElem? (i := 11) rfl)), List.forall_mem_cons.mpr ⟨va_Nw.warmF hW (hN _ (List.mem_of_getElem? (i := 12) rfl)), List.forall_mem_cons.mpr ⟨va_Nw.warmF hW (hN _ (List.mem_of_getElem? (i := 13) rfl)), List.forall_mem_cons.mpr ⟨va_Nw.warmF hW (hN _ (List.mem_of_getElem? (i := 14) rfl)), List.forall_mem_cons.mpr ⟨va_Nw.warmF hW (hN _ (List.mem_of_getElem? (i := 15) rfl)), List.forall_mem_cons.mpr ⟨va_Nw.warmF hW (hN _ (List.mem_of_getElem? (i := 16) rfl)), List.forall_mem_cons.mpr ⟨va_Nw.warmF hW (hN _ (List.mem_of_getElem? (i := 17) rfl)), List.forall_mem_cons.mpr ⟨va_Nw.warmF hW (hN _ (List.mem_of_getElem? (i := 18) rfl)), List.forall_mem_cons.mpr ⟨va_Nw.warmF hW (hN _ (List.mem_of_getElem? (i := 19) rfl)), List.forall_mem_cons.mpr ⟨va_Nw.warmF hW (hN _ (List.mem_of_getElem? (i := 20) rfl)), List.forall_mem_cons.mpr ⟨va_Nw.warmF hW (hN _ (List.mem_of_getElem? (i := 21) rfl)), fun _ h => absurd h List.not_mem_nil⟩⟩⟩⟩⟩⟩⟩⟩⟩⟩⟩⟩⟩⟩⟩⟩⟩⟩⟩⟩⟩⟩
section RULES
variable {p : Program} {l : Launch} {e : Env} {R : Room} {s : State} {m : MethodId} {args : Array Value} {below : List Frame} {meth : Method} {c : Code} {Q : State → Prop} {cells slots : Nat}
variable {cc : ByteArray} {nL : Nat} {D : va_G} {cI cZ cA : ClassId} {ad : Nat → Nat} {A : Nat → Prop} {H0 : Heap} {Ts : List Cond} {own : String}
/-- the machine's W at an abstract state: for every heap that holds the memory -/
def WS (p : Program) (l : Launch) (e : Env) (R : Room) (s : State) (m : MethodId) (args : Array Value) (below : List Frame) (meth : Method) (c : Code) (cells slots : Nat) (Q : State → Prop) (nL : Nat) (D : va_G) (cI cZ cA : ClassId) (ad : Nat → Nat) (A : Nat → Prop) (H0 : Heap) : aS → Prop := fun x =>
  ∀ (H : Heap) (locs : List Loc) (ls : Array Slot), lh ad ls nL x.2.1 → va_P D vwCl (wl cI cZ cA ad x.2.2.2) H → va_S A H0 H locs → W p l e R s m args below meth c H locs cells slots Q (F0 m x.1 ls (x.2.2.1.map (cv ad)))
def Ru (p : Program) (l : Launch) (e : Env) (R : Room) (s : State) (m : MethodId) (args : Array Value) (below : List Frame) (meth : Method) (c : Code) (cells slots : Nat) (Q : State → Prop) (nL : Nat) (D : va_G) (cI cZ cA : ClassId) (ad : Nat → Nat) (A : Nat → Prop) (H0 : Heap) (i : aI) (pc : Nat) : Prop :=
  mono i ∧ ∀ (L st : List Value) (σ : aM), i (WS p l e R s m args below meth c cells slots Q nL D cI cZ cA ad A H0) (pc, L, st, σ) → WS p l e R s m args below meth c cells slots Q nL D cI cZ cA ad A H0 (pc, L, st, σ)
theorem ru_bot {pc : Nat} : Ru p l e R s m args below meth c cells slots Q nL D cI cZ cA ad A H0 I_bot pc := ⟨mono_bot, fun _ _ _ h => h.elim⟩
theorem ru_iload_n {pc : Nat} {k : Fin 4} (hx : p.tables.exec = Jvm.exec) (hb : c.code = cc) (hdg : decode cc pc = .ok (.iload_n k, 1)) : Ru p l e R s m args below meth c cells slots Q nL D cI cZ cA ad A H0 (I_iload k 1) pc := by
  refine ⟨mono_iload _ _, fun L st σ h => ?_⟩
  revert h
  simp only [I_iload]
  split
  · rename_i v hv
    intro h H locs ls hl hP hS
    exact lv_iload_n hx hb hdg rfl (hl.2.2.2.2 _ _ hv nofun) (h H locs ls hl hP hS)
  · exact fun h => h.elim
theorem ru_iload {pc i : Nat} (hx : p.tables.exec = Jvm.exec) (hb : c.code = cc) (hdg : decode cc pc = .ok (.iload i, 2)) : Ru p l e R s m args below meth c cells slots Q nL D cI cZ cA ad A H0 (I_iload i 2) pc := by
  refine ⟨mono_iload _ _, fun L st σ h => ?_⟩
  revert h
  simp only [I_iload]
  split
  · rename_i v hv
    intro h H locs ls hl hP hS
    exact lv_iload hx hb hdg (hl.2.2.2.2 _ _ hv nofun) (h H locs ls hl hP hS)
  · exact fun h => h.elim
theorem ru_aload_n {pc : Nat} {k : Fin 4} (hx : p.tables.exec = Jvm.exec) (hb : c.code = cc) (hdg : decode cc pc = .ok (.aload_n k, 1)) : Ru p l e R s m args below meth c cells slots Q nL D cI cZ cA ad A H0 (I_aload k 1) pc := by
  refine ⟨mono_aload _ _, fun L st σ h => ?_⟩
  revert h
  simp only [I_aload]
  split
  · rename_i v hv
    intro h H locs ls hl hP hS
    exact lv_aload_n hx hb hdg rfl (hl.2.2.2.2 _ _ hv nofun) (h H locs ls hl hP hS)
  · exact fun h => h.elim
theorem ru_aload {pc i : Nat} (hx : p.tables.exec = Jvm.exec) (hb : c.code = cc) (hdg : decode cc pc = .ok (.aload i, 2)) : Ru p l e R s m args below meth c cells slots Q nL D cI cZ cA ad A H0 (I_aload i 2) pc := by
  refine ⟨mono_aload _ _, fun L st σ h => ?_⟩
  revert h
  simp only [I_aload]
  split
  · rename_i v hv
    intro h H locs ls hl hP hS
    exact lv_aload hx hb hdg (hl.2.2.2.2 _ _ hv nofun) (h H locs ls hl hP hS)
  · exact fun h => h.elim
theorem ru_iconst {pc : Nat} {n : Int} {v : Int32} (hx : p.tables.exec = Jvm.exec) (hb : c.code = cc) (hdg : decode cc pc = .ok (.iconst n, 1)) (hv : Int32.ofInt n = v) : Ru p l e R s m args below meth c cells slots Q nL D cI cZ cA ad A H0 (I_const v 1) pc :=
  ⟨mono_const _ _, fun L st σ h H locs ls hl hP hS => lv_iconst hx hb hdg hv (h H locs ls hl hP hS)⟩
theorem ru_bipush {pc : Nat} {n : Int} {v : Int32} (hx : p.tables.exec = Jvm.exec) (hb : c.code = cc) (hdg : decode cc pc = .ok (.bipush n, 2)) (hv : (Int8.ofInt n).toInt32 = v) : Ru p l e R s m args below meth c cells slots Q nL D cI cZ cA ad A H0 (I_const v 2) pc :=
  ⟨mono_const _ _, fun L st σ h H locs ls hl hP hS => lv_bipush hx hb hdg hv (h H locs ls hl hP hS)⟩
theorem ru_sipush {pc : Nat} {n : Int} {v : Int32} (hx : p.tables.exec = Jvm.exec) (hb : c.code = cc) (hdg : decode cc pc = .ok (.sipush n, 3)) (hv : (Int16.ofInt n).toInt32 = v) : Ru p l e R s m args below meth c cells slots Q nL D cI cZ cA ad A H0 (I_const v 3) pc :=
  ⟨mono_const _ _, fun L st σ h H locs ls hl hP hS => lv_sipush hx hb hdg hv (h H locs ls hl hP hS)⟩
theorem ru_goto {pc : Nat} {off : Int} {tgt : Nat} (hx : p.tables.exec = Jvm.exec) (hb : c.code = cc) (hdg : decode cc pc = .ok (.goto off, 3)) (ht : (pc : Int) + off = (tgt : Int)) : Ru p l e R s m args below meth c cells slots Q nL D cI cZ cA ad A H0 (I_goto tgt) pc :=
  ⟨mono_goto _, fun L st σ h H locs ls hl hP hS => lv_goto hx hb hdg ht (h H locs ls hl hP hS)⟩
theorem ru_istore_n {pc : Nat} {k : Fin 4} (hx : p.tables.exec = Jvm.exec) (hb : c.code = cc) (hdg : decode cc pc = .ok (.istore_n k, 1)) : Ru p l e R s m args below meth c cells slots Q nL D cI cZ cA ad A H0 (I_istore k 1) pc := by
  refine ⟨mono_istore _ _, fun L st σ h => ?_⟩
  revert h
  unfold I_istore
  split
  · rename_i pc' L' v st' σ' heq
    cases heq
    split
    · rename_i w hw
      intro h H locs ls hl hP hS
      have hi : (k : Nat) < nL := by
        have := (List.getElem?_eq_some_iff.mp hw).1
        rw [hl.2.2.1] at this
        exact this
      exact lv_istore_n hx hb hdg rfl (lhL_has hl) hi rfl (fun ls' hl' => h H locs ls' (lh_set hl rfl hl') hP hS)
    · exact fun h => h.elim
  · exact fun h => h.elim
theorem ru_istore {pc i : Nat} (hx : p.tables.exec = Jvm.exec) (hb : c.code = cc) (hdg : decode cc pc = .ok (.istore i, 2)) : Ru p l e R s m args below meth c cells slots Q nL D cI cZ cA ad A H0 (I_istore i 2) pc := by
  refine ⟨mono_istore _ _, fun L st σ h => ?_⟩
  revert h
  unfold I_istore
  split
  · rename_i pc' L' v st' σ' heq
    cases heq
    split
    · rename_i w hw
      intro h H locs ls hl hP hS
      have hi : i < nL := by
        have := (List.getElem?_eq_some_iff.mp hw).1
        rw [hl.2.2.1] at this
        exact this
      exact lv_istore hx hb hdg (lhL_has hl) hi rfl (fun ls' hl' => h H locs ls' (lh_set hl rfl hl') hP hS)
    · exact fun h => h.elim
  · exact fun h => h.elim
theorem ru_iinc {pc i : Nat} {n : Int} {v : Int32} (hx : p.tables.exec = Jvm.exec) (hb : c.code = cc) (hdg : decode cc pc = .ok (.iinc i n, 3)) (hv : Int32.ofInt n = v) : Ru p l e R s m args below meth c cells slots Q nL D cI cZ cA ad A H0 (I_iinc i v) pc := by
  subst hv
  refine ⟨mono_iinc _ _, fun L st σ h => ?_⟩
  revert h
  simp only [I_iinc]
  split
  · rename_i w hw
    intro h H locs ls hl hP hS
    have hi : i < nL := by
      have := (List.getElem?_eq_some_iff.mp hw).1
      rw [hl.2.2.1] at this
      exact this
    obtain ⟨k, hk⟩ := List.mem_iff_getElem?.mp (lhL_in (ad := ad) hw nofun)
    exact lv_iinc hx hb hdg (lhL_has hl) hk rfl hi rfl (fun ls' hl' => h H locs ls' (lh_set hl rfl hl') hP hS)
  · exact fun h => h.elim
theorem ru_bin {pc : Nat} {f : Int32 → Int32 → Int32} (hW : ∀ (H : Heap) (locs : List Loc) (ls : Array Slot) (rest : List Value) (x y : Int32), W p l e R s m args below meth c H locs cells slots Q (F0 m (pc + 1) ls (.int (f x y) :: rest)) → W p l e R s m args below meth c H locs cells slots Q (F0 m pc ls (.int y :: .int x :: rest))) : Ru p l e R s m args below meth c cells slots Q nL D cI cZ cA ad A H0 (I_bin f) pc := by
  refine ⟨mono_bin _, fun L st σ h => ?_⟩
  revert h
  unfold I_bin
  split
  · rename_i heq
    cases heq
    intro h H locs ls hl hP hS
    exact hW _ _ _ _ _ _ (h H locs ls hl hP hS)
  · exact fun h => h.elim
theorem ru_div {pc : Nat} {f : Int32 → Int32 → Int32} (hW : ∀ (H : Heap) (locs : List Loc) (ls : Array Slot) (rest : List Value) (x y : Int32), ¬ y = 0 → W p l e R s m args below meth c H locs cells slots Q (F0 m (pc + 1) ls (.int (f x y) :: rest)) → W p l e R s m args below meth c H locs cells slots Q (F0 m pc ls (.int y :: .int x :: rest))) : Ru p l e R s m args below meth c cells slots Q nL D cI cZ cA ad A H0 (I_div f) pc := by
  refine ⟨mono_div _, fun L st σ h => ?_⟩
  revert h
  unfold I_div
  split
  · rename_i heq
    cases heq
    intro h H locs ls hl hP hS
    exact hW _ _ _ _ _ _ h.1 (h.2 H locs ls hl hP hS)
  · exact fun h => h.elim
theorem ru_iadd {pc : Nat} (hx : p.tables.exec = Jvm.exec) (hb : c.code = cc) (hdg : decode cc pc = .ok (.iadd, 1)) : Ru p l e R s m args below meth c cells slots Q nL D cI cZ cA ad A H0 (I_bin fun x y => x + y) pc := ru_bin fun _ _ _ _ _ _ k => lv_iadd hx hb hdg k
theorem ru_isub {pc : Nat} (hx : p.tables.exec = Jvm.exec) (hb : c.code = cc) (hdg : decode cc pc = .ok (.isub, 1)) : Ru p l e R s m args below meth c cells slots Q nL D cI cZ cA ad A H0 (I_bin fun x y => x - y) pc := ru_bin fun _ _ _ _ _ _ k => lv_isub hx hb hdg k
theorem ru_imul {pc : Nat} (hx : p.tables.exec = Jvm.exec) (hb : c.code = cc) (hdg : decode cc pc = .ok (.imul, 1)) : Ru p l e R s m args below meth c cells slots Q nL D cI cZ cA ad A H0 (I_bin fun x y => x * y) pc := ru_bin fun _ _ _ _ _ _ k => lv_imul hx hb hdg k
theorem ru_ior {pc : Nat} (hx : p.tables.exec = Jvm.exec) (hb : c.code = cc) (hdg : decode cc pc = .ok (.ior, 1)) : Ru p l e R s m args below meth c cells slots Q nL D cI cZ cA ad A H0 (I_bin fun x y => x ||| y) pc := ru_bin fun _ _ _ _ _ _ k => lv_ior hx hb hdg k
theorem ru_iand {pc : Nat} (hx : p.tables.exec = Jvm.exec) (hb : c.code = cc) (hdg : decode cc pc = .ok (.iand, 1)) : Ru p l e R s m args below meth c cells slots Q nL D cI cZ cA ad A H0 (I_bin fun x y => x &&& y) pc := ru_bin fun _ _ _ _ _ _ k => lv_iand hx hb hdg k
theorem ru_ishl {pc : Nat} (hx : p.tables.exec = Jvm.exec) (hb : c.code = cc) (hdg : decode cc pc = .ok (.ishl, 1)) : Ru p l e R s m args below meth c cells slots Q nL D cI cZ cA ad A H0 (I_bin fun x y => x <<< (y &&& 31)) pc := ru_bin fun _ _ _ _ _ _ k => lv_ishl hx hb hdg k
theorem ru_ishr {pc : Nat} (hx : p.tables.exec = Jvm.exec) (hb : c.code = cc) (hdg : decode cc pc = .ok (.ishr, 1)) : Ru p l e R s m args below meth c cells slots Q nL D cI cZ cA ad A H0 (I_bin fun x y => x >>> (y &&& 31)) pc := ru_bin fun _ _ _ _ _ _ k => lv_ishr hx hb hdg k
theorem ru_idiv {pc : Nat} (hx : p.tables.exec = Jvm.exec) (hb : c.code = cc) (hdg : decode cc pc = .ok (.idiv, 1)) : Ru p l e R s m args below meth c cells slots Q nL D cI cZ cA ad A H0 (I_div fun x y => x / y) pc := ru_div fun _ _ _ _ _ _ hn k => lv_idiv hx hb hdg hn k
theorem ru_irem {pc : Nat} (hx : p.tables.exec = Jvm.exec) (hb : c.code = cc) (hdg : decode cc pc = .ok (.irem, 1)) : Ru p l e R s m args below meth c cells slots Q nL D cI cZ cA ad A H0 (I_div fun x y => x - x / y * y) pc := ru_div fun _ _ _ _ _ _ hn k => lv_irem hx hb hdg hn k
theorem ru_dup {pc : Nat} (hx : p.tables.exec = Jvm.exec) (hb : c.code = cc) (hdg : decode cc pc = .ok (.dup, 1)) : Ru p l e R s m args below meth c cells slots Q nL D cI cZ cA ad A H0 I_dup pc := by
  refine ⟨mono_dup, fun L st σ h => ?_⟩
  revert h
  unfold I_dup
  split
  · rename_i heq
    cases heq
    intro h H locs ls hl hP hS
    exact lv_dup hx hb hdg rfl (h H locs ls hl hP hS)
  · rename_i heq
    cases heq
    intro h H locs ls hl hP hS
    exact lv_dup hx hb hdg rfl (h H locs ls hl hP hS)
  · exact fun h => h.elim
theorem ru_dup2 {pc : Nat} (hx : p.tables.exec = Jvm.exec) (hb : c.code = cc) (hdg : decode cc pc = .ok (.dup2, 1)) : Ru p l e R s m args below meth c cells slots Q nL D cI cZ cA ad A H0 I_dup2 pc := by
  refine ⟨mono_dup2, fun L st σ h => ?_⟩
  revert h
  unfold I_dup2
  split
  · rename_i heq
    cases heq
    intro h H locs ls hl hP hS
    exact lv_dup2_11 hx hb hdg rfl rfl (h H locs ls hl hP hS)
  · exact fun h => h.elim
theorem ru_if {pc tgt : Nat} {cd : Int32 → Prop} (hW : ∀ (H : Heap) (locs : List Loc) (ls : Array Slot) (rest : List Value) (x : Int32), (cd x → W p l e R s m args below meth c H locs cells slots Q (F0 m tgt ls rest)) → (¬ cd x → W p l e R s m args below meth c H locs cells slots Q (F0 m (pc + 3) ls rest)) → W p l e R s m args below meth c H locs cells slots Q (F0 m pc ls (.int x :: rest))) : Ru p l e R s m args below meth c cells slots Q nL D cI cZ cA ad A H0 (I_if cd tgt) pc := by
  refine ⟨mono_if _ _, fun L st σ h => ?_⟩
  revert h
  unfold I_if
  split
  · rename_i heq
    cases heq
    intro h H locs ls hl hP hS
    exact hW _ _ _ _ _ (fun q => h.1 q H locs ls hl hP hS) (fun q => h.2 q H locs ls hl hP hS)
  · exact fun h => h.elim
theorem ru_icmp {pc tgt : Nat} {cd : Int32 → Int32 → Prop} (hW : ∀ (H : Heap) (locs : List Loc) (ls : Array Slot) (rest : List Value) (x y : Int32), (cd x y → W p l e R s m args below meth c H locs cells slots Q (F0 m tgt ls rest)) → (¬ cd x y → W p l e R s m args below meth c H locs cells slots Q (F0 m (pc + 3) ls rest)) → W p l e R s m args below meth c H locs cells slots Q (F0 m pc ls (.int y :: .int x :: rest))) : Ru p l e R s m args below meth c cells slots Q nL D cI cZ cA ad A H0 (I_icmp cd tgt) pc := by
  refine ⟨mono_icmp _ _, fun L st σ h => ?_⟩
  revert h
  unfold I_icmp
  split
  · rename_i heq
    cases heq
    intro h H locs ls hl hP hS
    exact hW _ _ _ _ _ _ (fun q => h.1 q H locs ls hl hP hS) (fun q => h.2 q H locs ls hl hP hS)
  · exact fun h => h.elim
theorem ru_ifeq {pc tgt : Nat} {off : Int} (hx : p.tables.exec = Jvm.exec) (hb : c.code = cc) (hdg : decode cc pc = .ok (.ifCond .eq off, 3)) (ht : (pc : Int) + off = (tgt : Int)) : Ru p l e R s m args below meth c cells slots Q nL D cI cZ cA ad A H0 (I_if (fun x => x = 0) tgt) pc := ru_if fun _ _ _ _ _ a b => lv_if_eq hx hb hdg ht a b
theorem ru_ifne {pc tgt : Nat} {off : Int} (hx : p.tables.exec = Jvm.exec) (hb : c.code = cc) (hdg : decode cc pc = .ok (.ifCond .ne off, 3)) (ht : (pc : Int) + off = (tgt : Int)) : Ru p l e R s m args below meth c cells slots Q nL D cI cZ cA ad A H0 (I_if (fun x => ¬ x = 0) tgt) pc := ru_if fun _ _ _ _ _ a b => lv_if_ne hx hb hdg ht a (fun q => b (fun z => z q))
theorem ru_iflt {pc tgt : Nat} {off : Int} (hx : p.tables.exec = Jvm.exec) (hb : c.code = cc) (hdg : decode cc pc = .ok (.ifCond .lt off, 3)) (ht : (pc : Int) + off = (tgt : Int)) : Ru p l e R s m args below meth c cells slots Q nL D cI cZ cA ad A H0 (I_if (fun x => x < 0) tgt) pc := ru_if fun _ _ _ _ _ a b => lv_if_lt hx hb hdg ht a b
theorem ru_ifle {pc tgt : Nat} {off : Int} (hx : p.tables.exec = Jvm.exec) (hb : c.code = cc) (hdg : decode cc pc = .ok (.ifCond .le off, 3)) (ht : (pc : Int) + off = (tgt : Int)) : Ru p l e R s m args below meth c cells slots Q nL D cI cZ cA ad A H0 (I_if (fun x => x ≤ 0) tgt) pc := ru_if fun _ _ _ _ _ a b => lv_if_le hx hb hdg ht a b
theorem ru_icmpeq {pc tgt : Nat} {off : Int} (hx : p.tables.exec = Jvm.exec) (hb : c.code = cc) (hdg : decode cc pc = .ok (.if_icmp .eq off, 3)) (ht : (pc : Int) + off = (tgt : Int)) : Ru p l e R s m args below meth c cells slots Q nL D cI cZ cA ad A H0 (I_icmp (fun x y => x = y) tgt) pc := ru_icmp fun _ _ _ _ _ _ a b => lv_icmp_eq hx hb hdg ht a b
theorem ru_icmpne {pc tgt : Nat} {off : Int} (hx : p.tables.exec = Jvm.exec) (hb : c.code = cc) (hdg : decode cc pc = .ok (.if_icmp .ne off, 3)) (ht : (pc : Int) + off = (tgt : Int)) : Ru p l e R s m args below meth c cells slots Q nL D cI cZ cA ad A H0 (I_icmp (fun x y => ¬ x = y) tgt) pc := ru_icmp fun _ _ _ _ _ _ a b => lv_icmp_ne hx hb hdg ht a (fun q => b (fun z => z q))
theorem ru_icmplt {pc tgt : Nat} {off : Int} (hx : p.tables.exec = Jvm.exec) (hb : c.code = cc) (hdg : decode cc pc = .ok (.if_icmp .lt off, 3)) (ht : (pc : Int) + off = (tgt : Int)) : Ru p l e R s m args below meth c cells slots Q nL D cI cZ cA ad A H0 (I_icmp (fun x y => x < y) tgt) pc := ru_icmp fun _ _ _ _ _ _ a b => lv_icmp_lt hx hb hdg ht a b
theorem ru_icmpge {pc tgt : Nat} {off : Int} (hx : p.tables.exec = Jvm.exec) (hb : c.code = cc) (hdg : decode cc pc = .ok (.if_icmp .ge off, 3)) (ht : (pc : Int) + off = (tgt : Int)) : Ru p l e R s m args below meth c cells slots Q nL D cI cZ cA ad A H0 (I_icmp (fun x y => y ≤ x) tgt) pc := ru_icmp fun _ _ _ _ _ _ a b => lv_icmp_ge hx hb hdg ht a b
theorem ru_icmpgt {pc tgt : Nat} {off : Int} (hx : p.tables.exec = Jvm.exec) (hb : c.code = cc) (hdg : decode cc pc = .ok (.if_icmp .gt off, 3)) (ht : (pc : Int) + off = (tgt : Int)) : Ru p l e R s m args below meth c cells slots Q nL D cI cZ cA ad A H0 (I_icmp (fun x y => y < x) tgt) pc := ru_icmp fun _ _ _ _ _ _ a b => lv_icmp_gt hx hb hdg ht a b
theorem ru_icmple {pc tgt : Nat} {off : Int} (hx : p.tables.exec = Jvm.exec) (hb : c.code = cc) (hdg : decode cc pc = .ok (.if_icmp .le off, 3)) (ht : (pc : Int) + off = (tgt : Int)) : Ru p l e R s m args below meth c cells slots Q nL D cI cZ cA ad A H0 (I_icmp (fun x y => x ≤ y) tgt) pc := ru_icmp fun _ _ _ _ _ _ a b => lv_icmp_le hx hb hdg ht a b
theorem wl_obj {σ : aM} {o : Nat} (h : o < 7) : (wl cI cZ cA ad σ)[o]? = some (ad o, .inr (cn o, fsL ad (σ o) 0 (ft o))) := by
  rw [wl_at (by omega), cellE_obj h]
theorem wl_putI {σ : aM} {o j : Nat} {v : Int32} (h : o < 7) (hf : (ft o)[j]? = some none) : (wl cI cZ cA ad σ).set o (ad o, .inr (cn o, (fsL ad (σ o) 0 (ft o)).set j (.int v))) = wl cI cZ cA ad (mput σ o j v) := by
  refine wl_set ?_
  rw [cellE_obj h, fsL_set _ 0 j hf]
  simp [mput]
theorem ru_getI {pc o j index N : Nat} {C ref : String} {T : u_T} (hx : p.tables.exec = Jvm.exec) (hb : c.code = cc) (hown : s.vm.findClass own = some m.cls) (hK : va_K D vwCl (TY cI cZ cA) s) (hts : ∀ w ∈ Ts, w.before args s = true) (hin : ∀ w ∈ u_ws C T N, w ∈ Ts) (ho : o < 7) (hc : vwCl[cn o]? = some (C, T, N)) (hf : (ft o)[j]? = some none) (hj : j < N) (hr : ref = (T j).1)
    (hlink : (Cond.fieldLink own index ref (T j).2.1 (T j).2.2.1) ∈ Ts) (hdg : decode cc pc = .ok (.getfield index, 3)) : Ru p l e R s m args below meth c cells slots Q nL D cI cZ cA ad A H0 (I_getI o j) pc := by
  refine ⟨mono_getI _ _, fun L st σ h => ?_⟩
  revert h
  unfold I_getI
  split
  · rename_i pc' L' a st' σ' heq
    cases heq
    cases hao : Nat.beq a o with
    | false => exact fun h => h.elim
    | true =>
      have := Nat.eq_of_beq_eq_true hao
      subst this
      intro h H locs ls hl hP hS
      exact va_get hx hb hts hin hown hK hP a (wl_obj ho) hc j hj (hts _ hlink) (fun x h9 => by rw [hr]; exact h9) (by rw [fsL_int _ 0 j hf, Nat.zero_add]; rfl) hdg (h H locs ls hl hP hS)
  · exact fun h => h.elim
theorem ru_getIN {pc o j index N : Nat} {C ref : String} {T : u_T} (hx : p.tables.exec = Jvm.exec) (hb : c.code = cc) (hown : s.vm.findClass own = some m.cls) (hK : va_K D vwCl (TY cI cZ cA) s) (hN : NW s) (hts : ∀ w ∈ Ts, w.before args s = true) (hin : ∀ w ∈ u_ws C T N, w ∈ Ts) (ho : o < 7) (hc : vwCl[cn o]? = some (C, T, N)) (hf : (ft o)[j]? = some none) (hj : j < N) (hr : ref = (T j).1)
    (hlink : (Cond.fieldLinkNest own index ref (T j).2.1 (T j).2.2.1 "CueTour") ∈ nwL) (hdg : decode cc pc = .ok (.getfield index, 3)) : Ru p l e R s m args below meth c cells slots Q nL D cI cZ cA ad A H0 (I_getI o j) pc := by
  refine ⟨mono_getI _ _, fun L st σ h => ?_⟩
  revert h
  unfold I_getI
  split
  · rename_i pc' L' a st' σ' heq
    cases heq
    cases hao : Nat.beq a o with
    | false => exact fun h => h.elim
    | true =>
      have := Nat.eq_of_beq_eq_true hao
      subst this
      intro h H locs ls hl hP hS
      exact va_getN hx hb hts hin hown hK hP a (wl_obj ho) hc j hj (va_Nw.use rfl (hN _ hlink)) (fun x h9 => by rw [hr]; exact h9) (by rw [fsL_int _ 0 j hf, Nat.zero_add]; rfl) hdg (h H locs ls hl hP hS)
  · exact fun h => h.elim
theorem ru_getR {pc o j k index N : Nat} {C ref : String} {T : u_T} (hx : p.tables.exec = Jvm.exec) (hb : c.code = cc) (hown : s.vm.findClass own = some m.cls) (hK : va_K D vwCl (TY cI cZ cA) s) (hts : ∀ w ∈ Ts, w.before args s = true) (hin : ∀ w ∈ u_ws C T N, w ∈ Ts) (ho : o < 7) (hc : vwCl[cn o]? = some (C, T, N)) (hf : (ft o)[j]? = some (some k)) (hj : j < N) (hr : ref = (T j).1)
    (hlink : (Cond.fieldLink own index ref (T j).2.1 (T j).2.2.1) ∈ Ts) (hdg : decode cc pc = .ok (.getfield index, 3)) : Ru p l e R s m args below meth c cells slots Q nL D cI cZ cA ad A H0 (I_getR o k) pc := by
  refine ⟨mono_getR _ _, fun L st σ h => ?_⟩
  revert h
  unfold I_getR
  split
  · rename_i pc' L' a st' σ' heq
    cases heq
    cases hao : Nat.beq a o with
    | false => exact fun h => h.elim
    | true =>
      have := Nat.eq_of_beq_eq_true hao
      subst this
      intro h H locs ls hl hP hS
      exact va_get hx hb hts hin hown hK hP a (wl_obj ho) hc j hj (hts _ hlink) (fun x h9 => by rw [hr]; exact h9) (fsL_ref _ 0 j hf) hdg (h H locs ls hl hP hS)
  · exact fun h => h.elim
theorem ru_getRN {pc o j k index N : Nat} {C ref : String} {T : u_T} (hx : p.tables.exec = Jvm.exec) (hb : c.code = cc) (hown : s.vm.findClass own = some m.cls) (hK : va_K D vwCl (TY cI cZ cA) s) (hN : NW s) (hts : ∀ w ∈ Ts, w.before args s = true) (hin : ∀ w ∈ u_ws C T N, w ∈ Ts) (ho : o < 7) (hc : vwCl[cn o]? = some (C, T, N)) (hf : (ft o)[j]? = some (some k)) (hj : j < N) (hr : ref = (T j).1)
    (hlink : (Cond.fieldLinkNest own index ref (T j).2.1 (T j).2.2.1 "CueTour") ∈ nwL) (hdg : decode cc pc = .ok (.getfield index, 3)) : Ru p l e R s m args below meth c cells slots Q nL D cI cZ cA ad A H0 (I_getR o k) pc := by
  refine ⟨mono_getR _ _, fun L st σ h => ?_⟩
  revert h
  unfold I_getR
  split
  · rename_i pc' L' a st' σ' heq
    cases heq
    cases hao : Nat.beq a o with
    | false => exact fun h => h.elim
    | true =>
      have := Nat.eq_of_beq_eq_true hao
      subst this
      intro h H locs ls hl hP hS
      exact va_getN hx hb hts hin hown hK hP a (wl_obj ho) hc j hj (va_Nw.use rfl (hN _ hlink)) (fun x h9 => by rw [hr]; exact h9) (fsL_ref _ 0 j hf) hdg (h H locs ls hl hP hS)
  · exact fun h => h.elim
theorem ru_putI {pc o j index N sz : Nat} {C ref : String} {T : u_T} (hx : p.tables.exec = Jvm.exec) (hb : c.code = cc) (hown : s.vm.findClass own = some m.cls) (hK : va_K D vwCl (TY cI cZ cA) s) (hi : adI ad) (hts : ∀ w ∈ Ts, w.before args s = true) (hin : ∀ w ∈ u_ws C T N, w ∈ Ts) (ty0 : Nat → FieldType) (hty : ∀ k, k < N → parseFieldDescriptor (T k).2.2.1 = some (ty0 k)) (hnm : ∀ a, a < N → ∀ b, b < N → a ≠ b → (T a).2.1 ≠ (T b).2.1) (ho : o < 7) (hc : vwCl[cn o]? = some (C, T, N)) (hf : (ft o)[j]? = some none) (hj : j < N) (hr : ref = (T j).1)
    (hlink : (Cond.fieldLink own index ref (T j).2.1 (T j).2.2.1) ∈ Ts) (hfin : (T j).2.2.2 = false) (hd : parseFieldDescriptor (T j).2.2.1 = some .int) (hdg : decode cc pc = .ok (.putfield index, 3)) : Ru p l e R s m args below meth c cells slots Q nL D cI cZ cA ad (AA ad sz) H0 (I_putI o j) pc := by
  refine ⟨mono_putI _ _, fun L st σ h => ?_⟩
  revert h
  unfold I_putI
  split
  · rename_i pc' L' v a st' σ' heq
    cases heq
    cases hao : Nat.beq a o with
    | false => exact fun h => h.elim
    | true =>
      have := Nat.eq_of_beq_eq_true hao
      subst this
      intro h H locs ls hl hP hS
      refine va_put (ty := .int) hx hb hts hin ty0 hty hnm hown hK hP (wl_D hi σ sz) hS a (wl_obj ho) hc j hj (hts _ hlink) (fun x h9 => by rw [hr]; exact h9) hfin hd rfl rfl (by rw [fsL_len]; exact (List.getElem?_eq_some_iff.mp hf).1) hdg (fun H1 locs1 hP1 hD1 hS1 => ?_)
      have hP1 : va_P D vwCl ((wl cI cZ cA ad σ).set a (ad a, .inr (cn a, (fsL ad (σ a) 0 (ft a)).set j (.int v)))) H1 := hP1
      rw [wl_putI ho hf] at hP1
      exact h H1 locs1 ls hl hP1 hS1
  · exact fun h => h.elim
theorem ru_iald {pc : Nat} (hx : p.tables.exec = Jvm.exec) (hb : c.code = cc) (hK : va_K D vwCl (TY cI cZ cA) s) (hdg : decode cc pc = .ok (.iaload, 1)) : Ru p l e R s m args below meth c cells slots Q nL D cI cZ cA ad A H0 I_iald pc := by
  refine ⟨mono_iald, fun L st σ h => ?_⟩
  revert h
  unfold I_iald
  split
  · rename_i heq
    cases heq
    intro h H locs ls hl hP hS
    exact va_iald hx hb hK hP _ 0 (by rw [wl_at (kd_lt (Or.inl h.1)).2, cellE_int h.1]) rfl (inb_in h.2.1) hdg (h.2.2 H locs ls hl hP hS)
  · exact fun h => h.elim
theorem ru_zald {pc : Nat} (hx : p.tables.exec = Jvm.exec) (hb : c.code = cc) (hK : va_K D vwCl (TY cI cZ cA) s) (hdg : decode cc pc = .ok (.baload, 1)) : Ru p l e R s m args below meth c cells slots Q nL D cI cZ cA ad A H0 I_zald pc := by
  refine ⟨mono_zald, fun L st σ h => ?_⟩
  revert h
  unfold I_zald
  split
  · rename_i heq
    cases heq
    intro h H locs ls hl hP hS
    exact va_zald hx hb hK hP _ 1 (by rw [wl_at (kd_lt (Or.inr (Or.inl h.1))).2, cellE_bool h.1]) rfl (inb_in h.2.1) hdg (h.2.2 H locs ls hl hP hS)
  · exact fun h => h.elim
theorem ru_iast {pc sz : Nat} (hx : p.tables.exec = Jvm.exec) (hb : c.code = cc) (hK : va_K D vwCl (TY cI cZ cA) s) (hi : adI ad) (hdg : decode cc pc = .ok (.iastore, 1)) : Ru p l e R s m args below meth c cells slots Q nL D cI cZ cA ad (AA ad sz) H0 I_iast pc := by
  refine ⟨mono_iast, fun L st σ h => ?_⟩
  revert h
  unfold I_iast
  split
  · rename_i pc' L' v i a st' σ' heq
    cases heq
    intro h H locs ls hl hP hS
    refine va_iast hx hb hK hP (wl_D hi σ sz) hS a 0 (by rw [wl_at (kd_lt (Or.inl h.1)).2, cellE_int h.1]) rfl (inb_in h.2.1) hdg (fun H1 locs1 hP1 hD1 hS1 => ?_)
    rw [wl_set (k := a) (i := ix i) (v := v) (by rw [cellE_int h.1]; simp [mput, ix])] at hP1
    exact h.2.2 H1 locs1 ls hl hP1 hS1
  · exact fun h => h.elim
theorem nar_z {v : Int32} (h : v = 0 ∨ v = 1) : vp_nar .boolean v = v := by
  rcases h with rfl | rfl <;> rfl
theorem ru_zast {pc sz : Nat} (hx : p.tables.exec = Jvm.exec) (hb : c.code = cc) (hK : va_K D vwCl (TY cI cZ cA) s) (hi : adI ad) (hdg : decode cc pc = .ok (.bastore, 1)) : Ru p l e R s m args below meth c cells slots Q nL D cI cZ cA ad (AA ad sz) H0 I_zast pc := by
  refine ⟨mono_zast, fun L st σ h => ?_⟩
  revert h
  unfold I_zast
  split
  · rename_i pc' L' v i a st' σ' heq
    cases heq
    intro h H locs ls hl hP hS
    refine va_zast hx hb hK hP (wl_D hi σ sz) hS a 1 (by rw [wl_at (kd_lt (Or.inr (Or.inl h.1))).2, cellE_bool h.1]) rfl (inb_in h.2.1) hdg (fun H1 locs1 hP1 hD1 hS1 => ?_)
    rw [nar_z h.2.2.1, wl_set (k := a) (i := ix i) (v := v) (by rw [cellE_bool h.1]; simp [mput, ix])] at hP1
    exact h.2.2.2 H1 locs1 ls hl hP1 hS1
  · exact fun h => h.elim
theorem ru_aald {pc : Nat} (hx : p.tables.exec = Jvm.exec) (hb : c.code = cc) (hK : va_K D vwCl (TY cI cZ cA) s) (hdg : decode cc pc = .ok (.aaload, 1)) : Ru p l e R s m args below meth c cells slots Q nL D cI cZ cA ad A H0 I_aald pc := by
  refine ⟨mono_aald, fun L st σ h => ?_⟩
  revert h
  unfold I_aald
  split
  · rename_i pc' L' i a st' σ' heq
    cases heq
    intro h H locs ls hl hP hS
    have hin := inb_in h.2.1
    have hlt : i.toNatClampNeg < ln a := Nat.not_le.mp fun q => hin (Or.inr q)
    have hc := hP a _ (by rw [wl_at (kd_lt (Or.inr (Or.inr h.1))).2, cellE_rows h.1])
    refine W.aald (v := .ref (ad (rb a + ix i))) (ty := .array .int) hx hb hc ((hK.2 2 _ rfl).1 (ln a) (fun j => va_rf (if j < ln a then some (ad (rb a + j)) else none))) rfl (fun q => by cases q) (by show ¬ (i < 0 ∨ (arrV _ _ _).slots.size ≤ _); rw [arrV_size]; exact hin) (by show (arrV _ _ _).slots[_]? = _; rw [arrV_read _ _ hlt]; simp only [if_pos hlt]; rfl) rfl rfl hdg (h.2.2 H locs ls hl hP hS)
  · exact fun h => h.elim
end RULES
end
section
/-! contracts: a method answers what its function says, and the memory is what it says -/
abbrev BB (D : va_G) (cI cZ cA : ClassId) (ad : Nat → Nat) (u : aM) (t : State) : Prop := va_P D vwCl (wl cI cZ cA ad u) t.heap ∧ va_K D vwCl (TY cI cZ cA) t
abbrev PP (D : va_G) (cI cZ cA : ClassId) (ad : Nat → Nat) (sz : Nat) (σ : aM) (U : State) : Prop := U.heap.size = sz ∧ va_P D vwCl (wl cI cZ cA ad σ) U.heap ∧ va_K D vwCl (TY cI cZ cA) U ∧ NW U
/-- an int method (a boolean one too): pre: the receiver, if there is one -/
def CtI (l : Launch) (y : MethodName) (ws : List Cond) (rm : Room) (D : va_G) (cI cZ cA : ClassId) (ad : Nat → Nat) (pre : List Value) (F : aF) : Prop :=
  ∀ (sz : Nat) (As : List Value) (σ : aM) (r : Int32) (σ' : aM), F As σ = some (r, σ') → Met l y ws rm (va_Pc ((pre ++ As).map (cv ad)) (PP D cI cZ cA ad sz σ)) (va_Qi (fun (r2 : Int32) (u : aM) => r2 = r ∧ u = σ') (BB D cI cZ cA ad) (AA ad sz)) 0 0 (AA ad sz)
def CtV (l : Launch) (y : MethodName) (ws : List Cond) (rm : Room) (D : va_G) (cI cZ cA : ClassId) (ad : Nat → Nat) (pre : List Value) (F : aF) : Prop :=
  ∀ (sz : Nat) (As : List Value) (σ : aM) (r : Int32) (σ' : aM), F As σ = some (r, σ') → Met l y ws rm (va_Pc ((pre ++ As).map (cv ad)) (PP D cI cZ cA ad sz σ)) (va_Qv (fun (u : aM) => u = σ') (BB D cI cZ cA ad) (AA ad sz)) 0 0 (AA ad sz)
def ruL (P : aI → Nat → Prop) : Nat → List aI → Prop
  | _, [] => True
  | n, i :: t => P i n ∧ ruL P (n + 1) t
theorem ruL_get {P : aI → Nat → Prop} (hb : ∀ n, P I_bot n) : ∀ (T : List aI) (n k : Nat), ruL P n T → P (T.getD k I_bot) (n + k)
  | [], n, k, _ => by simpa using hb (n + k)
  | i :: t, n, 0, h => by simpa using h.1
  | i :: t, n, k + 1, h => by
    have := ruL_get hb t (n + 1) k h.2
    rw [show n + (k + 1) = n + 1 + k by omega]
    simpa using this
section CALLS
variable {p : Program} {l : Launch} {e : Env} {R : Room} {s : State} {m : MethodId} {args : Array Value} {below : List Frame} {meth : Method} {c : Code} {Q : State → Prop} {cells slots : Nat}
variable {cc : ByteArray} {nL : Nat} {D : va_G} {cI cZ cA : ClassId} {ad : Nat → Nat} {A : Nat → Prop} {H0 : Heap} {Ts : List Cond} {own : String}
theorem wp_WS {T : List aI} (h : ruL (Ru p l e R s m args below meth c cells slots Q nL D cI cZ cA ad A H0) 0 T) : ∀ (n : Nat) (x : aS), wp T n (WS p l e R s m args below meth c cells slots Q nL D cI cZ cA ad A H0) x → WS p l e R s m args below meth c cells slots Q nL D cI cZ cA ad A H0 x := by
  intro n
  induction n with
  | zero => exact fun x h => h
  | succ n ih =>
    intro x hx
    obtain ⟨pc, L, st, σ⟩ := x
    have hr := ruL_get (fun _ => ru_bot) T 0 pc h
    rw [Nat.zero_add] at hr
    exact hr.2 L st σ (hr.1 _ _ _ ih hx)
theorem lh_forget {ad : Nat → Nat} {ls : Array Slot} {n i : Nat} {L : List Value} (h : lh ad ls n L) : lh ad ls n (L.set i .null) := by
  refine ⟨h.1, h.2.1, by rw [List.length_set]; exact h.2.2.1, fun v hv => ?_, fun k v hk hv => ?_⟩
  · rcases List.mem_or_eq_of_mem_set hv with h1 | h1
    · exact h.2.2.2.1 v h1
    · rw [h1]; rfl
  · rw [List.getElem?_set] at hk
    by_cases e : i = k
    · rw [if_pos e] at hk
      split at hk
      · cases hk
        exact absurd rfl hv
      · cases hk
    · rw [if_neg e] at hk
      exact h.2.2.2.2 k v hk hv
theorem WS_forget {pc i : Nat} {L st : List Value} {σ : aM} (h : WS p l e R s m args below meth c cells slots Q nL D cI cZ cA ad A H0 (pc, L.set i .null, st, σ)) : WS p l e R s m args below meth c cells slots Q nL D cI cZ cA ad A H0 (pc, L, st, σ) := fun H locs ls hl hP hS => h H locs ls (lh_forget hl) hP hS
theorem AA_mono {ad : Nat → Nat} {a b : Nat} (h : a ≤ b) : ∀ q, AA ad b q → AA ad a q := fun q hq => hq.elim Or.inl (fun h2 => Or.inr (Nat.le_trans h h2))
theorem pp_blind {D : va_G} {cI cZ cA : ClassId} {ad : Nat → Nat} {av : List Value} {sz : Nat} {σ : aM} : FrameBlind (va_Pc av (PP D cI cZ cA ad sz σ)) := fun a U g mk q => by
  obtain ⟨q0, q1, qP, qK, qN⟩ := q
  exact ⟨q0, q1, qP, va_K.moved (u := U) (U := U.calling g mk a) (Vm.Alike.refl U.vm) qK, nw_same (u := U) (U := U.calling g mk a) rfl qN⟩
theorem catS_map {ad : Nat → Nat} {st : List Value} (h : catS st = true) : ((st.map (cv ad)).map fun v => v.category).sum ≤ 8 := by
  have e : (st.map (cv ad)).map (fun v => v.category) = st.map (fun v => v.category) := by
    rw [List.map_map]
    exact List.map_congr_left fun v _ => cv_cat ad v
  rw [e]
  exact Nat.le_of_ble_eq_true h
theorem va_S_AA {H1 H2 : Heap} {ad : Nat → Nat} {locs : List Loc} (hS : va_S (AA ad H1.size) H1 H2 locs) : ∀ q, AA ad H2.size q → AA ad H1.size q := AA_mono hS.1
theorem ru_callV {pc o n index maxL : Nat} {C : String} {T : u_T} {N : Nat} {y : MethodName} {bytes : ByteArray} {ret : Option FieldType} {ws : List Cond} {rm : Room} {F : aF} (hx : p.tables.exec = Jvm.exec) (hb : c.code = cc) (hml : c.maxLocals = nL) (hown : s.vm.findClass own = some m.cls) (hts : ∀ w ∈ Ts, w.before args s = true) (hK : va_K D vwCl (TY cI cZ cA) s) (hN : NW s) (ho : o < 7) (hc : vwCl[cn o]? = some (C, T, N))
    (hM : CtI l y ws rm D cI cZ cA ad [.ref o] F) (cw : CallW R s args own C index y bytes maxL ret ws rm 0 0 n) (hdg : decode cc pc = .ok (.invokevirtual index, 3)) (hroom : cells ≤ R.cells ∧ slots ≤ R.slots) : Ru p l e R s m args below meth c cells slots Q nL D cI cZ cA ad (AA ad H0.size) H0 (I_callV o n F) pc := by
  refine ⟨mono_callV _ _ _, fun L st σ h => ?_⟩
  revert h
  simp only [I_callV]
  split
  · rename_i a rest hd
    cases hao : Nat.beq a o && catS rest with
    | false => exact fun h => h.elim
    | true =>
      rw [Bool.and_eq_true] at hao
      have := Nat.eq_of_beq_eq_true hao.1
      subst this
      intro h H locs ls hl hP hS
      obtain ⟨r, σ', hF, hk⟩ := h
      have hlen : n ≤ st.length := by
        have := congrArg List.length hd
        rw [List.length_drop] at this
        simp at this
        omega
      have est : st.map (cv ad) = (((st.take n).reverse).map (cv ad)).reverse ++ .ref (ad a) :: rest.map (cv ad) := by
        rw [List.map_reverse, List.reverse_reverse]
        conv => lhs; rw [← List.take_append_drop n st, hd]
        rw [List.map_append]
        rfl
      show W p l e R s m args below meth c H locs cells slots Q (F0 m pc ls (st.map (cv ad)))
      rw [est]
      refine va_calli (mc := 0) (ms := 0) (va_runV (As := ((st.take n).reverse).map (cv ad)) (rest := rest.map (cv ad)) (b := ad a) ⟨hx, hb, hml, hown, hts⟩ (hM H.size _ σ r σ' hF) cw ⟨pp_blind, va_recv hK hP hc (wl_obj ho), fun U hU hW => ⟨rfl, by rw [hU], by rw [hU]; exact hP, va_K.moved hW.alike hK, nw_warm hW hN⟩⟩ rfl (by simp; omega) hl.1 rfl (lv_room (catS_map hao.2)) hdg ⟨hroom.1, hroom.2⟩) hS (fun q _ h9 => va_S_AA hS q h9) (va_S_AA hS) (fun r2 u t H1 locs1 ht hvm hw hB hz1 hk1 hS1 => ?_)
      obtain ⟨rfl, rfl⟩ := hw
      obtain ⟨hP1, hK1⟩ := hB
      rw [ht] at hP1
      exact hk H1 locs1 ls hl hP1 hS1
  · exact fun h => h.elim
theorem ru_callVv {pc o n index maxL : Nat} {C : String} {T : u_T} {N : Nat} {y : MethodName} {bytes : ByteArray} {ret : Option FieldType} {ws : List Cond} {rm : Room} {F : aF} (hx : p.tables.exec = Jvm.exec) (hb : c.code = cc) (hml : c.maxLocals = nL) (hown : s.vm.findClass own = some m.cls) (hts : ∀ w ∈ Ts, w.before args s = true) (hK : va_K D vwCl (TY cI cZ cA) s) (hN : NW s) (ho : o < 7) (hc : vwCl[cn o]? = some (C, T, N))
    (hM : CtV l y ws rm D cI cZ cA ad [.ref o] F) (cw : CallW R s args own C index y bytes maxL ret ws rm 0 0 n) (hdg : decode cc pc = .ok (.invokevirtual index, 3)) (hroom : cells ≤ R.cells ∧ slots ≤ R.slots) : Ru p l e R s m args below meth c cells slots Q nL D cI cZ cA ad (AA ad H0.size) H0 (I_callVv o n F) pc := by
  refine ⟨mono_callVv _ _ _, fun L st σ h => ?_⟩
  revert h
  simp only [I_callVv]
  split
  · rename_i a rest hd
    cases hao : Nat.beq a o && catS rest with
    | false => exact fun h => h.elim
    | true =>
      rw [Bool.and_eq_true] at hao
      have := Nat.eq_of_beq_eq_true hao.1
      subst this
      intro h H locs ls hl hP hS
      obtain ⟨r, σ', hF, hk⟩ := h
      have hlen : n ≤ st.length := by
        have := congrArg List.length hd
        rw [List.length_drop] at this
        simp at this
        omega
      have est : st.map (cv ad) = (((st.take n).reverse).map (cv ad)).reverse ++ .ref (ad a) :: rest.map (cv ad) := by
        rw [List.map_reverse, List.reverse_reverse]
        conv => lhs; rw [← List.take_append_drop n st, hd]
        rw [List.map_append]
        rfl
      show W p l e R s m args below meth c H locs cells slots Q (F0 m pc ls (st.map (cv ad)))
      rw [est]
      refine va_callv (mc := 0) (ms := 0) (va_runV (As := ((st.take n).reverse).map (cv ad)) (rest := rest.map (cv ad)) (b := ad a) ⟨hx, hb, hml, hown, hts⟩ (hM H.size _ σ r σ' hF) cw ⟨pp_blind, va_recv hK hP hc (wl_obj ho), fun U hU hW => ⟨rfl, by rw [hU], by rw [hU]; exact hP, va_K.moved hW.alike hK, nw_warm hW hN⟩⟩ rfl (by simp; omega) hl.1 rfl (lv_room (catS_map hao.2)) hdg ⟨hroom.1, hroom.2⟩) hS (fun q _ h9 => va_S_AA hS q h9) (va_S_AA hS) (fun u t H1 locs1 ht hvm hw hB hz1 hk1 hS1 => ?_)
      subst hw
      obtain ⟨hP1, hK1⟩ := hB
      rw [ht] at hP1
      exact hk H1 locs1 ls hl hP1 hS1
  · exact fun h => h.elim
theorem ru_callS {pc n index maxL : Nat} {y : MethodName} {bytes : ByteArray} {ret : Option FieldType} {ws : List Cond} {rm : Room} {F : aF} (hx : p.tables.exec = Jvm.exec) (hb : c.code = cc) (hml : c.maxLocals = nL) (hown : s.vm.findClass own = some m.cls) (hts : ∀ w ∈ Ts, w.before args s = true) (hK : va_K D vwCl (TY cI cZ cA) s) (hN : NW s)
    (hM : CtI l y ws rm D cI cZ cA ad [] F) (cw : CallB R s args own index y bytes maxL ret ws rm 0 0 n ∧ (Cond.static y).before args s = true) (hdg : decode cc pc = .ok (.invokestatic index, 3)) (hroom : cells ≤ R.cells ∧ slots ≤ R.slots) : Ru p l e R s m args below meth c cells slots Q nL D cI cZ cA ad (AA ad H0.size) H0 (I_callS n F) pc := by
  refine ⟨mono_callS _ _, fun L st σ h => ?_⟩
  revert h
  simp only [I_callS]
  cases hao : Nat.ble n st.length && catS (st.drop n) with
  | false => exact fun h => h.elim
  | true =>
    rw [Bool.and_eq_true] at hao
    have hlen : n ≤ st.length := Nat.le_of_ble_eq_true hao.1
    intro h H locs ls hl hP hS
    obtain ⟨r, σ', hF, hk⟩ := h
    have est : st.map (cv ad) = (((st.take n).reverse).map (cv ad)).reverse ++ (st.drop n).map (cv ad) := by
      rw [List.map_reverse, List.reverse_reverse, ← List.map_append, List.take_append_drop]
    show W p l e R s m args below meth c H locs cells slots Q (F0 m pc ls (st.map (cv ad)))
    rw [est]
    refine va_calli (mc := 0) (ms := 0) (va_runS (As := ((st.take n).reverse).map (cv ad)) (rest := (st.drop n).map (cv ad)) ⟨hx, hb, hml, hown, hts⟩ (hM H.size _ σ r σ' hF) cw ⟨pp_blind, fun U hU hW => ⟨rfl, by rw [hU], by rw [hU]; exact hP, va_K.moved hW.alike hK, nw_warm hW hN⟩⟩ rfl (by simp; omega) hl.1 rfl (lv_room (catS_map hao.2)) hdg ⟨hroom.1, hroom.2⟩) hS (fun q _ h9 => va_S_AA hS q h9) (va_S_AA hS) (fun r2 u t H1 locs1 ht hvm hw hB hz1 hk1 hS1 => ?_)
    obtain ⟨rfl, rfl⟩ := hw
    obtain ⟨hP1, hK1⟩ := hB
    rw [ht] at hP1
    exact hk H1 locs1 ls hl hP1 hS1
/-- the room's part that a method has -/
theorem ru_iret {pc : Nat} {Qa : Int32 → aM → Prop} (hx : p.tables.exec = Jvm.exec) (hb : c.code = cc) (hK : va_K D vwCl (TY cI cZ cA) s) (hr : meth.sig.returnType = some .int) (hlocks : meth.locks = false) (hdg : decode cc pc = .ok (.ireturn, 1)) :
    Ru p l e R s m args below meth c 0 0 (MQ below (va_Qi Qa (BB D cI cZ cA ad) (AA ad s.heap.size)) args s 0 0 (AA ad s.heap.size)) nL D cI cZ cA ad (AA ad s.heap.size) s.heap (I_iret Qa) pc := by
  refine ⟨mono_iret _, fun L st σ h => ?_⟩
  revert h
  unfold I_iret
  split
  · rename_i pc' L' v σ' heq
    cases heq
    intro h H locs ls hl hP hS
    exact W.iret (v := v) hx hb hr (fun t ht hW => ⟨⟨v, σ, rfl, h, by rw [ht]; exact hP, va_K.moved hW.alike hK⟩, hS.F ht⟩) hS.2.2 hdg hlocks
  · exact fun h => h.elim
theorem ru_zret {pc : Nat} {Qa : Int32 → aM → Prop} (hx : p.tables.exec = Jvm.exec) (hb : c.code = cc) (hK : va_K D vwCl (TY cI cZ cA) s) (hr : meth.sig.returnType = some .boolean) (hlocks : meth.locks = false) (hdg : decode cc pc = .ok (.ireturn, 1)) :
    Ru p l e R s m args below meth c 0 0 (MQ below (va_Qi Qa (BB D cI cZ cA ad) (AA ad s.heap.size)) args s 0 0 (AA ad s.heap.size)) nL D cI cZ cA ad (AA ad s.heap.size) s.heap (I_zret Qa) pc := by
  refine ⟨mono_zret _, fun L st σ h => ?_⟩
  revert h
  unfold I_zret
  split
  · rename_i pc' L' v σ' heq
    cases heq
    intro h H locs ls hl hP hS
    exact W.zret (v := v) hx hb hr (by rcases h.1 with rfl | rfl <;> rfl) (fun t ht hW => ⟨⟨v, σ, rfl, h.2, by rw [ht]; exact hP, va_K.moved hW.alike hK⟩, hS.F ht⟩) hS.2.2 hdg hlocks
  · exact fun h => h.elim
theorem ru_vret {pc : Nat} {Qa : Int32 → aM → Prop} (hx : p.tables.exec = Jvm.exec) (hb : c.code = cc) (hK : va_K D vwCl (TY cI cZ cA) s) (hr : meth.sig.returnType = none) (hlocks : meth.locks = false) (hdg : decode cc pc = .ok (.return_, 1)) :
    Ru p l e R s m args below meth c 0 0 (MQ below (va_Qv (Qa 0) (BB D cI cZ cA ad) (AA ad s.heap.size)) args s 0 0 (AA ad s.heap.size)) nL D cI cZ cA ad (AA ad s.heap.size) s.heap (I_vret Qa) pc := by
  refine ⟨mono_vret _, fun L st σ h => ?_⟩
  revert h
  unfold I_vret
  split
  · rename_i pc' L' σ' heq
    cases heq
    intro h H locs ls hl hP hS
    exact W.vret hx hb hr (fun t ht hW => ⟨⟨σ, rfl, h, by rw [ht]; exact hP, va_K.moved hW.alike hK⟩, hS.F ht⟩) hS.2.2 hdg hlocks
  · exact fun h => h.elim
end CALLS
/-- what the rules of a method may use -/
def CX (p : Program) (s : State) (m : MethodId) (args : Array Value) (meth : Method) (c : Code) (cc : ByteArray) (nL : Nat) (ret : Option FieldType) (own : String) (ws : List Cond) (D : va_G) (cI cZ cA : ClassId) : Prop :=
  p.tables.exec = Jvm.exec ∧ c.code = cc ∧ c.maxLocals = nL ∧ s.vm.findClass own = some m.cls ∧ (∀ w ∈ ws, w.before args s = true) ∧ meth.sig.returnType = ret ∧ meth.locks = false ∧ va_K D vwCl (TY cI cZ cA) s ∧ NW s
def shp (pre : List Value) (n : Nat) (F : aF) : Prop := ∀ As σ r σ', F As σ = some (r, σ') → (∀ v ∈ pre ++ As, v.category = 1) ∧ (pre ++ As).length ≤ n
def runs (T : (Int32 → aM → Prop) → List aI) (pre : List Value) (n : Nat) (F : aF) : Prop := ∀ (Qa : Int32 → aM → Prop) (K : aS → Prop), (∀ k x, wp (T Qa) k K x → K x) → (∀ pc L i st σ, K (pc, L.set i .null, st, σ) → K (pc, L, st, σ)) → ∀ As σ r σ', F As σ = some (r, σ') → Qa r σ' → K (0, (pre ++ As) ++ List.replicate (n - (pre ++ As).length) .null, [], σ)
theorem mk_I {l : Launch} {y : MethodName} {ws ws' : List Cond} {f k : Nat} {D : va_G} {cI cZ cA : ClassId} {ad : Nat → Nat} {cc : ByteArray} {maxL : Nat} {ty : FieldType} (pre : List Value) (F : aF) (T : (Int32 → aM → Prop) → List aI) (hy : plainName y.cls = true) (hw : ws = Cond.code y cc maxL (some ty) :: ws')
    (hr : ∀ (p : Program) (e : Env) (s : State) (m : MethodId) (args : Array Value) (below : List Frame) (meth : Method) (c : Code) (Qa : Int32 → aM → Prop), CX p s m args meth c cc maxL (some ty) y.cls ws D cI cZ cA → ruL (Ru p l e { frames := f, cells := 0, slots := 0, locals := k } s m args below meth c 0 0 (MQ below (va_Qi Qa (BB D cI cZ cA ad) (AA ad s.heap.size)) args s 0 0 (AA ad s.heap.size)) maxL D cI cZ cA ad (AA ad s.heap.size) s.heap) 0 (T Qa))
    (hsh : shp pre maxL F) (hru : runs T pre maxL F) : CtI l y ws { frames := f, cells := 0, slots := 0, locals := k } D cI cZ cA ad pre F := by
  intro sz As σ r σ' hF
  refine Met.ofW (cc := cc) (maxL := maxL) (ret := some ty) hy hw ?_
  intro p e s m args below meth c s₁ B hml hv
  obtain ⟨rfl, hsz, hP, hK, hN⟩ := hv
  have hx := B.exec
  have hb := B.bytes
  have hrt := B.returns
  have hts := atoms_spec (ws := ws) B.pre
  have hown : s.vm.findClass y.cls = some m.cls := findClass_of_methodNamed B.named
  have hlocks := B.notSynchronized
  subst hsz
  obtain ⟨h1, h2⟩ := hsh As σ r σ' hF
  have hl := lh_entry (ad := ad) (pre ++ As) h1 h2
  rw [lg_entry_eq]
  have key := hr p e s m _ below meth c (fun r2 u => r2 = r ∧ u = σ') ⟨hx, hb, hml, hown, hts, hrt, hlocks, hK, hN⟩
  exact hru _ _ (wp_WS key) (fun pc L i st σ => WS_forget) As σ r σ' hF ⟨rfl, rfl⟩ s.heap [] _ hl hP va_S.rf
theorem mk_V {l : Launch} {y : MethodName} {ws ws' : List Cond} {f k : Nat} {D : va_G} {cI cZ cA : ClassId} {ad : Nat → Nat} {cc : ByteArray} {maxL : Nat} (pre : List Value) (F : aF) (T : (Int32 → aM → Prop) → List aI) (hy : plainName y.cls = true) (hw : ws = Cond.code y cc maxL none :: ws')
    (hr : ∀ (p : Program) (e : Env) (s : State) (m : MethodId) (args : Array Value) (below : List Frame) (meth : Method) (c : Code) (Qa : Int32 → aM → Prop), CX p s m args meth c cc maxL none y.cls ws D cI cZ cA → ruL (Ru p l e { frames := f, cells := 0, slots := 0, locals := k } s m args below meth c 0 0 (MQ below (va_Qv (Qa 0) (BB D cI cZ cA ad) (AA ad s.heap.size)) args s 0 0 (AA ad s.heap.size)) maxL D cI cZ cA ad (AA ad s.heap.size) s.heap) 0 (T Qa))
    (hsh : shp pre maxL F) (hru : runs T pre maxL F) : CtV l y ws { frames := f, cells := 0, slots := 0, locals := k } D cI cZ cA ad pre F := by
  intro sz As σ r σ' hF
  refine Met.ofW (cc := cc) (maxL := maxL) (ret := none) hy hw ?_
  intro p e s m args below meth c s₁ B hml hv
  obtain ⟨rfl, hsz, hP, hK, hN⟩ := hv
  have hx := B.exec
  have hb := B.bytes
  have hrt := B.returns
  have hts := atoms_spec (ws := ws) B.pre
  have hown : s.vm.findClass y.cls = some m.cls := findClass_of_methodNamed B.named
  have hlocks := B.notSynchronized
  subst hsz
  obtain ⟨h1, h2⟩ := hsh As σ r σ' hF
  have hl := lh_entry (ad := ad) (pre ++ As) h1 h2
  rw [lg_entry_eq]
  have key := hr p e s m _ below meth c (fun _ u => u = σ') ⟨hx, hb, hml, hown, hts, hrt, hlocks, hK, hN⟩
  exact hru _ _ (wp_WS key) (fun pc L i st σ => WS_forget) As σ r σ' hF rfl s.heap [] _ hl hP va_S.rf
end
section
/-! small things for the functions of the methods -/
def lf : Nat := 4000
def bnd (o : Option (Int32 × aM)) (f : Int32 → aM → Option (Int32 × aM)) : Option (Int32 × aM) := match o with
  | none => none
  | some (r, s) => f r s
theorem bnd_some {o : Option (Int32 × aM)} {f : Int32 → aM → Option (Int32 × aM)} {y : Int32 × aM} (h : bnd o f = some y) : ∃ r s, o = some (r, s) ∧ f r s = some y := by
  unfold bnd at h
  split at h
  · cases h
  · exact ⟨_, _, rfl, h⟩
theorem bnd_of {o : Option (Int32 × aM)} {f : Int32 → aM → Option (Int32 × aM)} {r : Int32} {s : aM} (h : o = some (r, s)) : bnd o f = f r s := by
  rw [h]; rfl
theorem ite_some {c : Prop} [Decidable c] {X : Option (Int32 × aM)} {y : Int32 × aM} (h : (if c then X else none) = some y) : c ∧ X = some y := by
  split at h
  · exact ⟨by assumption, h⟩
  · cases h
theorem ite_cases {c : Prop} [Decidable c] {X Y : Option (Int32 × aM)} {y : Int32 × aM} (h : (if c then X else Y) = some y) : (c ∧ X = some y) ∨ (¬ c ∧ Y = some y) := by
  split at h
  · exact Or.inl ⟨by assumption, h⟩
  · exact Or.inr ⟨by assumption, h⟩
theorem ruL_c {P : aI → Nat → Prop} {n n2 : Nat} {i : aI} {t : List aI} (e : n + 1 = n2) (h1 : P i n) (h2 : ruL P n2 t) : ruL P n (i :: t) := by
  subst e
  exact ⟨h1, h2⟩
theorem inb_lt {i : Int32} {n : Nat} (h : inb i n = true) : ix i < n := Nat.not_le.mp fun q => inb_in h (Or.inr q)
theorem row53_kd {i : Int32} (h : inb i 30 = true) : kd (58 + ix i) = 1 := by
  have := inb_lt h
  unfold kd
  rw [if_neg (by omega), if_neg (by omega), if_neg (by omega), if_neg (by omega), if_pos (by omega)]
theorem row54_kd {i : Int32} (h : inb i 20 = true) : kd (88 + ix i) = 1 := by
  have := inb_lt h
  unfold kd
  rw [if_neg (by omega), if_neg (by omega), if_neg (by omega), if_neg (by omega), if_pos (by omega)]
theorem row55_kd {i : Int32} (h : inb i 20 = true) : kd (108 + ix i) = 1 := by
  have := inb_lt h
  unfold kd
  rw [if_neg (by omega), if_neg (by omega), if_neg (by omega), if_neg (by omega), if_pos (by omega)]
theorem row56_kd {i : Int32} (h : inb i 30 = true) : kd (128 + ix i) = 1 := by
  have := inb_lt h
  unfold kd
  rw [if_neg (by omega), if_neg (by omega), if_neg (by omega), if_neg (by omega), if_pos (by omega)]
theorem row57_kd {i : Int32} (h : inb i 20 = true) : kd (158 + ix i) = 1 := by
  have := inb_lt h
  unfold kd
  rw [if_neg (by omega), if_neg (by omega), if_neg (by omega), if_neg (by omega), if_pos (by omega)]
theorem row53_ln {i : Int32} (h : inb i 30 = true) : ln (58 + ix i) = 4 := by
  have := inb_lt h
  unfold ln
  rw [if_neg (by omega), if_pos (by omega)]
theorem row54_ln {i : Int32} (h : inb i 20 = true) : ln (88 + ix i) = 10 := by
  have := inb_lt h
  unfold ln
  rw [if_neg (by omega), if_neg (by omega), if_pos (by omega)]
theorem row55_ln {i : Int32} (h : inb i 20 = true) : ln (108 + ix i) = 10 := by
  have := inb_lt h
  unfold ln
  rw [if_neg (by omega), if_neg (by omega), if_pos (by omega)]
theorem row56_ln {i : Int32} (h : inb i 30 = true) : ln (128 + ix i) = 10 := by
  have := inb_lt h
  unfold ln
  rw [if_neg (by omega), if_neg (by omega), if_pos (by omega)]
theorem row57_ln {i : Int32} (h : inb i 20 = true) : ln (158 + ix i) = 30 := by
  have := inb_lt h
  unfold ln
  rw [if_neg (by omega), if_neg (by omega), if_neg (by omega)]
end
section
theorem dX0_init_0 : decode cX0_init 0 = .ok (.aload_n 0, 1) := by decide +kernel
theorem dX0_init_1 : decode cX0_init 1 = .ok (.invokespecial 3, 3) := by decide +kernel
theorem dX0_init_4 : decode cX0_init 4 = .ok (.aload_n 0, 1) := by decide +kernel
theorem dX0_init_5 : decode cX0_init 5 = .ok (.bipush 20, 2) := by decide +kernel
theorem dX0_init_7 : decode cX0_init 7 = .ok (.newarray .int, 2) := by decide +kernel
theorem dX0_init_9 : decode cX0_init 9 = .ok (.putfield 9, 3) := by decide +kernel
theorem dX0_init_12 : decode cX0_init 12 = .ok (.aload_n 0, 1) := by decide +kernel
theorem dX0_init_13 : decode cX0_init 13 = .ok (.bipush 20, 2) := by decide +kernel
theorem dX0_init_15 : decode cX0_init 15 = .ok (.bipush 30, 2) := by decide +kernel
theorem dX0_init_17 : decode cX0_init 17 = .ok (.multianewarray 15 2, 4) := by decide +kernel
theorem dX0_init_21 : decode cX0_init 21 = .ok (.putfield 17, 3) := by decide +kernel
theorem dX0_init_24 : decode cX0_init 24 = .ok (.aload_n 0, 1) := by decide +kernel
theorem dX0_init_25 : decode cX0_init 25 = .ok (.iconst 0, 1) := by decide +kernel
theorem dX0_init_26 : decode cX0_init 26 = .ok (.putfield 20, 3) := by decide +kernel
theorem dX0_init_29 : decode cX0_init 29 = .ok (.return_, 1) := by decide +kernel
theorem dX0_append_0 : decode cX0_append 0 = .ok (.aload_n 0, 1) := by decide +kernel
theorem dX0_append_1 : decode cX0_append 1 = .ok (.getfield 9, 3) := by decide +kernel
theorem dX0_append_4 : decode cX0_append 4 = .ok (.aload_n 0, 1) := by decide +kernel
theorem dX0_append_5 : decode cX0_append 5 = .ok (.getfield 20, 3) := by decide +kernel
theorem dX0_append_8 : decode cX0_append 8 = .ok (.iload_n 1, 1) := by decide +kernel
theorem dX0_append_9 : decode cX0_append 9 = .ok (.iastore, 1) := by decide +kernel
theorem dX0_append_10 : decode cX0_append 10 = .ok (.aload_n 0, 1) := by decide +kernel
theorem dX0_append_11 : decode cX0_append 11 = .ok (.dup, 1) := by decide +kernel
theorem dX0_append_12 : decode cX0_append 12 = .ok (.getfield 20, 3) := by decide +kernel
theorem dX0_append_15 : decode cX0_append 15 = .ok (.iconst 1, 1) := by decide +kernel
theorem dX0_append_16 : decode cX0_append 16 = .ok (.iadd, 1) := by decide +kernel
theorem dX0_append_17 : decode cX0_append 17 = .ok (.putfield 20, 3) := by decide +kernel
theorem dX0_append_20 : decode cX0_append 20 = .ok (.aload_n 0, 1) := by decide +kernel
theorem dX0_append_21 : decode cX0_append 21 = .ok (.getfield 20, 3) := by decide +kernel
theorem dX0_append_24 : decode cX0_append 24 = .ok (.iconst 1, 1) := by decide +kernel
theorem dX0_append_25 : decode cX0_append 25 = .ok (.isub, 1) := by decide +kernel
theorem dX0_append_26 : decode cX0_append 26 = .ok (.ireturn, 1) := by decide +kernel
theorem dX0_countShortLogs_0 : decode cX0_countShortLogs 0 = .ok (.iconst 0, 1) := by decide +kernel
theorem dX0_countShortLogs_1 : decode cX0_countShortLogs 1 = .ok (.istore_n 2, 1) := by decide +kernel
theorem dX0_countShortLogs_2 : decode cX0_countShortLogs 2 = .ok (.iconst 0, 1) := by decide +kernel
theorem dX0_countShortLogs_3 : decode cX0_countShortLogs 3 = .ok (.istore_n 3, 1) := by decide +kernel
theorem dX0_countShortLogs_4 : decode cX0_countShortLogs 4 = .ok (.iload_n 3, 1) := by decide +kernel
theorem dX0_countShortLogs_5 : decode cX0_countShortLogs 5 = .ok (.aload_n 0, 1) := by decide +kernel
theorem dX0_countShortLogs_6 : decode cX0_countShortLogs 6 = .ok (.getfield 20, 3) := by decide +kernel
theorem dX0_countShortLogs_9 : decode cX0_countShortLogs 9 = .ok (.if_icmp .ge 23, 3) := by decide +kernel
theorem dX0_countShortLogs_12 : decode cX0_countShortLogs 12 = .ok (.aload_n 0, 1) := by decide +kernel
theorem dX0_countShortLogs_13 : decode cX0_countShortLogs 13 = .ok (.getfield 17, 3) := by decide +kernel
theorem dX0_countShortLogs_16 : decode cX0_countShortLogs 16 = .ok (.iload_n 3, 1) := by decide +kernel
theorem dX0_countShortLogs_17 : decode cX0_countShortLogs 17 = .ok (.aaload, 1) := by decide +kernel
theorem dX0_countShortLogs_18 : decode cX0_countShortLogs 18 = .ok (.iload_n 1, 1) := by decide +kernel
theorem dX0_countShortLogs_19 : decode cX0_countShortLogs 19 = .ok (.iaload, 1) := by decide +kernel
theorem dX0_countShortLogs_20 : decode cX0_countShortLogs 20 = .ok (.ifCond .eq 6, 3) := by decide +kernel
theorem dX0_countShortLogs_23 : decode cX0_countShortLogs 23 = .ok (.iinc 2 1, 3) := by decide +kernel
theorem dX0_countShortLogs_26 : decode cX0_countShortLogs 26 = .ok (.iinc 3 1, 3) := by decide +kernel
theorem dX0_countShortLogs_29 : decode cX0_countShortLogs 29 = .ok (.goto (-25), 3) := by decide +kernel
theorem dX0_countShortLogs_32 : decode cX0_countShortLogs 32 = .ok (.iload_n 2, 1) := by decide +kernel
theorem dX0_countShortLogs_33 : decode cX0_countShortLogs 33 = .ok (.ireturn, 1) := by decide +kernel
theorem dX1_init_0 : decode cX1_init 0 = .ok (.aload_n 0, 1) := by decide +kernel
theorem dX1_init_1 : decode cX1_init 1 = .ok (.invokespecial 3, 3) := by decide +kernel
theorem dX1_init_4 : decode cX1_init 4 = .ok (.aload_n 0, 1) := by decide +kernel
theorem dX1_init_5 : decode cX1_init 5 = .ok (.bipush 20, 2) := by decide +kernel
theorem dX1_init_7 : decode cX1_init 7 = .ok (.newarray .int, 2) := by decide +kernel
theorem dX1_init_9 : decode cX1_init 9 = .ok (.putfield 9, 3) := by decide +kernel
theorem dX1_init_12 : decode cX1_init 12 = .ok (.aload_n 0, 1) := by decide +kernel
theorem dX1_init_13 : decode cX1_init 13 = .ok (.bipush 20, 2) := by decide +kernel
theorem dX1_init_15 : decode cX1_init 15 = .ok (.newarray .int, 2) := by decide +kernel
theorem dX1_init_17 : decode cX1_init 17 = .ok (.putfield 15, 3) := by decide +kernel
theorem dX1_init_20 : decode cX1_init 20 = .ok (.aload_n 0, 1) := by decide +kernel
theorem dX1_init_21 : decode cX1_init 21 = .ok (.bipush 20, 2) := by decide +kernel
theorem dX1_init_23 : decode cX1_init 23 = .ok (.newarray .int, 2) := by decide +kernel
theorem dX1_init_25 : decode cX1_init 25 = .ok (.putfield 18, 3) := by decide +kernel
theorem dX1_init_28 : decode cX1_init 28 = .ok (.aload_n 0, 1) := by decide +kernel
theorem dX1_init_29 : decode cX1_init 29 = .ok (.bipush 20, 2) := by decide +kernel
theorem dX1_init_31 : decode cX1_init 31 = .ok (.bipush 10, 2) := by decide +kernel
theorem dX1_init_33 : decode cX1_init 33 = .ok (.multianewarray 21 2, 4) := by decide +kernel
theorem dX1_init_37 : decode cX1_init 37 = .ok (.putfield 23, 3) := by decide +kernel
theorem dX1_init_40 : decode cX1_init 40 = .ok (.aload_n 0, 1) := by decide +kernel
theorem dX1_init_41 : decode cX1_init 41 = .ok (.iconst 0, 1) := by decide +kernel
theorem dX1_init_42 : decode cX1_init 42 = .ok (.putfield 26, 3) := by decide +kernel
theorem dX1_init_45 : decode cX1_init 45 = .ok (.aload_n 0, 1) := by decide +kernel
theorem dX1_init_46 : decode cX1_init 46 = .ok (.bipush 20, 2) := by decide +kernel
theorem dX1_init_48 : decode cX1_init 48 = .ok (.newarray .int, 2) := by decide +kernel
theorem dX1_init_50 : decode cX1_init 50 = .ok (.putfield 30, 3) := by decide +kernel
theorem dX1_init_53 : decode cX1_init 53 = .ok (.aload_n 0, 1) := by decide +kernel
theorem dX1_init_54 : decode cX1_init 54 = .ok (.bipush 20, 2) := by decide +kernel
theorem dX1_init_56 : decode cX1_init 56 = .ok (.newarray .int, 2) := by decide +kernel
theorem dX1_init_58 : decode cX1_init 58 = .ok (.putfield 33, 3) := by decide +kernel
theorem dX1_init_61 : decode cX1_init 61 = .ok (.aload_n 0, 1) := by decide +kernel
theorem dX1_init_62 : decode cX1_init 62 = .ok (.bipush 20, 2) := by decide +kernel
theorem dX1_init_64 : decode cX1_init 64 = .ok (.newarray .int, 2) := by decide +kernel
theorem dX1_init_66 : decode cX1_init 66 = .ok (.putfield 36, 3) := by decide +kernel
theorem dX1_init_69 : decode cX1_init 69 = .ok (.aload_n 0, 1) := by decide +kernel
theorem dX1_init_70 : decode cX1_init 70 = .ok (.bipush 20, 2) := by decide +kernel
theorem dX1_init_72 : decode cX1_init 72 = .ok (.bipush 10, 2) := by decide +kernel
theorem dX1_init_74 : decode cX1_init 74 = .ok (.multianewarray 21 2, 4) := by decide +kernel
theorem dX1_init_78 : decode cX1_init 78 = .ok (.putfield 39, 3) := by decide +kernel
theorem dX1_init_81 : decode cX1_init 81 = .ok (.aload_n 0, 1) := by decide +kernel
theorem dX1_init_82 : decode cX1_init 82 = .ok (.bipush 20, 2) := by decide +kernel
theorem dX1_init_84 : decode cX1_init 84 = .ok (.newarray .int, 2) := by decide +kernel
theorem dX1_init_86 : decode cX1_init 86 = .ok (.putfield 42, 3) := by decide +kernel
theorem dX1_init_89 : decode cX1_init 89 = .ok (.aload_n 0, 1) := by decide +kernel
theorem dX1_init_90 : decode cX1_init 90 = .ok (.iconst 0, 1) := by decide +kernel
theorem dX1_init_91 : decode cX1_init 91 = .ok (.putfield 45, 3) := by decide +kernel
theorem dX1_init_94 : decode cX1_init 94 = .ok (.return_, 1) := by decide +kernel
theorem dX1_append_0 : decode cX1_append 0 = .ok (.iconst 0, 1) := by decide +kernel
theorem dX1_append_1 : decode cX1_append 1 = .ok (.istore_n 1, 1) := by decide +kernel
theorem dX1_append_2 : decode cX1_append 2 = .ok (.iload_n 1, 1) := by decide +kernel
theorem dX1_append_3 : decode cX1_append 3 = .ok (.bipush 10, 2) := by decide +kernel
theorem dX1_append_5 : decode cX1_append 5 = .ok (.if_icmp .ge 21, 3) := by decide +kernel
theorem dX1_append_8 : decode cX1_append 8 = .ok (.aload_n 0, 1) := by decide +kernel
theorem dX1_append_9 : decode cX1_append 9 = .ok (.getfield 23, 3) := by decide +kernel
theorem dX1_append_12 : decode cX1_append 12 = .ok (.aload_n 0, 1) := by decide +kernel
theorem dX1_append_13 : decode cX1_append 13 = .ok (.getfield 26, 3) := by decide +kernel
theorem dX1_append_16 : decode cX1_append 16 = .ok (.aaload, 1) := by decide +kernel
theorem dX1_append_17 : decode cX1_append 17 = .ok (.iload_n 1, 1) := by decide +kernel
theorem dX1_append_18 : decode cX1_append 18 = .ok (.iconst (-1), 1) := by decide +kernel
theorem dX1_append_19 : decode cX1_append 19 = .ok (.iastore, 1) := by decide +kernel
theorem dX1_append_20 : decode cX1_append 20 = .ok (.iinc 1 1, 3) := by decide +kernel
theorem dX1_append_23 : decode cX1_append 23 = .ok (.goto (-21), 3) := by decide +kernel
theorem dX1_append_26 : decode cX1_append 26 = .ok (.aload_n 0, 1) := by decide +kernel
theorem dX1_append_27 : decode cX1_append 27 = .ok (.dup, 1) := by decide +kernel
theorem dX1_append_28 : decode cX1_append 28 = .ok (.getfield 26, 3) := by decide +kernel
theorem dX1_append_31 : decode cX1_append 31 = .ok (.iconst 1, 1) := by decide +kernel
theorem dX1_append_32 : decode cX1_append 32 = .ok (.iadd, 1) := by decide +kernel
theorem dX1_append_33 : decode cX1_append 33 = .ok (.putfield 26, 3) := by decide +kernel
theorem dX1_append_36 : decode cX1_append 36 = .ok (.aload_n 0, 1) := by decide +kernel
theorem dX1_append_37 : decode cX1_append 37 = .ok (.getfield 26, 3) := by decide +kernel
theorem dX1_append_40 : decode cX1_append 40 = .ok (.iconst 1, 1) := by decide +kernel
theorem dX1_append_41 : decode cX1_append 41 = .ok (.isub, 1) := by decide +kernel
theorem dX1_append_42 : decode cX1_append 42 = .ok (.ireturn, 1) := by decide +kernel
theorem dX1_place_0 : decode cX1_place 0 = .ok (.aload_n 0, 1) := by decide +kernel
theorem dX1_place_1 : decode cX1_place 1 = .ok (.getfield 9, 3) := by decide +kernel
theorem dX1_place_4 : decode cX1_place 4 = .ok (.iload_n 1, 1) := by decide +kernel
theorem dX1_place_5 : decode cX1_place 5 = .ok (.iload_n 2, 1) := by decide +kernel
theorem dX1_place_6 : decode cX1_place 6 = .ok (.iastore, 1) := by decide +kernel
theorem dX1_place_7 : decode cX1_place 7 = .ok (.aload_n 0, 1) := by decide +kernel
theorem dX1_place_8 : decode cX1_place 8 = .ok (.getfield 15, 3) := by decide +kernel
theorem dX1_place_11 : decode cX1_place 11 = .ok (.iload_n 1, 1) := by decide +kernel
theorem dX1_place_12 : decode cX1_place 12 = .ok (.iload_n 3, 1) := by decide +kernel
theorem dX1_place_13 : decode cX1_place 13 = .ok (.iastore, 1) := by decide +kernel
theorem dX1_place_14 : decode cX1_place 14 = .ok (.aload_n 0, 1) := by decide +kernel
theorem dX1_place_15 : decode cX1_place 15 = .ok (.getfield 18, 3) := by decide +kernel
theorem dX1_place_18 : decode cX1_place 18 = .ok (.iload_n 1, 1) := by decide +kernel
theorem dX1_place_19 : decode cX1_place 19 = .ok (.iload 4, 2) := by decide +kernel
theorem dX1_place_21 : decode cX1_place 21 = .ok (.iastore, 1) := by decide +kernel
theorem dX1_place_22 : decode cX1_place 22 = .ok (.return_, 1) := by decide +kernel
set_option maxRecDepth 20000 in
theorem ggX1_arrange_X1_sortCues : GoodIn wsX1_arrange wsX1_sortCues := goodIn_r _ [5, 6, 7, 8, 9, 10, 4, 11, 12, 13, 51, 52, 53, 54, 55, 56, 57, 58, 59, 60, 61] (by decide +kernel) (by decide +kernel)
set_option maxRecDepth 20000 in
theorem gX1_arrange_X1_sortCues : GoodIn wsX1_arrange (wsV RX1 48 RX1 yX1_sortCues wsX1_sortCues) := goodIn_app (goodIn_of _ (by decide +kernel)) ggX1_arrange_X1_sortCues
set_option maxRecDepth 20000 in
theorem ggX1_arrange_X1_setTimes : GoodIn wsX1_arrange wsX1_setTimes := goodIn_r _ [17, 6, 12, 18, 13, 19, 20, 21, 22, 23, 24, 25, 51, 52, 53, 54, 55, 56, 57, 58, 59, 60, 61, 62, 63, 64, 65] (by decide +kernel) (by decide +kernel)
set_option maxRecDepth 20000 in
theorem gX1_arrange_X1_setTimes : GoodIn wsX1_arrange (wsV RX1 51 RX1 yX1_setTimes wsX1_setTimes) := goodIn_app (goodIn_of _ (by decide +kernel)) ggX1_arrange_X1_setTimes
set_option maxRecDepth 20000 in
theorem ggX1_arrange_X1_fold : GoodIn wsX1_arrange wsX1_fold := goodIn_r _ [29, 6, 7, 18, 30, 31, 32, 33, 4, 34, 35, 36, 37, 38, 39, 40, 51, 52, 53, 54, 55, 56, 57, 58, 59, 60, 61] (by decide +kernel) (by decide +kernel)
set_option maxRecDepth 20000 in
theorem gX1_arrange_X1_fold : GoodIn wsX1_arrange (wsV RX1 55 RX1 yX1_fold wsX1_fold) := goodIn_app (goodIn_of _ (by decide +kernel)) ggX1_arrange_X1_fold
set_option maxRecDepth 20000 in
theorem ggX1_arrange_X1_sortPlays : GoodIn wsX1_arrange wsX1_sortPlays := goodIn_r _ [44, 45, 6, 18, 7, 46, 47, 48, 4, 49, 50, 51, 52, 53, 54, 55, 56, 57, 58, 59, 60, 61] (by decide +kernel) (by decide +kernel)
set_option maxRecDepth 20000 in
theorem gX1_arrange_X1_sortPlays : GoodIn wsX1_arrange (wsV RX1 58 RX1 yX1_sortPlays wsX1_sortPlays) := goodIn_app (goodIn_of _ (by decide +kernel)) ggX1_arrange_X1_sortPlays
theorem dX1_arrange_0 : decode cX1_arrange 0 = .ok (.aload_n 0, 1) := by decide +kernel
theorem dX1_arrange_1 : decode cX1_arrange 1 = .ok (.invokevirtual 48, 3) := by decide +kernel
theorem dX1_arrange_4 : decode cX1_arrange 4 = .ok (.aload_n 0, 1) := by decide +kernel
theorem dX1_arrange_5 : decode cX1_arrange 5 = .ok (.aload_n 1, 1) := by decide +kernel
theorem dX1_arrange_6 : decode cX1_arrange 6 = .ok (.invokevirtual 51, 3) := by decide +kernel
theorem dX1_arrange_9 : decode cX1_arrange 9 = .ok (.aload_n 0, 1) := by decide +kernel
theorem dX1_arrange_10 : decode cX1_arrange 10 = .ok (.invokevirtual 55, 3) := by decide +kernel
theorem dX1_arrange_13 : decode cX1_arrange 13 = .ok (.aload_n 0, 1) := by decide +kernel
theorem dX1_arrange_14 : decode cX1_arrange 14 = .ok (.invokevirtual 58, 3) := by decide +kernel
theorem dX1_arrange_17 : decode cX1_arrange 17 = .ok (.return_, 1) := by decide +kernel
set_option maxRecDepth 20000 in
theorem ggX1_sortCues_X1_comesAhead : GoodIn wsX1_sortCues wsX1_comesAhead := goodIn_r _ [7, 8, 9, 10, 11, 12, 13, 14, 15, 16, 17, 18, 19, 20] (by decide +kernel) (by decide +kernel)
set_option maxRecDepth 20000 in
theorem gX1_sortCues_X1_comesAhead : GoodIn wsX1_sortCues (wsV RX1 61 RX1 yX1_comesAhead wsX1_comesAhead) := goodIn_app (goodIn_of _ (by decide +kernel)) ggX1_sortCues_X1_comesAhead
theorem dX1_sortCues_0 : decode cX1_sortCues 0 = .ok (.iconst 0, 1) := by decide +kernel
theorem dX1_sortCues_1 : decode cX1_sortCues 1 = .ok (.istore_n 1, 1) := by decide +kernel
theorem dX1_sortCues_2 : decode cX1_sortCues 2 = .ok (.iload_n 1, 1) := by decide +kernel
theorem dX1_sortCues_3 : decode cX1_sortCues 3 = .ok (.aload_n 0, 1) := by decide +kernel
theorem dX1_sortCues_4 : decode cX1_sortCues 4 = .ok (.getfield 26, 3) := by decide +kernel
theorem dX1_sortCues_7 : decode cX1_sortCues 7 = .ok (.if_icmp .ge 58, 3) := by decide +kernel
theorem dX1_sortCues_10 : decode cX1_sortCues 10 = .ok (.iload_n 1, 1) := by decide +kernel
theorem dX1_sortCues_11 : decode cX1_sortCues 11 = .ok (.istore_n 2, 1) := by decide +kernel
theorem dX1_sortCues_12 : decode cX1_sortCues 12 = .ok (.iload_n 2, 1) := by decide +kernel
theorem dX1_sortCues_13 : decode cX1_sortCues 13 = .ok (.ifCond .le 39, 3) := by decide +kernel
theorem dX1_sortCues_16 : decode cX1_sortCues 16 = .ok (.aload_n 0, 1) := by decide +kernel
theorem dX1_sortCues_17 : decode cX1_sortCues 17 = .ok (.iload_n 1, 1) := by decide +kernel
theorem dX1_sortCues_18 : decode cX1_sortCues 18 = .ok (.aload_n 0, 1) := by decide +kernel
theorem dX1_sortCues_19 : decode cX1_sortCues 19 = .ok (.getfield 30, 3) := by decide +kernel
theorem dX1_sortCues_22 : decode cX1_sortCues 22 = .ok (.iload_n 2, 1) := by decide +kernel
theorem dX1_sortCues_23 : decode cX1_sortCues 23 = .ok (.iconst 1, 1) := by decide +kernel
theorem dX1_sortCues_24 : decode cX1_sortCues 24 = .ok (.isub, 1) := by decide +kernel
theorem dX1_sortCues_25 : decode cX1_sortCues 25 = .ok (.iaload, 1) := by decide +kernel
theorem dX1_sortCues_26 : decode cX1_sortCues 26 = .ok (.invokevirtual 61, 3) := by decide +kernel
theorem dX1_sortCues_29 : decode cX1_sortCues 29 = .ok (.ifCond .eq 23, 3) := by decide +kernel
theorem dX1_sortCues_32 : decode cX1_sortCues 32 = .ok (.aload_n 0, 1) := by decide +kernel
theorem dX1_sortCues_33 : decode cX1_sortCues 33 = .ok (.getfield 30, 3) := by decide +kernel
theorem dX1_sortCues_36 : decode cX1_sortCues 36 = .ok (.iload_n 2, 1) := by decide +kernel
theorem dX1_sortCues_37 : decode cX1_sortCues 37 = .ok (.aload_n 0, 1) := by decide +kernel
theorem dX1_sortCues_38 : decode cX1_sortCues 38 = .ok (.getfield 30, 3) := by decide +kernel
theorem dX1_sortCues_41 : decode cX1_sortCues 41 = .ok (.iload_n 2, 1) := by decide +kernel
theorem dX1_sortCues_42 : decode cX1_sortCues 42 = .ok (.iconst 1, 1) := by decide +kernel
theorem dX1_sortCues_43 : decode cX1_sortCues 43 = .ok (.isub, 1) := by decide +kernel
theorem dX1_sortCues_44 : decode cX1_sortCues 44 = .ok (.iaload, 1) := by decide +kernel
theorem dX1_sortCues_45 : decode cX1_sortCues 45 = .ok (.iastore, 1) := by decide +kernel
theorem dX1_sortCues_46 : decode cX1_sortCues 46 = .ok (.iinc 2 (-1), 3) := by decide +kernel
theorem dX1_sortCues_49 : decode cX1_sortCues 49 = .ok (.goto (-37), 3) := by decide +kernel
theorem dX1_sortCues_52 : decode cX1_sortCues 52 = .ok (.aload_n 0, 1) := by decide +kernel
theorem dX1_sortCues_53 : decode cX1_sortCues 53 = .ok (.getfield 30, 3) := by decide +kernel
theorem dX1_sortCues_56 : decode cX1_sortCues 56 = .ok (.iload_n 2, 1) := by decide +kernel
theorem dX1_sortCues_57 : decode cX1_sortCues 57 = .ok (.iload_n 1, 1) := by decide +kernel
theorem dX1_sortCues_58 : decode cX1_sortCues 58 = .ok (.iastore, 1) := by decide +kernel
theorem dX1_sortCues_59 : decode cX1_sortCues 59 = .ok (.iinc 1 1, 3) := by decide +kernel
theorem dX1_sortCues_62 : decode cX1_sortCues 62 = .ok (.goto (-60), 3) := by decide +kernel
theorem dX1_sortCues_65 : decode cX1_sortCues 65 = .ok (.return_, 1) := by decide +kernel
theorem dX1_comesAhead_0 : decode cX1_comesAhead 0 = .ok (.aload_n 0, 1) := by decide +kernel
theorem dX1_comesAhead_1 : decode cX1_comesAhead 1 = .ok (.getfield 9, 3) := by decide +kernel
theorem dX1_comesAhead_4 : decode cX1_comesAhead 4 = .ok (.iload_n 1, 1) := by decide +kernel
theorem dX1_comesAhead_5 : decode cX1_comesAhead 5 = .ok (.iaload, 1) := by decide +kernel
theorem dX1_comesAhead_6 : decode cX1_comesAhead 6 = .ok (.aload_n 0, 1) := by decide +kernel
theorem dX1_comesAhead_7 : decode cX1_comesAhead 7 = .ok (.getfield 9, 3) := by decide +kernel
theorem dX1_comesAhead_10 : decode cX1_comesAhead 10 = .ok (.iload_n 2, 1) := by decide +kernel
theorem dX1_comesAhead_11 : decode cX1_comesAhead 11 = .ok (.iaload, 1) := by decide +kernel
theorem dX1_comesAhead_12 : decode cX1_comesAhead 12 = .ok (.if_icmp .eq 24, 3) := by decide +kernel
theorem dX1_comesAhead_15 : decode cX1_comesAhead 15 = .ok (.aload_n 0, 1) := by decide +kernel
theorem dX1_comesAhead_16 : decode cX1_comesAhead 16 = .ok (.getfield 9, 3) := by decide +kernel
theorem dX1_comesAhead_19 : decode cX1_comesAhead 19 = .ok (.iload_n 1, 1) := by decide +kernel
theorem dX1_comesAhead_20 : decode cX1_comesAhead 20 = .ok (.iaload, 1) := by decide +kernel
theorem dX1_comesAhead_21 : decode cX1_comesAhead 21 = .ok (.aload_n 0, 1) := by decide +kernel
theorem dX1_comesAhead_22 : decode cX1_comesAhead 22 = .ok (.getfield 9, 3) := by decide +kernel
theorem dX1_comesAhead_25 : decode cX1_comesAhead 25 = .ok (.iload_n 2, 1) := by decide +kernel
theorem dX1_comesAhead_26 : decode cX1_comesAhead 26 = .ok (.iaload, 1) := by decide +kernel
theorem dX1_comesAhead_27 : decode cX1_comesAhead 27 = .ok (.if_icmp .ge 7, 3) := by decide +kernel
theorem dX1_comesAhead_30 : decode cX1_comesAhead 30 = .ok (.iconst 1, 1) := by decide +kernel
theorem dX1_comesAhead_31 : decode cX1_comesAhead 31 = .ok (.goto 4, 3) := by decide +kernel
theorem dX1_comesAhead_34 : decode cX1_comesAhead 34 = .ok (.iconst 0, 1) := by decide +kernel
theorem dX1_comesAhead_35 : decode cX1_comesAhead 35 = .ok (.ireturn, 1) := by decide +kernel
theorem dX1_comesAhead_36 : decode cX1_comesAhead 36 = .ok (.aload_n 0, 1) := by decide +kernel
theorem dX1_comesAhead_37 : decode cX1_comesAhead 37 = .ok (.getfield 15, 3) := by decide +kernel
theorem dX1_comesAhead_40 : decode cX1_comesAhead 40 = .ok (.iload_n 1, 1) := by decide +kernel
theorem dX1_comesAhead_41 : decode cX1_comesAhead 41 = .ok (.iaload, 1) := by decide +kernel
theorem dX1_comesAhead_42 : decode cX1_comesAhead 42 = .ok (.aload_n 0, 1) := by decide +kernel
theorem dX1_comesAhead_43 : decode cX1_comesAhead 43 = .ok (.getfield 15, 3) := by decide +kernel
theorem dX1_comesAhead_46 : decode cX1_comesAhead 46 = .ok (.iload_n 2, 1) := by decide +kernel
theorem dX1_comesAhead_47 : decode cX1_comesAhead 47 = .ok (.iaload, 1) := by decide +kernel
theorem dX1_comesAhead_48 : decode cX1_comesAhead 48 = .ok (.if_icmp .ge 7, 3) := by decide +kernel
theorem dX1_comesAhead_51 : decode cX1_comesAhead 51 = .ok (.iconst 1, 1) := by decide +kernel
theorem dX1_comesAhead_52 : decode cX1_comesAhead 52 = .ok (.goto 4, 3) := by decide +kernel
theorem dX1_comesAhead_55 : decode cX1_comesAhead 55 = .ok (.iconst 0, 1) := by decide +kernel
theorem dX1_comesAhead_56 : decode cX1_comesAhead 56 = .ok (.ireturn, 1) := by decide +kernel
set_option maxRecDepth 20000 in
theorem ggX1_setTimes_X4_secondsAhead : GoodIn wsX1_setTimes wsX4_secondsAhead := goodIn_r _ [9, 10, 11, 23, 24, 25, 26] (by decide +kernel) (by decide +kernel)
set_option maxRecDepth 20000 in
theorem gX1_setTimes_X4_secondsAhead : GoodIn wsX1_setTimes (wsV RX1 71 RX4 yX4_secondsAhead wsX4_secondsAhead) := goodIn_app (goodIn_of _ (by decide +kernel)) ggX1_setTimes_X4_secondsAhead
theorem dX1_setTimes_0 : decode cX1_setTimes 0 = .ok (.iconst 0, 1) := by decide +kernel
theorem dX1_setTimes_1 : decode cX1_setTimes 1 = .ok (.istore_n 2, 1) := by decide +kernel
theorem dX1_setTimes_2 : decode cX1_setTimes 2 = .ok (.iload_n 2, 1) := by decide +kernel
theorem dX1_setTimes_3 : decode cX1_setTimes 3 = .ok (.aload_n 0, 1) := by decide +kernel
theorem dX1_setTimes_4 : decode cX1_setTimes 4 = .ok (.getfield 26, 3) := by decide +kernel
theorem dX1_setTimes_7 : decode cX1_setTimes 7 = .ok (.if_icmp .ge 47, 3) := by decide +kernel
theorem dX1_setTimes_10 : decode cX1_setTimes 10 = .ok (.aload_n 0, 1) := by decide +kernel
theorem dX1_setTimes_11 : decode cX1_setTimes 11 = .ok (.getfield 9, 3) := by decide +kernel
theorem dX1_setTimes_14 : decode cX1_setTimes 14 = .ok (.iload_n 2, 1) := by decide +kernel
theorem dX1_setTimes_15 : decode cX1_setTimes 15 = .ok (.iaload, 1) := by decide +kernel
theorem dX1_setTimes_16 : decode cX1_setTimes 16 = .ok (.istore_n 3, 1) := by decide +kernel
theorem dX1_setTimes_17 : decode cX1_setTimes 17 = .ok (.aload_n 0, 1) := by decide +kernel
theorem dX1_setTimes_18 : decode cX1_setTimes 18 = .ok (.getfield 33, 3) := by decide +kernel
theorem dX1_setTimes_21 : decode cX1_setTimes 21 = .ok (.iload_n 2, 1) := by decide +kernel
theorem dX1_setTimes_22 : decode cX1_setTimes 22 = .ok (.aload_n 1, 1) := by decide +kernel
theorem dX1_setTimes_23 : decode cX1_setTimes 23 = .ok (.getfield 65, 3) := by decide +kernel
theorem dX1_setTimes_26 : decode cX1_setTimes 26 = .ok (.iload_n 3, 1) := by decide +kernel
theorem dX1_setTimes_27 : decode cX1_setTimes 27 = .ok (.baload, 1) := by decide +kernel
theorem dX1_setTimes_28 : decode cX1_setTimes 28 = .ok (.ifCond .eq 7, 3) := by decide +kernel
theorem dX1_setTimes_31 : decode cX1_setTimes 31 = .ok (.iconst (-1), 1) := by decide +kernel
theorem dX1_setTimes_32 : decode cX1_setTimes 32 = .ok (.goto 15, 3) := by decide +kernel
theorem dX1_setTimes_35 : decode cX1_setTimes 35 = .ok (.aload_n 1, 1) := by decide +kernel
theorem dX1_setTimes_36 : decode cX1_setTimes 36 = .ok (.iload_n 3, 1) := by decide +kernel
theorem dX1_setTimes_37 : decode cX1_setTimes 37 = .ok (.invokevirtual 71, 3) := by decide +kernel
theorem dX1_setTimes_40 : decode cX1_setTimes 40 = .ok (.aload_n 0, 1) := by decide +kernel
theorem dX1_setTimes_41 : decode cX1_setTimes 41 = .ok (.getfield 15, 3) := by decide +kernel
theorem dX1_setTimes_44 : decode cX1_setTimes 44 = .ok (.iload_n 2, 1) := by decide +kernel
theorem dX1_setTimes_45 : decode cX1_setTimes 45 = .ok (.iaload, 1) := by decide +kernel
theorem dX1_setTimes_46 : decode cX1_setTimes 46 = .ok (.iadd, 1) := by decide +kernel
theorem dX1_setTimes_47 : decode cX1_setTimes 47 = .ok (.iastore, 1) := by decide +kernel
theorem dX1_setTimes_48 : decode cX1_setTimes 48 = .ok (.iinc 2 1, 3) := by decide +kernel
theorem dX1_setTimes_51 : decode cX1_setTimes 51 = .ok (.goto (-49), 3) := by decide +kernel
theorem dX1_setTimes_54 : decode cX1_setTimes 54 = .ok (.return_, 1) := by decide +kernel
set_option maxRecDepth 20000 in
theorem ggX1_fold_X1_forget : GoodIn wsX1_fold wsX1_forget := goodIn_r _ [9, 10, 16, 17, 18, 19, 20, 21, 22, 23, 24, 25, 26] (by decide +kernel) (by decide +kernel)
set_option maxRecDepth 20000 in
theorem gX1_fold_X1_forget : GoodIn wsX1_fold (wsV RX1 75 RX1 yX1_forget wsX1_forget) := goodIn_app (goodIn_of _ (by decide +kernel)) ggX1_fold_X1_forget
set_option maxRecDepth 20000 in
theorem ggX1_fold_X1_fillIn : GoodIn wsX1_fold wsX1_fillIn := goodIn_r _ [14, 10, 15, 16, 17, 18, 19, 20, 21, 22, 23, 24, 25, 26] (by decide +kernel) (by decide +kernel)
set_option maxRecDepth 20000 in
theorem gX1_fold_X1_fillIn : GoodIn wsX1_fold (wsV RX1 79 RX1 yX1_fillIn wsX1_fillIn) := goodIn_app (goodIn_of _ (by decide +kernel)) ggX1_fold_X1_fillIn
theorem dX1_fold_0 : decode cX1_fold 0 = .ok (.iconst (-1), 1) := by decide +kernel
theorem dX1_fold_1 : decode cX1_fold 1 = .ok (.istore_n 1, 1) := by decide +kernel
theorem dX1_fold_2 : decode cX1_fold 2 = .ok (.aload_n 0, 1) := by decide +kernel
theorem dX1_fold_3 : decode cX1_fold 3 = .ok (.getfield 26, 3) := by decide +kernel
theorem dX1_fold_6 : decode cX1_fold 6 = .ok (.iconst 1, 1) := by decide +kernel
theorem dX1_fold_7 : decode cX1_fold 7 = .ok (.isub, 1) := by decide +kernel
theorem dX1_fold_8 : decode cX1_fold 8 = .ok (.istore_n 2, 1) := by decide +kernel
theorem dX1_fold_9 : decode cX1_fold 9 = .ok (.iload_n 2, 1) := by decide +kernel
theorem dX1_fold_10 : decode cX1_fold 10 = .ok (.ifCond .lt 51, 3) := by decide +kernel
theorem dX1_fold_13 : decode cX1_fold 13 = .ok (.aload_n 0, 1) := by decide +kernel
theorem dX1_fold_14 : decode cX1_fold 14 = .ok (.getfield 30, 3) := by decide +kernel
theorem dX1_fold_17 : decode cX1_fold 17 = .ok (.iload_n 2, 1) := by decide +kernel
theorem dX1_fold_18 : decode cX1_fold 18 = .ok (.iaload, 1) := by decide +kernel
theorem dX1_fold_19 : decode cX1_fold 19 = .ok (.istore_n 3, 1) := by decide +kernel
theorem dX1_fold_20 : decode cX1_fold 20 = .ok (.aload_n 0, 1) := by decide +kernel
theorem dX1_fold_21 : decode cX1_fold 21 = .ok (.iload_n 3, 1) := by decide +kernel
theorem dX1_fold_22 : decode cX1_fold 22 = .ok (.invokevirtual 75, 3) := by decide +kernel
theorem dX1_fold_25 : decode cX1_fold 25 = .ok (.aload_n 0, 1) := by decide +kernel
theorem dX1_fold_26 : decode cX1_fold 26 = .ok (.getfield 33, 3) := by decide +kernel
theorem dX1_fold_29 : decode cX1_fold 29 = .ok (.iload_n 3, 1) := by decide +kernel
theorem dX1_fold_30 : decode cX1_fold 30 = .ok (.iaload, 1) := by decide +kernel
theorem dX1_fold_31 : decode cX1_fold 31 = .ok (.iconst (-1), 1) := by decide +kernel
theorem dX1_fold_32 : decode cX1_fold 32 = .ok (.if_icmp .eq 5, 3) := by decide +kernel
theorem dX1_fold_35 : decode cX1_fold 35 = .ok (.iload_n 3, 1) := by decide +kernel
theorem dX1_fold_36 : decode cX1_fold 36 = .ok (.istore_n 1, 1) := by decide +kernel
theorem dX1_fold_37 : decode cX1_fold 37 = .ok (.aload_n 0, 1) := by decide +kernel
theorem dX1_fold_38 : decode cX1_fold 38 = .ok (.getfield 36, 3) := by decide +kernel
theorem dX1_fold_41 : decode cX1_fold 41 = .ok (.iload_n 3, 1) := by decide +kernel
theorem dX1_fold_42 : decode cX1_fold 42 = .ok (.iload_n 1, 1) := by decide +kernel
theorem dX1_fold_43 : decode cX1_fold 43 = .ok (.iastore, 1) := by decide +kernel
theorem dX1_fold_44 : decode cX1_fold 44 = .ok (.iload_n 1, 1) := by decide +kernel
theorem dX1_fold_45 : decode cX1_fold 45 = .ok (.iconst (-1), 1) := by decide +kernel
theorem dX1_fold_46 : decode cX1_fold 46 = .ok (.if_icmp .eq 9, 3) := by decide +kernel
theorem dX1_fold_49 : decode cX1_fold 49 = .ok (.aload_n 0, 1) := by decide +kernel
theorem dX1_fold_50 : decode cX1_fold 50 = .ok (.iload_n 1, 1) := by decide +kernel
theorem dX1_fold_51 : decode cX1_fold 51 = .ok (.iload_n 3, 1) := by decide +kernel
theorem dX1_fold_52 : decode cX1_fold 52 = .ok (.invokevirtual 79, 3) := by decide +kernel
theorem dX1_fold_55 : decode cX1_fold 55 = .ok (.iinc 2 (-1), 3) := by decide +kernel
theorem dX1_fold_58 : decode cX1_fold 58 = .ok (.goto (-49), 3) := by decide +kernel
theorem dX1_fold_61 : decode cX1_fold 61 = .ok (.return_, 1) := by decide +kernel
theorem dX1_forget_0 : decode cX1_forget 0 = .ok (.iconst 0, 1) := by decide +kernel
theorem dX1_forget_1 : decode cX1_forget 1 = .ok (.istore_n 2, 1) := by decide +kernel
theorem dX1_forget_2 : decode cX1_forget 2 = .ok (.iload_n 2, 1) := by decide +kernel
theorem dX1_forget_3 : decode cX1_forget 3 = .ok (.bipush 10, 2) := by decide +kernel
theorem dX1_forget_5 : decode cX1_forget 5 = .ok (.if_icmp .ge 18, 3) := by decide +kernel
theorem dX1_forget_8 : decode cX1_forget 8 = .ok (.aload_n 0, 1) := by decide +kernel
theorem dX1_forget_9 : decode cX1_forget 9 = .ok (.getfield 39, 3) := by decide +kernel
theorem dX1_forget_12 : decode cX1_forget 12 = .ok (.iload_n 1, 1) := by decide +kernel
theorem dX1_forget_13 : decode cX1_forget 13 = .ok (.aaload, 1) := by decide +kernel
theorem dX1_forget_14 : decode cX1_forget 14 = .ok (.iload_n 2, 1) := by decide +kernel
theorem dX1_forget_15 : decode cX1_forget 15 = .ok (.iconst (-1), 1) := by decide +kernel
theorem dX1_forget_16 : decode cX1_forget 16 = .ok (.iastore, 1) := by decide +kernel
theorem dX1_forget_17 : decode cX1_forget 17 = .ok (.iinc 2 1, 3) := by decide +kernel
theorem dX1_forget_20 : decode cX1_forget 20 = .ok (.goto (-18), 3) := by decide +kernel
theorem dX1_forget_23 : decode cX1_forget 23 = .ok (.return_, 1) := by decide +kernel
theorem dX1_fillIn_0 : decode cX1_fillIn 0 = .ok (.iconst 0, 1) := by decide +kernel
theorem dX1_fillIn_1 : decode cX1_fillIn 1 = .ok (.istore_n 3, 1) := by decide +kernel
theorem dX1_fillIn_2 : decode cX1_fillIn 2 = .ok (.iload_n 3, 1) := by decide +kernel
theorem dX1_fillIn_3 : decode cX1_fillIn 3 = .ok (.bipush 10, 2) := by decide +kernel
theorem dX1_fillIn_5 : decode cX1_fillIn 5 = .ok (.if_icmp .ge 37, 3) := by decide +kernel
theorem dX1_fillIn_8 : decode cX1_fillIn 8 = .ok (.aload_n 0, 1) := by decide +kernel
theorem dX1_fillIn_9 : decode cX1_fillIn 9 = .ok (.getfield 39, 3) := by decide +kernel
theorem dX1_fillIn_12 : decode cX1_fillIn 12 = .ok (.iload_n 1, 1) := by decide +kernel
theorem dX1_fillIn_13 : decode cX1_fillIn 13 = .ok (.aaload, 1) := by decide +kernel
theorem dX1_fillIn_14 : decode cX1_fillIn 14 = .ok (.iload_n 3, 1) := by decide +kernel
theorem dX1_fillIn_15 : decode cX1_fillIn 15 = .ok (.iaload, 1) := by decide +kernel
theorem dX1_fillIn_16 : decode cX1_fillIn 16 = .ok (.iconst (-1), 1) := by decide +kernel
theorem dX1_fillIn_17 : decode cX1_fillIn 17 = .ok (.if_icmp .ne 19, 3) := by decide +kernel
theorem dX1_fillIn_20 : decode cX1_fillIn 20 = .ok (.aload_n 0, 1) := by decide +kernel
theorem dX1_fillIn_21 : decode cX1_fillIn 21 = .ok (.getfield 39, 3) := by decide +kernel
theorem dX1_fillIn_24 : decode cX1_fillIn 24 = .ok (.iload_n 1, 1) := by decide +kernel
theorem dX1_fillIn_25 : decode cX1_fillIn 25 = .ok (.aaload, 1) := by decide +kernel
theorem dX1_fillIn_26 : decode cX1_fillIn 26 = .ok (.iload_n 3, 1) := by decide +kernel
theorem dX1_fillIn_27 : decode cX1_fillIn 27 = .ok (.aload_n 0, 1) := by decide +kernel
theorem dX1_fillIn_28 : decode cX1_fillIn 28 = .ok (.getfield 23, 3) := by decide +kernel
theorem dX1_fillIn_31 : decode cX1_fillIn 31 = .ok (.iload_n 2, 1) := by decide +kernel
theorem dX1_fillIn_32 : decode cX1_fillIn 32 = .ok (.aaload, 1) := by decide +kernel
theorem dX1_fillIn_33 : decode cX1_fillIn 33 = .ok (.iload_n 3, 1) := by decide +kernel
theorem dX1_fillIn_34 : decode cX1_fillIn 34 = .ok (.iaload, 1) := by decide +kernel
theorem dX1_fillIn_35 : decode cX1_fillIn 35 = .ok (.iastore, 1) := by decide +kernel
theorem dX1_fillIn_36 : decode cX1_fillIn 36 = .ok (.iinc 3 1, 3) := by decide +kernel
theorem dX1_fillIn_39 : decode cX1_fillIn 39 = .ok (.goto (-37), 3) := by decide +kernel
theorem dX1_fillIn_42 : decode cX1_fillIn 42 = .ok (.return_, 1) := by decide +kernel
set_option maxRecDepth 20000 in
theorem ggX1_sortPlays_X1_insertPlay : GoodIn wsX1_sortPlays wsX1_insertPlay := goodIn_r _ [9, 1, 3, 10, 11, 12, 13, 14, 15, 16, 17, 18, 19, 20, 21] (by decide +kernel) (by decide +kernel)
set_option maxRecDepth 20000 in
theorem gX1_sortPlays_X1_insertPlay : GoodIn wsX1_sortPlays (wsV RX1 83 RX1 yX1_insertPlay wsX1_insertPlay) := goodIn_app (goodIn_of _ (by decide +kernel)) ggX1_sortPlays_X1_insertPlay
theorem dX1_sortPlays_0 : decode cX1_sortPlays 0 = .ok (.aload_n 0, 1) := by decide +kernel
theorem dX1_sortPlays_1 : decode cX1_sortPlays 1 = .ok (.iconst 0, 1) := by decide +kernel
theorem dX1_sortPlays_2 : decode cX1_sortPlays 2 = .ok (.putfield 45, 3) := by decide +kernel
theorem dX1_sortPlays_5 : decode cX1_sortPlays 5 = .ok (.iconst 0, 1) := by decide +kernel
theorem dX1_sortPlays_6 : decode cX1_sortPlays 6 = .ok (.istore_n 1, 1) := by decide +kernel
theorem dX1_sortPlays_7 : decode cX1_sortPlays 7 = .ok (.iload_n 1, 1) := by decide +kernel
theorem dX1_sortPlays_8 : decode cX1_sortPlays 8 = .ok (.aload_n 0, 1) := by decide +kernel
theorem dX1_sortPlays_9 : decode cX1_sortPlays 9 = .ok (.getfield 26, 3) := by decide +kernel
theorem dX1_sortPlays_12 : decode cX1_sortPlays 12 = .ok (.if_icmp .ge 34, 3) := by decide +kernel
theorem dX1_sortPlays_15 : decode cX1_sortPlays 15 = .ok (.aload_n 0, 1) := by decide +kernel
theorem dX1_sortPlays_16 : decode cX1_sortPlays 16 = .ok (.getfield 33, 3) := by decide +kernel
theorem dX1_sortPlays_19 : decode cX1_sortPlays 19 = .ok (.aload_n 0, 1) := by decide +kernel
theorem dX1_sortPlays_20 : decode cX1_sortPlays 20 = .ok (.getfield 30, 3) := by decide +kernel
theorem dX1_sortPlays_23 : decode cX1_sortPlays 23 = .ok (.iload_n 1, 1) := by decide +kernel
theorem dX1_sortPlays_24 : decode cX1_sortPlays 24 = .ok (.iaload, 1) := by decide +kernel
theorem dX1_sortPlays_25 : decode cX1_sortPlays 25 = .ok (.iaload, 1) := by decide +kernel
theorem dX1_sortPlays_26 : decode cX1_sortPlays 26 = .ok (.iconst (-1), 1) := by decide +kernel
theorem dX1_sortPlays_27 : decode cX1_sortPlays 27 = .ok (.if_icmp .eq 13, 3) := by decide +kernel
theorem dX1_sortPlays_30 : decode cX1_sortPlays 30 = .ok (.aload_n 0, 1) := by decide +kernel
theorem dX1_sortPlays_31 : decode cX1_sortPlays 31 = .ok (.aload_n 0, 1) := by decide +kernel
theorem dX1_sortPlays_32 : decode cX1_sortPlays 32 = .ok (.getfield 30, 3) := by decide +kernel
theorem dX1_sortPlays_35 : decode cX1_sortPlays 35 = .ok (.iload_n 1, 1) := by decide +kernel
theorem dX1_sortPlays_36 : decode cX1_sortPlays 36 = .ok (.iaload, 1) := by decide +kernel
theorem dX1_sortPlays_37 : decode cX1_sortPlays 37 = .ok (.invokevirtual 83, 3) := by decide +kernel
theorem dX1_sortPlays_40 : decode cX1_sortPlays 40 = .ok (.iinc 1 1, 3) := by decide +kernel
theorem dX1_sortPlays_43 : decode cX1_sortPlays 43 = .ok (.goto (-36), 3) := by decide +kernel
theorem dX1_sortPlays_46 : decode cX1_sortPlays 46 = .ok (.return_, 1) := by decide +kernel
theorem dX1_insertPlay_0 : decode cX1_insertPlay 0 = .ok (.aload_n 0, 1) := by decide +kernel
theorem dX1_insertPlay_1 : decode cX1_insertPlay 1 = .ok (.getfield 45, 3) := by decide +kernel
theorem dX1_insertPlay_4 : decode cX1_insertPlay 4 = .ok (.istore_n 2, 1) := by decide +kernel
theorem dX1_insertPlay_5 : decode cX1_insertPlay 5 = .ok (.iload_n 2, 1) := by decide +kernel
theorem dX1_insertPlay_6 : decode cX1_insertPlay 6 = .ok (.ifCond .le 45, 3) := by decide +kernel
theorem dX1_insertPlay_9 : decode cX1_insertPlay 9 = .ok (.aload_n 0, 1) := by decide +kernel
theorem dX1_insertPlay_10 : decode cX1_insertPlay 10 = .ok (.getfield 33, 3) := by decide +kernel
theorem dX1_insertPlay_13 : decode cX1_insertPlay 13 = .ok (.aload_n 0, 1) := by decide +kernel
theorem dX1_insertPlay_14 : decode cX1_insertPlay 14 = .ok (.getfield 42, 3) := by decide +kernel
theorem dX1_insertPlay_17 : decode cX1_insertPlay 17 = .ok (.iload_n 2, 1) := by decide +kernel
theorem dX1_insertPlay_18 : decode cX1_insertPlay 18 = .ok (.iconst 1, 1) := by decide +kernel
theorem dX1_insertPlay_19 : decode cX1_insertPlay 19 = .ok (.isub, 1) := by decide +kernel
theorem dX1_insertPlay_20 : decode cX1_insertPlay 20 = .ok (.iaload, 1) := by decide +kernel
theorem dX1_insertPlay_21 : decode cX1_insertPlay 21 = .ok (.iaload, 1) := by decide +kernel
theorem dX1_insertPlay_22 : decode cX1_insertPlay 22 = .ok (.aload_n 0, 1) := by decide +kernel
theorem dX1_insertPlay_23 : decode cX1_insertPlay 23 = .ok (.getfield 33, 3) := by decide +kernel
theorem dX1_insertPlay_26 : decode cX1_insertPlay 26 = .ok (.iload_n 1, 1) := by decide +kernel
theorem dX1_insertPlay_27 : decode cX1_insertPlay 27 = .ok (.iaload, 1) := by decide +kernel
theorem dX1_insertPlay_28 : decode cX1_insertPlay 28 = .ok (.if_icmp .le 23, 3) := by decide +kernel
theorem dX1_insertPlay_31 : decode cX1_insertPlay 31 = .ok (.aload_n 0, 1) := by decide +kernel
theorem dX1_insertPlay_32 : decode cX1_insertPlay 32 = .ok (.getfield 42, 3) := by decide +kernel
theorem dX1_insertPlay_35 : decode cX1_insertPlay 35 = .ok (.iload_n 2, 1) := by decide +kernel
theorem dX1_insertPlay_36 : decode cX1_insertPlay 36 = .ok (.aload_n 0, 1) := by decide +kernel
theorem dX1_insertPlay_37 : decode cX1_insertPlay 37 = .ok (.getfield 42, 3) := by decide +kernel
theorem dX1_insertPlay_40 : decode cX1_insertPlay 40 = .ok (.iload_n 2, 1) := by decide +kernel
theorem dX1_insertPlay_41 : decode cX1_insertPlay 41 = .ok (.iconst 1, 1) := by decide +kernel
theorem dX1_insertPlay_42 : decode cX1_insertPlay 42 = .ok (.isub, 1) := by decide +kernel
theorem dX1_insertPlay_43 : decode cX1_insertPlay 43 = .ok (.iaload, 1) := by decide +kernel
theorem dX1_insertPlay_44 : decode cX1_insertPlay 44 = .ok (.iastore, 1) := by decide +kernel
theorem dX1_insertPlay_45 : decode cX1_insertPlay 45 = .ok (.iinc 2 (-1), 3) := by decide +kernel
theorem dX1_insertPlay_48 : decode cX1_insertPlay 48 = .ok (.goto (-43), 3) := by decide +kernel
theorem dX1_insertPlay_51 : decode cX1_insertPlay 51 = .ok (.aload_n 0, 1) := by decide +kernel
theorem dX1_insertPlay_52 : decode cX1_insertPlay 52 = .ok (.getfield 42, 3) := by decide +kernel
theorem dX1_insertPlay_55 : decode cX1_insertPlay 55 = .ok (.iload_n 2, 1) := by decide +kernel
theorem dX1_insertPlay_56 : decode cX1_insertPlay 56 = .ok (.iload_n 1, 1) := by decide +kernel
theorem dX1_insertPlay_57 : decode cX1_insertPlay 57 = .ok (.iastore, 1) := by decide +kernel
theorem dX1_insertPlay_58 : decode cX1_insertPlay 58 = .ok (.aload_n 0, 1) := by decide +kernel
theorem dX1_insertPlay_59 : decode cX1_insertPlay 59 = .ok (.dup, 1) := by decide +kernel
theorem dX1_insertPlay_60 : decode cX1_insertPlay 60 = .ok (.getfield 45, 3) := by decide +kernel
theorem dX1_insertPlay_63 : decode cX1_insertPlay 63 = .ok (.iconst 1, 1) := by decide +kernel
theorem dX1_insertPlay_64 : decode cX1_insertPlay 64 = .ok (.iadd, 1) := by decide +kernel
theorem dX1_insertPlay_65 : decode cX1_insertPlay 65 = .ok (.putfield 45, 3) := by decide +kernel
theorem dX1_insertPlay_68 : decode cX1_insertPlay 68 = .ok (.return_, 1) := by decide +kernel
set_option maxRecDepth 20000 in
theorem ggX1_levelByFades_X1_levelBehind : GoodIn wsX1_levelByFades wsX1_levelBehind := goodIn_r _ [9] (by decide +kernel) (by decide +kernel)
set_option maxRecDepth 20000 in
theorem gX1_levelByFades_X1_levelBehind : GoodIn wsX1_levelByFades (va_wsS RX1 86 yX1_levelBehind wsX1_levelBehind) := goodIn_app (goodIn_of _ (by decide +kernel)) ggX1_levelByFades_X1_levelBehind
theorem dX1_levelByFades_0 : decode cX1_levelByFades 0 = .ok (.iconst 0, 1) := by decide +kernel
theorem dX1_levelByFades_1 : decode cX1_levelByFades 1 = .ok (.istore_n 3, 1) := by decide +kernel
theorem dX1_levelByFades_2 : decode cX1_levelByFades 2 = .ok (.iconst 0, 1) := by decide +kernel
theorem dX1_levelByFades_3 : decode cX1_levelByFades 3 = .ok (.istore 4, 2) := by decide +kernel
theorem dX1_levelByFades_5 : decode cX1_levelByFades 5 = .ok (.iconst 0, 1) := by decide +kernel
theorem dX1_levelByFades_6 : decode cX1_levelByFades 6 = .ok (.istore 5, 2) := by decide +kernel
theorem dX1_levelByFades_8 : decode cX1_levelByFades 8 = .ok (.iconst 0, 1) := by decide +kernel
theorem dX1_levelByFades_9 : decode cX1_levelByFades 9 = .ok (.istore 6, 2) := by decide +kernel
theorem dX1_levelByFades_11 : decode cX1_levelByFades 11 = .ok (.iconst 0, 1) := by decide +kernel
theorem dX1_levelByFades_12 : decode cX1_levelByFades 12 = .ok (.istore 7, 2) := by decide +kernel
theorem dX1_levelByFades_14 : decode cX1_levelByFades 14 = .ok (.iload 7, 2) := by decide +kernel
theorem dX1_levelByFades_16 : decode cX1_levelByFades 16 = .ok (.aload_n 0, 1) := by decide +kernel
theorem dX1_levelByFades_17 : decode cX1_levelByFades 17 = .ok (.getfield 45, 3) := by decide +kernel
theorem dX1_levelByFades_20 : decode cX1_levelByFades 20 = .ok (.if_icmp .ge 95, 3) := by decide +kernel
theorem dX1_levelByFades_23 : decode cX1_levelByFades 23 = .ok (.aload_n 0, 1) := by decide +kernel
theorem dX1_levelByFades_24 : decode cX1_levelByFades 24 = .ok (.getfield 33, 3) := by decide +kernel
theorem dX1_levelByFades_27 : decode cX1_levelByFades 27 = .ok (.aload_n 0, 1) := by decide +kernel
theorem dX1_levelByFades_28 : decode cX1_levelByFades 28 = .ok (.getfield 42, 3) := by decide +kernel
theorem dX1_levelByFades_31 : decode cX1_levelByFades 31 = .ok (.iload 7, 2) := by decide +kernel
theorem dX1_levelByFades_33 : decode cX1_levelByFades 33 = .ok (.iaload, 1) := by decide +kernel
theorem dX1_levelByFades_34 : decode cX1_levelByFades 34 = .ok (.iaload, 1) := by decide +kernel
theorem dX1_levelByFades_35 : decode cX1_levelByFades 35 = .ok (.iload_n 2, 1) := by decide +kernel
theorem dX1_levelByFades_36 : decode cX1_levelByFades 36 = .ok (.if_icmp .gt 79, 3) := by decide +kernel
theorem dX1_levelByFades_39 : decode cX1_levelByFades 39 = .ok (.aload_n 0, 1) := by decide +kernel
theorem dX1_levelByFades_40 : decode cX1_levelByFades 40 = .ok (.getfield 42, 3) := by decide +kernel
theorem dX1_levelByFades_43 : decode cX1_levelByFades 43 = .ok (.iload 7, 2) := by decide +kernel
theorem dX1_levelByFades_45 : decode cX1_levelByFades 45 = .ok (.iaload, 1) := by decide +kernel
theorem dX1_levelByFades_46 : decode cX1_levelByFades 46 = .ok (.istore 8, 2) := by decide +kernel
theorem dX1_levelByFades_48 : decode cX1_levelByFades 48 = .ok (.aload_n 0, 1) := by decide +kernel
theorem dX1_levelByFades_49 : decode cX1_levelByFades 49 = .ok (.getfield 39, 3) := by decide +kernel
theorem dX1_levelByFades_52 : decode cX1_levelByFades 52 = .ok (.iload 8, 2) := by decide +kernel
theorem dX1_levelByFades_54 : decode cX1_levelByFades 54 = .ok (.aaload, 1) := by decide +kernel
theorem dX1_levelByFades_55 : decode cX1_levelByFades 55 = .ok (.iload_n 1, 1) := by decide +kernel
theorem dX1_levelByFades_56 : decode cX1_levelByFades 56 = .ok (.iaload, 1) := by decide +kernel
theorem dX1_levelByFades_57 : decode cX1_levelByFades 57 = .ok (.iconst (-1), 1) := by decide +kernel
theorem dX1_levelByFades_58 : decode cX1_levelByFades 58 = .ok (.if_icmp .eq 51, 3) := by decide +kernel
theorem dX1_levelByFades_61 : decode cX1_levelByFades 61 = .ok (.aload_n 0, 1) := by decide +kernel
theorem dX1_levelByFades_62 : decode cX1_levelByFades 62 = .ok (.getfield 33, 3) := by decide +kernel
theorem dX1_levelByFades_65 : decode cX1_levelByFades 65 = .ok (.iload 8, 2) := by decide +kernel
theorem dX1_levelByFades_67 : decode cX1_levelByFades 67 = .ok (.iaload, 1) := by decide +kernel
theorem dX1_levelByFades_68 : decode cX1_levelByFades 68 = .ok (.iload 5, 2) := by decide +kernel
theorem dX1_levelByFades_70 : decode cX1_levelByFades 70 = .ok (.isub, 1) := by decide +kernel
theorem dX1_levelByFades_71 : decode cX1_levelByFades 71 = .ok (.iload 6, 2) := by decide +kernel
theorem dX1_levelByFades_73 : decode cX1_levelByFades 73 = .ok (.iload_n 3, 1) := by decide +kernel
theorem dX1_levelByFades_74 : decode cX1_levelByFades 74 = .ok (.iload 4, 2) := by decide +kernel
theorem dX1_levelByFades_76 : decode cX1_levelByFades 76 = .ok (.invokestatic 86, 3) := by decide +kernel
theorem dX1_levelByFades_79 : decode cX1_levelByFades 79 = .ok (.istore_n 3, 1) := by decide +kernel
theorem dX1_levelByFades_80 : decode cX1_levelByFades 80 = .ok (.aload_n 0, 1) := by decide +kernel
theorem dX1_levelByFades_81 : decode cX1_levelByFades 81 = .ok (.getfield 39, 3) := by decide +kernel
theorem dX1_levelByFades_84 : decode cX1_levelByFades 84 = .ok (.iload 8, 2) := by decide +kernel
theorem dX1_levelByFades_86 : decode cX1_levelByFades 86 = .ok (.aaload, 1) := by decide +kernel
theorem dX1_levelByFades_87 : decode cX1_levelByFades 87 = .ok (.iload_n 1, 1) := by decide +kernel
theorem dX1_levelByFades_88 : decode cX1_levelByFades 88 = .ok (.iaload, 1) := by decide +kernel
theorem dX1_levelByFades_89 : decode cX1_levelByFades 89 = .ok (.istore 4, 2) := by decide +kernel
theorem dX1_levelByFades_91 : decode cX1_levelByFades 91 = .ok (.aload_n 0, 1) := by decide +kernel
theorem dX1_levelByFades_92 : decode cX1_levelByFades 92 = .ok (.getfield 33, 3) := by decide +kernel
theorem dX1_levelByFades_95 : decode cX1_levelByFades 95 = .ok (.iload 8, 2) := by decide +kernel
theorem dX1_levelByFades_97 : decode cX1_levelByFades 97 = .ok (.iaload, 1) := by decide +kernel
theorem dX1_levelByFades_98 : decode cX1_levelByFades 98 = .ok (.istore 5, 2) := by decide +kernel
theorem dX1_levelByFades_100 : decode cX1_levelByFades 100 = .ok (.aload_n 0, 1) := by decide +kernel
theorem dX1_levelByFades_101 : decode cX1_levelByFades 101 = .ok (.getfield 18, 3) := by decide +kernel
theorem dX1_levelByFades_104 : decode cX1_levelByFades 104 = .ok (.iload 8, 2) := by decide +kernel
theorem dX1_levelByFades_106 : decode cX1_levelByFades 106 = .ok (.iaload, 1) := by decide +kernel
theorem dX1_levelByFades_107 : decode cX1_levelByFades 107 = .ok (.istore 6, 2) := by decide +kernel
theorem dX1_levelByFades_109 : decode cX1_levelByFades 109 = .ok (.iinc 7 1, 3) := by decide +kernel
theorem dX1_levelByFades_112 : decode cX1_levelByFades 112 = .ok (.goto (-98), 3) := by decide +kernel
theorem dX1_levelByFades_115 : decode cX1_levelByFades 115 = .ok (.iload_n 2, 1) := by decide +kernel
theorem dX1_levelByFades_116 : decode cX1_levelByFades 116 = .ok (.iload 5, 2) := by decide +kernel
theorem dX1_levelByFades_118 : decode cX1_levelByFades 118 = .ok (.isub, 1) := by decide +kernel
theorem dX1_levelByFades_119 : decode cX1_levelByFades 119 = .ok (.iload 6, 2) := by decide +kernel
theorem dX1_levelByFades_121 : decode cX1_levelByFades 121 = .ok (.iload_n 3, 1) := by decide +kernel
theorem dX1_levelByFades_122 : decode cX1_levelByFades 122 = .ok (.iload 4, 2) := by decide +kernel
theorem dX1_levelByFades_124 : decode cX1_levelByFades 124 = .ok (.invokestatic 86, 3) := by decide +kernel
theorem dX1_levelByFades_127 : decode cX1_levelByFades 127 = .ok (.ireturn, 1) := by decide +kernel
set_option maxRecDepth 20000 in
theorem ggX1_levelByTicks_X1_levelBehind : GoodIn wsX1_levelByTicks wsX1_levelBehind := goodIn_r _ [9] (by decide +kernel) (by decide +kernel)
set_option maxRecDepth 20000 in
theorem gX1_levelByTicks_X1_levelBehind : GoodIn wsX1_levelByTicks (va_wsS RX1 86 yX1_levelBehind wsX1_levelBehind) := goodIn_app (goodIn_of _ (by decide +kernel)) ggX1_levelByTicks_X1_levelBehind
theorem dX1_levelByTicks_0 : decode cX1_levelByTicks 0 = .ok (.iconst 0, 1) := by decide +kernel
theorem dX1_levelByTicks_1 : decode cX1_levelByTicks 1 = .ok (.istore_n 3, 1) := by decide +kernel
theorem dX1_levelByTicks_2 : decode cX1_levelByTicks 2 = .ok (.iconst 0, 1) := by decide +kernel
theorem dX1_levelByTicks_3 : decode cX1_levelByTicks 3 = .ok (.istore 4, 2) := by decide +kernel
theorem dX1_levelByTicks_5 : decode cX1_levelByTicks 5 = .ok (.iconst 0, 1) := by decide +kernel
theorem dX1_levelByTicks_6 : decode cX1_levelByTicks 6 = .ok (.istore 5, 2) := by decide +kernel
theorem dX1_levelByTicks_8 : decode cX1_levelByTicks 8 = .ok (.iconst 0, 1) := by decide +kernel
theorem dX1_levelByTicks_9 : decode cX1_levelByTicks 9 = .ok (.istore 6, 2) := by decide +kernel
theorem dX1_levelByTicks_11 : decode cX1_levelByTicks 11 = .ok (.iconst 0, 1) := by decide +kernel
theorem dX1_levelByTicks_12 : decode cX1_levelByTicks 12 = .ok (.istore 7, 2) := by decide +kernel
theorem dX1_levelByTicks_14 : decode cX1_levelByTicks 14 = .ok (.iconst 0, 1) := by decide +kernel
theorem dX1_levelByTicks_15 : decode cX1_levelByTicks 15 = .ok (.istore 8, 2) := by decide +kernel
theorem dX1_levelByTicks_17 : decode cX1_levelByTicks 17 = .ok (.iconst 0, 1) := by decide +kernel
theorem dX1_levelByTicks_18 : decode cX1_levelByTicks 18 = .ok (.istore 9, 2) := by decide +kernel
theorem dX1_levelByTicks_20 : decode cX1_levelByTicks 20 = .ok (.iload 9, 2) := by decide +kernel
theorem dX1_levelByTicks_22 : decode cX1_levelByTicks 22 = .ok (.iload_n 2, 1) := by decide +kernel
theorem dX1_levelByTicks_23 : decode cX1_levelByTicks 23 = .ok (.if_icmp .gt 116, 3) := by decide +kernel
theorem dX1_levelByTicks_26 : decode cX1_levelByTicks 26 = .ok (.iload 6, 2) := by decide +kernel
theorem dX1_levelByTicks_28 : decode cX1_levelByTicks 28 = .ok (.iload 7, 2) := by decide +kernel
theorem dX1_levelByTicks_30 : decode cX1_levelByTicks 30 = .ok (.iload 4, 2) := by decide +kernel
theorem dX1_levelByTicks_32 : decode cX1_levelByTicks 32 = .ok (.iload 5, 2) := by decide +kernel
theorem dX1_levelByTicks_34 : decode cX1_levelByTicks 34 = .ok (.invokestatic 86, 3) := by decide +kernel
theorem dX1_levelByTicks_37 : decode cX1_levelByTicks 37 = .ok (.istore_n 3, 1) := by decide +kernel
theorem dX1_levelByTicks_38 : decode cX1_levelByTicks 38 = .ok (.iload 8, 2) := by decide +kernel
theorem dX1_levelByTicks_40 : decode cX1_levelByTicks 40 = .ok (.aload_n 0, 1) := by decide +kernel
theorem dX1_levelByTicks_41 : decode cX1_levelByTicks 41 = .ok (.getfield 45, 3) := by decide +kernel
theorem dX1_levelByTicks_44 : decode cX1_levelByTicks 44 = .ok (.if_icmp .ge 86, 3) := by decide +kernel
theorem dX1_levelByTicks_47 : decode cX1_levelByTicks 47 = .ok (.aload_n 0, 1) := by decide +kernel
theorem dX1_levelByTicks_48 : decode cX1_levelByTicks 48 = .ok (.getfield 33, 3) := by decide +kernel
theorem dX1_levelByTicks_51 : decode cX1_levelByTicks 51 = .ok (.aload_n 0, 1) := by decide +kernel
theorem dX1_levelByTicks_52 : decode cX1_levelByTicks 52 = .ok (.getfield 42, 3) := by decide +kernel
theorem dX1_levelByTicks_55 : decode cX1_levelByTicks 55 = .ok (.iload 8, 2) := by decide +kernel
theorem dX1_levelByTicks_57 : decode cX1_levelByTicks 57 = .ok (.iaload, 1) := by decide +kernel
theorem dX1_levelByTicks_58 : decode cX1_levelByTicks 58 = .ok (.iaload, 1) := by decide +kernel
theorem dX1_levelByTicks_59 : decode cX1_levelByTicks 59 = .ok (.iload 9, 2) := by decide +kernel
theorem dX1_levelByTicks_61 : decode cX1_levelByTicks 61 = .ok (.if_icmp .ne 69, 3) := by decide +kernel
theorem dX1_levelByTicks_64 : decode cX1_levelByTicks 64 = .ok (.aload_n 0, 1) := by decide +kernel
theorem dX1_levelByTicks_65 : decode cX1_levelByTicks 65 = .ok (.getfield 42, 3) := by decide +kernel
theorem dX1_levelByTicks_68 : decode cX1_levelByTicks 68 = .ok (.iload 8, 2) := by decide +kernel
theorem dX1_levelByTicks_70 : decode cX1_levelByTicks 70 = .ok (.iaload, 1) := by decide +kernel
theorem dX1_levelByTicks_71 : decode cX1_levelByTicks 71 = .ok (.istore 10, 2) := by decide +kernel
theorem dX1_levelByTicks_73 : decode cX1_levelByTicks 73 = .ok (.aload_n 0, 1) := by decide +kernel
theorem dX1_levelByTicks_74 : decode cX1_levelByTicks 74 = .ok (.getfield 39, 3) := by decide +kernel
theorem dX1_levelByTicks_77 : decode cX1_levelByTicks 77 = .ok (.iload 10, 2) := by decide +kernel
theorem dX1_levelByTicks_79 : decode cX1_levelByTicks 79 = .ok (.aaload, 1) := by decide +kernel
theorem dX1_levelByTicks_80 : decode cX1_levelByTicks 80 = .ok (.iload_n 1, 1) := by decide +kernel
theorem dX1_levelByTicks_81 : decode cX1_levelByTicks 81 = .ok (.iaload, 1) := by decide +kernel
theorem dX1_levelByTicks_82 : decode cX1_levelByTicks 82 = .ok (.iconst (-1), 1) := by decide +kernel
theorem dX1_levelByTicks_83 : decode cX1_levelByTicks 83 = .ok (.if_icmp .eq 41, 3) := by decide +kernel
theorem dX1_levelByTicks_86 : decode cX1_levelByTicks 86 = .ok (.iload_n 3, 1) := by decide +kernel
theorem dX1_levelByTicks_87 : decode cX1_levelByTicks 87 = .ok (.istore 4, 2) := by decide +kernel
theorem dX1_levelByTicks_89 : decode cX1_levelByTicks 89 = .ok (.aload_n 0, 1) := by decide +kernel
theorem dX1_levelByTicks_90 : decode cX1_levelByTicks 90 = .ok (.getfield 39, 3) := by decide +kernel
theorem dX1_levelByTicks_93 : decode cX1_levelByTicks 93 = .ok (.iload 10, 2) := by decide +kernel
theorem dX1_levelByTicks_95 : decode cX1_levelByTicks 95 = .ok (.aaload, 1) := by decide +kernel
theorem dX1_levelByTicks_96 : decode cX1_levelByTicks 96 = .ok (.iload_n 1, 1) := by decide +kernel
theorem dX1_levelByTicks_97 : decode cX1_levelByTicks 97 = .ok (.iaload, 1) := by decide +kernel
theorem dX1_levelByTicks_98 : decode cX1_levelByTicks 98 = .ok (.istore 5, 2) := by decide +kernel
theorem dX1_levelByTicks_100 : decode cX1_levelByTicks 100 = .ok (.iconst 0, 1) := by decide +kernel
theorem dX1_levelByTicks_101 : decode cX1_levelByTicks 101 = .ok (.istore 6, 2) := by decide +kernel
theorem dX1_levelByTicks_103 : decode cX1_levelByTicks 103 = .ok (.aload_n 0, 1) := by decide +kernel
theorem dX1_levelByTicks_104 : decode cX1_levelByTicks 104 = .ok (.getfield 18, 3) := by decide +kernel
theorem dX1_levelByTicks_107 : decode cX1_levelByTicks 107 = .ok (.iload 10, 2) := by decide +kernel
theorem dX1_levelByTicks_109 : decode cX1_levelByTicks 109 = .ok (.iaload, 1) := by decide +kernel
theorem dX1_levelByTicks_110 : decode cX1_levelByTicks 110 = .ok (.istore 7, 2) := by decide +kernel
theorem dX1_levelByTicks_112 : decode cX1_levelByTicks 112 = .ok (.iload 6, 2) := by decide +kernel
theorem dX1_levelByTicks_114 : decode cX1_levelByTicks 114 = .ok (.iload 7, 2) := by decide +kernel
theorem dX1_levelByTicks_116 : decode cX1_levelByTicks 116 = .ok (.iload 4, 2) := by decide +kernel
theorem dX1_levelByTicks_118 : decode cX1_levelByTicks 118 = .ok (.iload 5, 2) := by decide +kernel
theorem dX1_levelByTicks_120 : decode cX1_levelByTicks 120 = .ok (.invokestatic 86, 3) := by decide +kernel
theorem dX1_levelByTicks_123 : decode cX1_levelByTicks 123 = .ok (.istore_n 3, 1) := by decide +kernel
theorem dX1_levelByTicks_124 : decode cX1_levelByTicks 124 = .ok (.iinc 8 1, 3) := by decide +kernel
theorem dX1_levelByTicks_127 : decode cX1_levelByTicks 127 = .ok (.goto (-89), 3) := by decide +kernel
theorem dX1_levelByTicks_130 : decode cX1_levelByTicks 130 = .ok (.iinc 6 1, 3) := by decide +kernel
theorem dX1_levelByTicks_133 : decode cX1_levelByTicks 133 = .ok (.iinc 9 1, 3) := by decide +kernel
theorem dX1_levelByTicks_136 : decode cX1_levelByTicks 136 = .ok (.goto (-116), 3) := by decide +kernel
theorem dX1_levelByTicks_139 : decode cX1_levelByTicks 139 = .ok (.iload_n 3, 1) := by decide +kernel
theorem dX1_levelByTicks_140 : decode cX1_levelByTicks 140 = .ok (.ireturn, 1) := by decide +kernel
theorem dX1_levelBehind_0 : decode cX1_levelBehind 0 = .ok (.iload_n 1, 1) := by decide +kernel
theorem dX1_levelBehind_1 : decode cX1_levelBehind 1 = .ok (.ifCond .le 8, 3) := by decide +kernel
theorem dX1_levelBehind_4 : decode cX1_levelBehind 4 = .ok (.iload_n 0, 1) := by decide +kernel
theorem dX1_levelBehind_5 : decode cX1_levelBehind 5 = .ok (.iload_n 1, 1) := by decide +kernel
theorem dX1_levelBehind_6 : decode cX1_levelBehind 6 = .ok (.if_icmp .lt 5, 3) := by decide +kernel
theorem dX1_levelBehind_9 : decode cX1_levelBehind 9 = .ok (.iload_n 3, 1) := by decide +kernel
theorem dX1_levelBehind_10 : decode cX1_levelBehind 10 = .ok (.ireturn, 1) := by decide +kernel
theorem dX1_levelBehind_11 : decode cX1_levelBehind 11 = .ok (.iload_n 2, 1) := by decide +kernel
theorem dX1_levelBehind_12 : decode cX1_levelBehind 12 = .ok (.iload_n 3, 1) := by decide +kernel
theorem dX1_levelBehind_13 : decode cX1_levelBehind 13 = .ok (.iload_n 2, 1) := by decide +kernel
theorem dX1_levelBehind_14 : decode cX1_levelBehind 14 = .ok (.isub, 1) := by decide +kernel
theorem dX1_levelBehind_15 : decode cX1_levelBehind 15 = .ok (.iload_n 0, 1) := by decide +kernel
theorem dX1_levelBehind_16 : decode cX1_levelBehind 16 = .ok (.imul, 1) := by decide +kernel
theorem dX1_levelBehind_17 : decode cX1_levelBehind 17 = .ok (.iload_n 1, 1) := by decide +kernel
theorem dX1_levelBehind_18 : decode cX1_levelBehind 18 = .ok (.idiv, 1) := by decide +kernel
theorem dX1_levelBehind_19 : decode cX1_levelBehind 19 = .ok (.iadd, 1) := by decide +kernel
theorem dX1_levelBehind_20 : decode cX1_levelBehind 20 = .ok (.ireturn, 1) := by decide +kernel
set_option maxRecDepth 20000 in
theorem ggX1_fillLevels_X1_levelByFades : GoodIn wsX1_fillLevels wsX1_levelByFades := goodIn_r _ [5, 6, 7, 8, 9, 10, 11, 12, 4, 13, 14, 15, 16, 17, 18, 19, 20, 21, 22, 23, 24] (by decide +kernel) (by decide +kernel)
set_option maxRecDepth 20000 in
theorem gX1_fillLevels_X1_levelByFades : GoodIn wsX1_fillLevels (wsV RX1 90 RX1 yX1_levelByFades wsX1_levelByFades) := goodIn_app (goodIn_of _ (by decide +kernel)) ggX1_fillLevels_X1_levelByFades
theorem dX1_fillLevels_0 : decode cX1_fillLevels 0 = .ok (.iconst 0, 1) := by decide +kernel
theorem dX1_fillLevels_1 : decode cX1_fillLevels 1 = .ok (.istore_n 3, 1) := by decide +kernel
theorem dX1_fillLevels_2 : decode cX1_fillLevels 2 = .ok (.iload_n 3, 1) := by decide +kernel
theorem dX1_fillLevels_3 : decode cX1_fillLevels 3 = .ok (.bipush 10, 2) := by decide +kernel
theorem dX1_fillLevels_5 : decode cX1_fillLevels 5 = .ok (.if_icmp .ge 18, 3) := by decide +kernel
theorem dX1_fillLevels_8 : decode cX1_fillLevels 8 = .ok (.aload_n 2, 1) := by decide +kernel
theorem dX1_fillLevels_9 : decode cX1_fillLevels 9 = .ok (.iload_n 3, 1) := by decide +kernel
theorem dX1_fillLevels_10 : decode cX1_fillLevels 10 = .ok (.aload_n 0, 1) := by decide +kernel
theorem dX1_fillLevels_11 : decode cX1_fillLevels 11 = .ok (.iload_n 3, 1) := by decide +kernel
theorem dX1_fillLevels_12 : decode cX1_fillLevels 12 = .ok (.iload_n 1, 1) := by decide +kernel
theorem dX1_fillLevels_13 : decode cX1_fillLevels 13 = .ok (.invokevirtual 90, 3) := by decide +kernel
theorem dX1_fillLevels_16 : decode cX1_fillLevels 16 = .ok (.iastore, 1) := by decide +kernel
theorem dX1_fillLevels_17 : decode cX1_fillLevels 17 = .ok (.iinc 3 1, 3) := by decide +kernel
theorem dX1_fillLevels_20 : decode cX1_fillLevels 20 = .ok (.goto (-18), 3) := by decide +kernel
theorem dX1_fillLevels_23 : decode cX1_fillLevels 23 = .ok (.return_, 1) := by decide +kernel
theorem dX2_init_0 : decode cX2_init 0 = .ok (.aload_n 0, 1) := by decide +kernel
theorem dX2_init_1 : decode cX2_init 1 = .ok (.invokespecial 3, 3) := by decide +kernel
theorem dX2_init_4 : decode cX2_init 4 = .ok (.aload_n 0, 1) := by decide +kernel
theorem dX2_init_5 : decode cX2_init 5 = .ok (.bipush 10, 2) := by decide +kernel
theorem dX2_init_7 : decode cX2_init 7 = .ok (.newarray .int, 2) := by decide +kernel
theorem dX2_init_9 : decode cX2_init 9 = .ok (.putfield 9, 3) := by decide +kernel
theorem dX2_init_12 : decode cX2_init 12 = .ok (.aload_n 0, 1) := by decide +kernel
theorem dX2_init_13 : decode cX2_init 13 = .ok (.bipush 10, 2) := by decide +kernel
theorem dX2_init_15 : decode cX2_init 15 = .ok (.newarray .int, 2) := by decide +kernel
theorem dX2_init_17 : decode cX2_init 17 = .ok (.putfield 15, 3) := by decide +kernel
theorem dX2_init_20 : decode cX2_init 20 = .ok (.iconst 0, 1) := by decide +kernel
theorem dX2_init_21 : decode cX2_init 21 = .ok (.istore_n 1, 1) := by decide +kernel
theorem dX2_init_22 : decode cX2_init 22 = .ok (.iload_n 1, 1) := by decide +kernel
theorem dX2_init_23 : decode cX2_init 23 = .ok (.bipush 10, 2) := by decide +kernel
theorem dX2_init_25 : decode cX2_init 25 = .ok (.if_icmp .ge 18, 3) := by decide +kernel
theorem dX2_init_28 : decode cX2_init 28 = .ok (.aload_n 0, 1) := by decide +kernel
theorem dX2_init_29 : decode cX2_init 29 = .ok (.getfield 9, 3) := by decide +kernel
theorem dX2_init_32 : decode cX2_init 32 = .ok (.iload_n 1, 1) := by decide +kernel
theorem dX2_init_33 : decode cX2_init 33 = .ok (.iload_n 1, 1) := by decide +kernel
theorem dX2_init_34 : decode cX2_init 34 = .ok (.iconst 4, 1) := by decide +kernel
theorem dX2_init_35 : decode cX2_init 35 = .ok (.irem, 1) := by decide +kernel
theorem dX2_init_36 : decode cX2_init 36 = .ok (.iastore, 1) := by decide +kernel
theorem dX2_init_37 : decode cX2_init 37 = .ok (.iinc 1 1, 3) := by decide +kernel
theorem dX2_init_40 : decode cX2_init 40 = .ok (.goto (-18), 3) := by decide +kernel
theorem dX2_init_43 : decode cX2_init 43 = .ok (.return_, 1) := by decide +kernel
theorem dX3_init_0 : decode cX3_init 0 = .ok (.aload_n 0, 1) := by decide +kernel
theorem dX3_init_1 : decode cX3_init 1 = .ok (.invokespecial 3, 3) := by decide +kernel
theorem dX3_init_4 : decode cX3_init 4 = .ok (.aload_n 0, 1) := by decide +kernel
theorem dX3_init_5 : decode cX3_init 5 = .ok (.bipush 20, 2) := by decide +kernel
theorem dX3_init_7 : decode cX3_init 7 = .ok (.newarray .int, 2) := by decide +kernel
theorem dX3_init_9 : decode cX3_init 9 = .ok (.putfield 9, 3) := by decide +kernel
theorem dX3_init_12 : decode cX3_init 12 = .ok (.aload_n 0, 1) := by decide +kernel
theorem dX3_init_13 : decode cX3_init 13 = .ok (.bipush 20, 2) := by decide +kernel
theorem dX3_init_15 : decode cX3_init 15 = .ok (.newarray .int, 2) := by decide +kernel
theorem dX3_init_17 : decode cX3_init 17 = .ok (.putfield 15, 3) := by decide +kernel
theorem dX3_init_20 : decode cX3_init 20 = .ok (.aload_n 0, 1) := by decide +kernel
theorem dX3_init_21 : decode cX3_init 21 = .ok (.bipush 20, 2) := by decide +kernel
theorem dX3_init_23 : decode cX3_init 23 = .ok (.newarray .int, 2) := by decide +kernel
theorem dX3_init_25 : decode cX3_init 25 = .ok (.putfield 18, 3) := by decide +kernel
theorem dX3_init_28 : decode cX3_init 28 = .ok (.aload_n 0, 1) := by decide +kernel
theorem dX3_init_29 : decode cX3_init 29 = .ok (.bipush 20, 2) := by decide +kernel
theorem dX3_init_31 : decode cX3_init 31 = .ok (.newarray .int, 2) := by decide +kernel
theorem dX3_init_33 : decode cX3_init 33 = .ok (.putfield 21, 3) := by decide +kernel
theorem dX3_init_36 : decode cX3_init 36 = .ok (.aload_n 0, 1) := by decide +kernel
theorem dX3_init_37 : decode cX3_init 37 = .ok (.bipush 20, 2) := by decide +kernel
theorem dX3_init_39 : decode cX3_init 39 = .ok (.newarray .int, 2) := by decide +kernel
theorem dX3_init_41 : decode cX3_init 41 = .ok (.putfield 24, 3) := by decide +kernel
theorem dX3_init_44 : decode cX3_init 44 = .ok (.aload_n 0, 1) := by decide +kernel
theorem dX3_init_45 : decode cX3_init 45 = .ok (.bipush 20, 2) := by decide +kernel
theorem dX3_init_47 : decode cX3_init 47 = .ok (.newarray .int, 2) := by decide +kernel
theorem dX3_init_49 : decode cX3_init 49 = .ok (.putfield 27, 3) := by decide +kernel
theorem dX3_init_52 : decode cX3_init 52 = .ok (.aload_n 0, 1) := by decide +kernel
theorem dX3_init_53 : decode cX3_init 53 = .ok (.bipush 20, 2) := by decide +kernel
theorem dX3_init_55 : decode cX3_init 55 = .ok (.newarray .int, 2) := by decide +kernel
theorem dX3_init_57 : decode cX3_init 57 = .ok (.putfield 30, 3) := by decide +kernel
theorem dX3_init_60 : decode cX3_init 60 = .ok (.aload_n 0, 1) := by decide +kernel
theorem dX3_init_61 : decode cX3_init 61 = .ok (.bipush 20, 2) := by decide +kernel
theorem dX3_init_63 : decode cX3_init 63 = .ok (.newarray .int, 2) := by decide +kernel
theorem dX3_init_65 : decode cX3_init 65 = .ok (.putfield 33, 3) := by decide +kernel
theorem dX3_init_68 : decode cX3_init 68 = .ok (.aload_n 0, 1) := by decide +kernel
theorem dX3_init_69 : decode cX3_init 69 = .ok (.iconst 0, 1) := by decide +kernel
theorem dX3_init_70 : decode cX3_init 70 = .ok (.putfield 36, 3) := by decide +kernel
theorem dX3_init_73 : decode cX3_init 73 = .ok (.return_, 1) := by decide +kernel
set_option maxRecDepth 20000 in
theorem ggX3_append_X3_putHome : GoodIn wsX3_append wsX3_putHome := goodIn_r _ [10, 2, 3, 11, 12, 13, 9, 14, 15, 16, 17, 18, 19, 20, 21, 22, 23, 24, 25] (by decide +kernel) (by decide +kernel)
set_option maxRecDepth 20000 in
theorem gX3_append_X3_putHome : GoodIn wsX3_append (wsV RX3 40 RX3 yX3_putHome wsX3_putHome) := goodIn_app (goodIn_of _ (by decide +kernel)) ggX3_append_X3_putHome
theorem dX3_append_0 : decode cX3_append 0 = .ok (.aload_n 0, 1) := by decide +kernel
theorem dX3_append_1 : decode cX3_append 1 = .ok (.getfield 36, 3) := by decide +kernel
theorem dX3_append_4 : decode cX3_append 4 = .ok (.istore 5, 2) := by decide +kernel
theorem dX3_append_6 : decode cX3_append 6 = .ok (.aload_n 0, 1) := by decide +kernel
theorem dX3_append_7 : decode cX3_append 7 = .ok (.getfield 9, 3) := by decide +kernel
theorem dX3_append_10 : decode cX3_append 10 = .ok (.iload 5, 2) := by decide +kernel
theorem dX3_append_12 : decode cX3_append 12 = .ok (.iload_n 1, 1) := by decide +kernel
theorem dX3_append_13 : decode cX3_append 13 = .ok (.iastore, 1) := by decide +kernel
theorem dX3_append_14 : decode cX3_append 14 = .ok (.aload_n 0, 1) := by decide +kernel
theorem dX3_append_15 : decode cX3_append 15 = .ok (.getfield 15, 3) := by decide +kernel
theorem dX3_append_18 : decode cX3_append 18 = .ok (.iload 5, 2) := by decide +kernel
theorem dX3_append_20 : decode cX3_append 20 = .ok (.iload_n 2, 1) := by decide +kernel
theorem dX3_append_21 : decode cX3_append 21 = .ok (.iastore, 1) := by decide +kernel
theorem dX3_append_22 : decode cX3_append 22 = .ok (.aload_n 0, 1) := by decide +kernel
theorem dX3_append_23 : decode cX3_append 23 = .ok (.getfield 18, 3) := by decide +kernel
theorem dX3_append_26 : decode cX3_append 26 = .ok (.iload 5, 2) := by decide +kernel
theorem dX3_append_28 : decode cX3_append 28 = .ok (.iload_n 3, 1) := by decide +kernel
theorem dX3_append_29 : decode cX3_append 29 = .ok (.iastore, 1) := by decide +kernel
theorem dX3_append_30 : decode cX3_append 30 = .ok (.aload_n 0, 1) := by decide +kernel
theorem dX3_append_31 : decode cX3_append 31 = .ok (.getfield 21, 3) := by decide +kernel
theorem dX3_append_34 : decode cX3_append 34 = .ok (.iload 5, 2) := by decide +kernel
theorem dX3_append_36 : decode cX3_append 36 = .ok (.iload 4, 2) := by decide +kernel
theorem dX3_append_38 : decode cX3_append 38 = .ok (.iastore, 1) := by decide +kernel
theorem dX3_append_39 : decode cX3_append 39 = .ok (.aload_n 0, 1) := by decide +kernel
theorem dX3_append_40 : decode cX3_append 40 = .ok (.dup, 1) := by decide +kernel
theorem dX3_append_41 : decode cX3_append 41 = .ok (.getfield 36, 3) := by decide +kernel
theorem dX3_append_44 : decode cX3_append 44 = .ok (.iconst 1, 1) := by decide +kernel
theorem dX3_append_45 : decode cX3_append 45 = .ok (.iadd, 1) := by decide +kernel
theorem dX3_append_46 : decode cX3_append 46 = .ok (.putfield 36, 3) := by decide +kernel
theorem dX3_append_49 : decode cX3_append 49 = .ok (.aload_n 0, 1) := by decide +kernel
theorem dX3_append_50 : decode cX3_append 50 = .ok (.iload 5, 2) := by decide +kernel
theorem dX3_append_52 : decode cX3_append 52 = .ok (.invokevirtual 40, 3) := by decide +kernel
theorem dX3_append_55 : decode cX3_append 55 = .ok (.iload 5, 2) := by decide +kernel
theorem dX3_append_57 : decode cX3_append 57 = .ok (.ireturn, 1) := by decide +kernel
theorem dX3_isHome_0 : decode cX3_isHome 0 = .ok (.aload_n 0, 1) := by decide +kernel
theorem dX3_isHome_1 : decode cX3_isHome 1 = .ok (.getfield 24, 3) := by decide +kernel
theorem dX3_isHome_4 : decode cX3_isHome 4 = .ok (.iload_n 1, 1) := by decide +kernel
theorem dX3_isHome_5 : decode cX3_isHome 5 = .ok (.iaload, 1) := by decide +kernel
theorem dX3_isHome_6 : decode cX3_isHome 6 = .ok (.aload_n 0, 1) := by decide +kernel
theorem dX3_isHome_7 : decode cX3_isHome 7 = .ok (.getfield 9, 3) := by decide +kernel
theorem dX3_isHome_10 : decode cX3_isHome 10 = .ok (.iload_n 1, 1) := by decide +kernel
theorem dX3_isHome_11 : decode cX3_isHome 11 = .ok (.iaload, 1) := by decide +kernel
theorem dX3_isHome_12 : decode cX3_isHome 12 = .ok (.if_icmp .ne 7, 3) := by decide +kernel
theorem dX3_isHome_15 : decode cX3_isHome 15 = .ok (.iconst 1, 1) := by decide +kernel
theorem dX3_isHome_16 : decode cX3_isHome 16 = .ok (.goto 4, 3) := by decide +kernel
theorem dX3_isHome_19 : decode cX3_isHome 19 = .ok (.iconst 0, 1) := by decide +kernel
theorem dX3_isHome_20 : decode cX3_isHome 20 = .ok (.ireturn, 1) := by decide +kernel
set_option maxRecDepth 20000 in
theorem ggX3_canGo_X3_isHome : GoodIn wsX3_canGo wsX3_isHome := goodIn_r _ [6, 7, 1, 8, 9, 10, 11, 12, 13, 14, 15, 16] (by decide +kernel) (by decide +kernel)
set_option maxRecDepth 20000 in
theorem gX3_canGo_X3_isHome : GoodIn wsX3_canGo (wsV RX3 44 RX3 yX3_isHome wsX3_isHome) := goodIn_app (goodIn_of _ (by decide +kernel)) ggX3_canGo_X3_isHome
theorem dX3_canGo_0 : decode cX3_canGo 0 = .ok (.aload_n 0, 1) := by decide +kernel
theorem dX3_canGo_1 : decode cX3_canGo 1 = .ok (.iload_n 1, 1) := by decide +kernel
theorem dX3_canGo_2 : decode cX3_canGo 2 = .ok (.invokevirtual 44, 3) := by decide +kernel
theorem dX3_canGo_5 : decode cX3_canGo 5 = .ok (.ifCond .eq 17, 3) := by decide +kernel
theorem dX3_canGo_8 : decode cX3_canGo 8 = .ok (.aload_n 0, 1) := by decide +kernel
theorem dX3_canGo_9 : decode cX3_canGo 9 = .ok (.getfield 9, 3) := by decide +kernel
theorem dX3_canGo_12 : decode cX3_canGo 12 = .ok (.iload_n 1, 1) := by decide +kernel
theorem dX3_canGo_13 : decode cX3_canGo 13 = .ok (.iaload, 1) := by decide +kernel
theorem dX3_canGo_14 : decode cX3_canGo 14 = .ok (.iload_n 2, 1) := by decide +kernel
theorem dX3_canGo_15 : decode cX3_canGo 15 = .ok (.if_icmp .eq 7, 3) := by decide +kernel
theorem dX3_canGo_18 : decode cX3_canGo 18 = .ok (.iconst 1, 1) := by decide +kernel
theorem dX3_canGo_19 : decode cX3_canGo 19 = .ok (.goto 4, 3) := by decide +kernel
theorem dX3_canGo_22 : decode cX3_canGo 22 = .ok (.iconst 0, 1) := by decide +kernel
theorem dX3_canGo_23 : decode cX3_canGo 23 = .ok (.ireturn, 1) := by decide +kernel
theorem dX3_put_0 : decode cX3_put 0 = .ok (.aload_n 0, 1) := by decide +kernel
theorem dX3_put_1 : decode cX3_put 1 = .ok (.getfield 24, 3) := by decide +kernel
theorem dX3_put_4 : decode cX3_put 4 = .ok (.iload_n 1, 1) := by decide +kernel
theorem dX3_put_5 : decode cX3_put 5 = .ok (.iload_n 2, 1) := by decide +kernel
theorem dX3_put_6 : decode cX3_put 6 = .ok (.iastore, 1) := by decide +kernel
theorem dX3_put_7 : decode cX3_put 7 = .ok (.aload_n 0, 1) := by decide +kernel
theorem dX3_put_8 : decode cX3_put 8 = .ok (.getfield 27, 3) := by decide +kernel
theorem dX3_put_11 : decode cX3_put 11 = .ok (.iload_n 1, 1) := by decide +kernel
theorem dX3_put_12 : decode cX3_put 12 = .ok (.iload_n 3, 1) := by decide +kernel
theorem dX3_put_13 : decode cX3_put 13 = .ok (.iastore, 1) := by decide +kernel
theorem dX3_put_14 : decode cX3_put 14 = .ok (.return_, 1) := by decide +kernel
set_option maxRecDepth 20000 in
theorem ggX3_putHome_X3_put : GoodIn wsX3_putHome wsX3_put := goodIn_r _ [7, 8, 9, 10, 11, 12, 13, 14, 15, 16, 17, 18] (by decide +kernel) (by decide +kernel)
set_option maxRecDepth 20000 in
theorem gX3_putHome_X3_put : GoodIn wsX3_putHome (wsV RX3 48 RX3 yX3_put wsX3_put) := goodIn_app (goodIn_of _ (by decide +kernel)) ggX3_putHome_X3_put
theorem dX3_putHome_0 : decode cX3_putHome 0 = .ok (.aload_n 0, 1) := by decide +kernel
theorem dX3_putHome_1 : decode cX3_putHome 1 = .ok (.iload_n 1, 1) := by decide +kernel
theorem dX3_putHome_2 : decode cX3_putHome 2 = .ok (.aload_n 0, 1) := by decide +kernel
theorem dX3_putHome_3 : decode cX3_putHome 3 = .ok (.getfield 9, 3) := by decide +kernel
theorem dX3_putHome_6 : decode cX3_putHome 6 = .ok (.iload_n 1, 1) := by decide +kernel
theorem dX3_putHome_7 : decode cX3_putHome 7 = .ok (.iaload, 1) := by decide +kernel
theorem dX3_putHome_8 : decode cX3_putHome 8 = .ok (.aload_n 0, 1) := by decide +kernel
theorem dX3_putHome_9 : decode cX3_putHome 9 = .ok (.getfield 15, 3) := by decide +kernel
theorem dX3_putHome_12 : decode cX3_putHome 12 = .ok (.iload_n 1, 1) := by decide +kernel
theorem dX3_putHome_13 : decode cX3_putHome 13 = .ok (.iaload, 1) := by decide +kernel
theorem dX3_putHome_14 : decode cX3_putHome 14 = .ok (.invokevirtual 48, 3) := by decide +kernel
theorem dX3_putHome_17 : decode cX3_putHome 17 = .ok (.return_, 1) := by decide +kernel
theorem dX3_isFor_0 : decode cX3_isFor 0 = .ok (.aload_n 0, 1) := by decide +kernel
theorem dX3_isFor_1 : decode cX3_isFor 1 = .ok (.getfield 24, 3) := by decide +kernel
theorem dX3_isFor_4 : decode cX3_isFor 4 = .ok (.iload_n 1, 1) := by decide +kernel
theorem dX3_isFor_5 : decode cX3_isFor 5 = .ok (.iaload, 1) := by decide +kernel
theorem dX3_isFor_6 : decode cX3_isFor 6 = .ok (.iload_n 2, 1) := by decide +kernel
theorem dX3_isFor_7 : decode cX3_isFor 7 = .ok (.if_icmp .ne 17, 3) := by decide +kernel
theorem dX3_isFor_10 : decode cX3_isFor 10 = .ok (.aload_n 0, 1) := by decide +kernel
theorem dX3_isFor_11 : decode cX3_isFor 11 = .ok (.getfield 27, 3) := by decide +kernel
theorem dX3_isFor_14 : decode cX3_isFor 14 = .ok (.iload_n 1, 1) := by decide +kernel
theorem dX3_isFor_15 : decode cX3_isFor 15 = .ok (.iaload, 1) := by decide +kernel
theorem dX3_isFor_16 : decode cX3_isFor 16 = .ok (.iload_n 3, 1) := by decide +kernel
theorem dX3_isFor_17 : decode cX3_isFor 17 = .ok (.if_icmp .ne 7, 3) := by decide +kernel
theorem dX3_isFor_20 : decode cX3_isFor 20 = .ok (.iconst 1, 1) := by decide +kernel
theorem dX3_isFor_21 : decode cX3_isFor 21 = .ok (.goto 4, 3) := by decide +kernel
theorem dX3_isFor_24 : decode cX3_isFor 24 = .ok (.iconst 0, 1) := by decide +kernel
theorem dX3_isFor_25 : decode cX3_isFor 25 = .ok (.ireturn, 1) := by decide +kernel
set_option maxRecDepth 20000 in
theorem ggX3_lampsFor_X3_isFor : GoodIn wsX3_lampsFor wsX3_isFor := goodIn_r _ [7, 8, 9, 10, 11, 12, 13, 14, 15, 16, 17, 18] (by decide +kernel) (by decide +kernel)
set_option maxRecDepth 20000 in
theorem gX3_lampsFor_X3_isFor : GoodIn wsX3_lampsFor (wsV RX3 52 RX3 yX3_isFor wsX3_isFor) := goodIn_app (goodIn_of _ (by decide +kernel)) ggX3_lampsFor_X3_isFor
theorem dX3_lampsFor_0 : decode cX3_lampsFor 0 = .ok (.iconst 0, 1) := by decide +kernel
theorem dX3_lampsFor_1 : decode cX3_lampsFor 1 = .ok (.istore 4, 2) := by decide +kernel
theorem dX3_lampsFor_3 : decode cX3_lampsFor 3 = .ok (.iconst 0, 1) := by decide +kernel
theorem dX3_lampsFor_4 : decode cX3_lampsFor 4 = .ok (.istore 5, 2) := by decide +kernel
theorem dX3_lampsFor_6 : decode cX3_lampsFor 6 = .ok (.iconst 0, 1) := by decide +kernel
theorem dX3_lampsFor_7 : decode cX3_lampsFor 7 = .ok (.istore 6, 2) := by decide +kernel
theorem dX3_lampsFor_9 : decode cX3_lampsFor 9 = .ok (.iload 6, 2) := by decide +kernel
theorem dX3_lampsFor_11 : decode cX3_lampsFor 11 = .ok (.aload_n 0, 1) := by decide +kernel
theorem dX3_lampsFor_12 : decode cX3_lampsFor 12 = .ok (.getfield 36, 3) := by decide +kernel
theorem dX3_lampsFor_15 : decode cX3_lampsFor 15 = .ok (.if_icmp .ge 49, 3) := by decide +kernel
theorem dX3_lampsFor_18 : decode cX3_lampsFor 18 = .ok (.aload_n 0, 1) := by decide +kernel
theorem dX3_lampsFor_19 : decode cX3_lampsFor 19 = .ok (.iload 6, 2) := by decide +kernel
theorem dX3_lampsFor_21 : decode cX3_lampsFor 21 = .ok (.iload_n 1, 1) := by decide +kernel
theorem dX3_lampsFor_22 : decode cX3_lampsFor 22 = .ok (.iload_n 2, 1) := by decide +kernel
theorem dX3_lampsFor_23 : decode cX3_lampsFor 23 = .ok (.invokevirtual 52, 3) := by decide +kernel
theorem dX3_lampsFor_26 : decode cX3_lampsFor 26 = .ok (.ifCond .eq 32, 3) := by decide +kernel
theorem dX3_lampsFor_29 : decode cX3_lampsFor 29 = .ok (.iload 5, 2) := by decide +kernel
theorem dX3_lampsFor_31 : decode cX3_lampsFor 31 = .ok (.iconst 1, 1) := by decide +kernel
theorem dX3_lampsFor_32 : decode cX3_lampsFor 32 = .ok (.iload 6, 2) := by decide +kernel
theorem dX3_lampsFor_34 : decode cX3_lampsFor 34 = .ok (.ishl, 1) := by decide +kernel
theorem dX3_lampsFor_35 : decode cX3_lampsFor 35 = .ok (.ior, 1) := by decide +kernel
theorem dX3_lampsFor_36 : decode cX3_lampsFor 36 = .ok (.istore 5, 2) := by decide +kernel
theorem dX3_lampsFor_38 : decode cX3_lampsFor 38 = .ok (.aload_n 0, 1) := by decide +kernel
theorem dX3_lampsFor_39 : decode cX3_lampsFor 39 = .ok (.getfield 18, 3) := by decide +kernel
theorem dX3_lampsFor_42 : decode cX3_lampsFor 42 = .ok (.iload 6, 2) := by decide +kernel
theorem dX3_lampsFor_44 : decode cX3_lampsFor 44 = .ok (.iaload, 1) := by decide +kernel
theorem dX3_lampsFor_45 : decode cX3_lampsFor 45 = .ok (.iload_n 3, 1) := by decide +kernel
theorem dX3_lampsFor_46 : decode cX3_lampsFor 46 = .ok (.if_icmp .ne 12, 3) := by decide +kernel
theorem dX3_lampsFor_49 : decode cX3_lampsFor 49 = .ok (.iload 4, 2) := by decide +kernel
theorem dX3_lampsFor_51 : decode cX3_lampsFor 51 = .ok (.iconst 1, 1) := by decide +kernel
theorem dX3_lampsFor_52 : decode cX3_lampsFor 52 = .ok (.iload 6, 2) := by decide +kernel
theorem dX3_lampsFor_54 : decode cX3_lampsFor 54 = .ok (.ishl, 1) := by decide +kernel
theorem dX3_lampsFor_55 : decode cX3_lampsFor 55 = .ok (.ior, 1) := by decide +kernel
theorem dX3_lampsFor_56 : decode cX3_lampsFor 56 = .ok (.istore 4, 2) := by decide +kernel
theorem dX3_lampsFor_58 : decode cX3_lampsFor 58 = .ok (.iinc 6 1, 3) := by decide +kernel
theorem dX3_lampsFor_61 : decode cX3_lampsFor 61 = .ok (.goto (-52), 3) := by decide +kernel
theorem dX3_lampsFor_64 : decode cX3_lampsFor 64 = .ok (.iload 4, 2) := by decide +kernel
theorem dX3_lampsFor_66 : decode cX3_lampsFor 66 = .ok (.ifCond .eq 8, 3) := by decide +kernel
theorem dX3_lampsFor_69 : decode cX3_lampsFor 69 = .ok (.iload 4, 2) := by decide +kernel
theorem dX3_lampsFor_71 : decode cX3_lampsFor 71 = .ok (.goto 5, 3) := by decide +kernel
theorem dX3_lampsFor_74 : decode cX3_lampsFor 74 = .ok (.iload 5, 2) := by decide +kernel
theorem dX3_lampsFor_76 : decode cX3_lampsFor 76 = .ok (.ireturn, 1) := by decide +kernel
set_option maxRecDepth 20000 in
theorem ggX3_lay_X3_lampsFor : GoodIn wsX3_lay wsX3_lampsFor := goodIn_r _ [5, 6, 7, 8, 9, 10, 4, 11, 12, 13, 16, 17, 18, 19, 20, 21, 22, 23, 24] (by decide +kernel) (by decide +kernel)
set_option maxRecDepth 20000 in
theorem gX3_lay_X3_lampsFor : GoodIn wsX3_lay (wsV RX3 60 RX3 yX3_lampsFor wsX3_lampsFor) := goodIn_app (goodIn_of _ (by decide +kernel)) ggX3_lay_X3_lampsFor
theorem dX3_lay_0 : decode cX3_lay 0 = .ok (.iconst 0, 1) := by decide +kernel
theorem dX3_lay_1 : decode cX3_lay 1 = .ok (.istore 4, 2) := by decide +kernel
theorem dX3_lay_3 : decode cX3_lay 3 = .ok (.iload 4, 2) := by decide +kernel
theorem dX3_lay_5 : decode cX3_lay 5 = .ok (.bipush 10, 2) := by decide +kernel
theorem dX3_lay_7 : decode cX3_lay 7 = .ok (.if_icmp .ge 32, 3) := by decide +kernel
theorem dX3_lay_10 : decode cX3_lay 10 = .ok (.aload_n 3, 1) := by decide +kernel
theorem dX3_lay_11 : decode cX3_lay 11 = .ok (.iload 4, 2) := by decide +kernel
theorem dX3_lay_13 : decode cX3_lay 13 = .ok (.aload_n 0, 1) := by decide +kernel
theorem dX3_lay_14 : decode cX3_lay 14 = .ok (.iload_n 1, 1) := by decide +kernel
theorem dX3_lay_15 : decode cX3_lay 15 = .ok (.aload_n 2, 1) := by decide +kernel
theorem dX3_lay_16 : decode cX3_lay 16 = .ok (.getfield 56, 3) := by decide +kernel
theorem dX3_lay_19 : decode cX3_lay 19 = .ok (.iload 4, 2) := by decide +kernel
theorem dX3_lay_21 : decode cX3_lay 21 = .ok (.iaload, 1) := by decide +kernel
theorem dX3_lay_22 : decode cX3_lay 22 = .ok (.aload_n 2, 1) := by decide +kernel
theorem dX3_lay_23 : decode cX3_lay 23 = .ok (.getfield 59, 3) := by decide +kernel
theorem dX3_lay_26 : decode cX3_lay 26 = .ok (.iload 4, 2) := by decide +kernel
theorem dX3_lay_28 : decode cX3_lay 28 = .ok (.iaload, 1) := by decide +kernel
theorem dX3_lay_29 : decode cX3_lay 29 = .ok (.invokevirtual 60, 3) := by decide +kernel
theorem dX3_lay_32 : decode cX3_lay 32 = .ok (.iastore, 1) := by decide +kernel
theorem dX3_lay_33 : decode cX3_lay 33 = .ok (.iinc 4 1, 3) := by decide +kernel
theorem dX3_lay_36 : decode cX3_lay 36 = .ok (.goto (-33), 3) := by decide +kernel
theorem dX3_lay_39 : decode cX3_lay 39 = .ok (.return_, 1) := by decide +kernel
theorem dX3_levelOf_0 : decode cX3_levelOf 0 = .ok (.aload_n 0, 1) := by decide +kernel
theorem dX3_levelOf_1 : decode cX3_levelOf 1 = .ok (.getfield 30, 3) := by decide +kernel
theorem dX3_levelOf_4 : decode cX3_levelOf 4 = .ok (.iload_n 1, 1) := by decide +kernel
theorem dX3_levelOf_5 : decode cX3_levelOf 5 = .ok (.iaload, 1) := by decide +kernel
theorem dX3_levelOf_6 : decode cX3_levelOf 6 = .ok (.sipush 300, 3) := by decide +kernel
theorem dX3_levelOf_9 : decode cX3_levelOf 9 = .ok (.if_icmp .lt 5, 3) := by decide +kernel
theorem dX3_levelOf_12 : decode cX3_levelOf 12 = .ok (.iconst 0, 1) := by decide +kernel
theorem dX3_levelOf_13 : decode cX3_levelOf 13 = .ok (.ireturn, 1) := by decide +kernel
theorem dX3_levelOf_14 : decode cX3_levelOf 14 = .ok (.iconst 0, 1) := by decide +kernel
theorem dX3_levelOf_15 : decode cX3_levelOf 15 = .ok (.istore 4, 2) := by decide +kernel
theorem dX3_levelOf_17 : decode cX3_levelOf 17 = .ok (.iconst 0, 1) := by decide +kernel
theorem dX3_levelOf_18 : decode cX3_levelOf 18 = .ok (.istore 5, 2) := by decide +kernel
theorem dX3_levelOf_20 : decode cX3_levelOf 20 = .ok (.iload 5, 2) := by decide +kernel
theorem dX3_levelOf_22 : decode cX3_levelOf 22 = .ok (.bipush 10, 2) := by decide +kernel
theorem dX3_levelOf_24 : decode cX3_levelOf 24 = .ok (.if_icmp .ge 35, 3) := by decide +kernel
theorem dX3_levelOf_27 : decode cX3_levelOf 27 = .ok (.aload_n 2, 1) := by decide +kernel
theorem dX3_levelOf_28 : decode cX3_levelOf 28 = .ok (.iload 5, 2) := by decide +kernel
theorem dX3_levelOf_30 : decode cX3_levelOf 30 = .ok (.iaload, 1) := by decide +kernel
theorem dX3_levelOf_31 : decode cX3_levelOf 31 = .ok (.iload_n 1, 1) := by decide +kernel
theorem dX3_levelOf_32 : decode cX3_levelOf 32 = .ok (.ishr, 1) := by decide +kernel
theorem dX3_levelOf_33 : decode cX3_levelOf 33 = .ok (.iconst 1, 1) := by decide +kernel
theorem dX3_levelOf_34 : decode cX3_levelOf 34 = .ok (.iand, 1) := by decide +kernel
theorem dX3_levelOf_35 : decode cX3_levelOf 35 = .ok (.ifCond .eq 18, 3) := by decide +kernel
theorem dX3_levelOf_38 : decode cX3_levelOf 38 = .ok (.aload_n 3, 1) := by decide +kernel
theorem dX3_levelOf_39 : decode cX3_levelOf 39 = .ok (.iload 5, 2) := by decide +kernel
theorem dX3_levelOf_41 : decode cX3_levelOf 41 = .ok (.iaload, 1) := by decide +kernel
theorem dX3_levelOf_42 : decode cX3_levelOf 42 = .ok (.iload 4, 2) := by decide +kernel
theorem dX3_levelOf_44 : decode cX3_levelOf 44 = .ok (.if_icmp .le 9, 3) := by decide +kernel
theorem dX3_levelOf_47 : decode cX3_levelOf 47 = .ok (.aload_n 3, 1) := by decide +kernel
theorem dX3_levelOf_48 : decode cX3_levelOf 48 = .ok (.iload 5, 2) := by decide +kernel
theorem dX3_levelOf_50 : decode cX3_levelOf 50 = .ok (.iaload, 1) := by decide +kernel
theorem dX3_levelOf_51 : decode cX3_levelOf 51 = .ok (.istore 4, 2) := by decide +kernel
theorem dX3_levelOf_53 : decode cX3_levelOf 53 = .ok (.iinc 5 1, 3) := by decide +kernel
theorem dX3_levelOf_56 : decode cX3_levelOf 56 = .ok (.goto (-36), 3) := by decide +kernel
theorem dX3_levelOf_59 : decode cX3_levelOf 59 = .ok (.iload 4, 2) := by decide +kernel
theorem dX3_levelOf_61 : decode cX3_levelOf 61 = .ok (.ireturn, 1) := by decide +kernel
set_option maxRecDepth 20000 in
theorem ggX3_lightOf_X3_isFor : GoodIn wsX3_lightOf wsX3_isFor := goodIn_r _ [7, 8, 9, 15, 16, 17, 18, 19, 20, 21, 22, 23] (by decide +kernel) (by decide +kernel)
set_option maxRecDepth 20000 in
theorem gX3_lightOf_X3_isFor : GoodIn wsX3_lightOf (wsV RX3 52 RX3 yX3_isFor wsX3_isFor) := goodIn_app (goodIn_of _ (by decide +kernel)) ggX3_lightOf_X3_isFor
set_option maxRecDepth 20000 in
theorem ggX3_lightOf_X3_levelOf : GoodIn wsX3_lightOf wsX3_levelOf := goodIn_r _ [13, 14, 15, 16, 17, 18, 19, 20, 21, 22, 23] (by decide +kernel) (by decide +kernel)
set_option maxRecDepth 20000 in
theorem gX3_lightOf_X3_levelOf : GoodIn wsX3_lightOf (wsV RX3 64 RX3 yX3_levelOf wsX3_levelOf) := goodIn_app (goodIn_of _ (by decide +kernel)) ggX3_lightOf_X3_levelOf
theorem dX3_lightOf_0 : decode cX3_lightOf 0 = .ok (.iconst 0, 1) := by decide +kernel
theorem dX3_lightOf_1 : decode cX3_lightOf 1 = .ok (.istore 5, 2) := by decide +kernel
theorem dX3_lightOf_3 : decode cX3_lightOf 3 = .ok (.iconst 0, 1) := by decide +kernel
theorem dX3_lightOf_4 : decode cX3_lightOf 4 = .ok (.istore 6, 2) := by decide +kernel
theorem dX3_lightOf_6 : decode cX3_lightOf 6 = .ok (.iload 6, 2) := by decide +kernel
theorem dX3_lightOf_8 : decode cX3_lightOf 8 = .ok (.aload_n 0, 1) := by decide +kernel
theorem dX3_lightOf_9 : decode cX3_lightOf 9 = .ok (.getfield 36, 3) := by decide +kernel
theorem dX3_lightOf_12 : decode cX3_lightOf 12 = .ok (.if_icmp .ge 45, 3) := by decide +kernel
theorem dX3_lightOf_15 : decode cX3_lightOf 15 = .ok (.aload_n 0, 1) := by decide +kernel
theorem dX3_lightOf_16 : decode cX3_lightOf 16 = .ok (.iload 6, 2) := by decide +kernel
theorem dX3_lightOf_18 : decode cX3_lightOf 18 = .ok (.iload_n 1, 1) := by decide +kernel
theorem dX3_lightOf_19 : decode cX3_lightOf 19 = .ok (.iload_n 2, 1) := by decide +kernel
theorem dX3_lightOf_20 : decode cX3_lightOf 20 = .ok (.invokevirtual 52, 3) := by decide +kernel
theorem dX3_lightOf_23 : decode cX3_lightOf 23 = .ok (.ifCond .eq 28, 3) := by decide +kernel
theorem dX3_lightOf_26 : decode cX3_lightOf 26 = .ok (.iload 5, 2) := by decide +kernel
theorem dX3_lightOf_28 : decode cX3_lightOf 28 = .ok (.aload_n 0, 1) := by decide +kernel
theorem dX3_lightOf_29 : decode cX3_lightOf 29 = .ok (.iload 6, 2) := by decide +kernel
theorem dX3_lightOf_31 : decode cX3_lightOf 31 = .ok (.aload_n 3, 1) := by decide +kernel
theorem dX3_lightOf_32 : decode cX3_lightOf 32 = .ok (.aload 4, 2) := by decide +kernel
theorem dX3_lightOf_34 : decode cX3_lightOf 34 = .ok (.invokevirtual 64, 3) := by decide +kernel
theorem dX3_lightOf_37 : decode cX3_lightOf 37 = .ok (.aload_n 0, 1) := by decide +kernel
theorem dX3_lightOf_38 : decode cX3_lightOf 38 = .ok (.getfield 21, 3) := by decide +kernel
theorem dX3_lightOf_41 : decode cX3_lightOf 41 = .ok (.iload 6, 2) := by decide +kernel
theorem dX3_lightOf_43 : decode cX3_lightOf 43 = .ok (.iaload, 1) := by decide +kernel
theorem dX3_lightOf_44 : decode cX3_lightOf 44 = .ok (.imul, 1) := by decide +kernel
theorem dX3_lightOf_45 : decode cX3_lightOf 45 = .ok (.bipush 100, 2) := by decide +kernel
theorem dX3_lightOf_47 : decode cX3_lightOf 47 = .ok (.idiv, 1) := by decide +kernel
theorem dX3_lightOf_48 : decode cX3_lightOf 48 = .ok (.iadd, 1) := by decide +kernel
theorem dX3_lightOf_49 : decode cX3_lightOf 49 = .ok (.istore 5, 2) := by decide +kernel
theorem dX3_lightOf_51 : decode cX3_lightOf 51 = .ok (.iinc 6 1, 3) := by decide +kernel
theorem dX3_lightOf_54 : decode cX3_lightOf 54 = .ok (.goto (-48), 3) := by decide +kernel
theorem dX3_lightOf_57 : decode cX3_lightOf 57 = .ok (.iload 5, 2) := by decide +kernel
theorem dX3_lightOf_59 : decode cX3_lightOf 59 = .ok (.bipush 100, 2) := by decide +kernel
theorem dX3_lightOf_61 : decode cX3_lightOf 61 = .ok (.if_icmp .ge 8, 3) := by decide +kernel
theorem dX3_lightOf_64 : decode cX3_lightOf 64 = .ok (.iload 5, 2) := by decide +kernel
theorem dX3_lightOf_66 : decode cX3_lightOf 66 = .ok (.goto 5, 3) := by decide +kernel
theorem dX3_lightOf_69 : decode cX3_lightOf 69 = .ok (.bipush 100, 2) := by decide +kernel
theorem dX3_lightOf_71 : decode cX3_lightOf 71 = .ok (.ireturn, 1) := by decide +kernel
theorem dX3_startBurning_0 : decode cX3_startBurning 0 = .ok (.iconst 0, 1) := by decide +kernel
theorem dX3_startBurning_1 : decode cX3_startBurning 1 = .ok (.istore_n 1, 1) := by decide +kernel
theorem dX3_startBurning_2 : decode cX3_startBurning 2 = .ok (.iload_n 1, 1) := by decide +kernel
theorem dX3_startBurning_3 : decode cX3_startBurning 3 = .ok (.aload_n 0, 1) := by decide +kernel
theorem dX3_startBurning_4 : decode cX3_startBurning 4 = .ok (.getfield 36, 3) := by decide +kernel
theorem dX3_startBurning_7 : decode cX3_startBurning 7 = .ok (.if_icmp .ge 16, 3) := by decide +kernel
theorem dX3_startBurning_10 : decode cX3_startBurning 10 = .ok (.aload_n 0, 1) := by decide +kernel
theorem dX3_startBurning_11 : decode cX3_startBurning 11 = .ok (.getfield 33, 3) := by decide +kernel
theorem dX3_startBurning_14 : decode cX3_startBurning 14 = .ok (.iload_n 1, 1) := by decide +kernel
theorem dX3_startBurning_15 : decode cX3_startBurning 15 = .ok (.iconst 0, 1) := by decide +kernel
theorem dX3_startBurning_16 : decode cX3_startBurning 16 = .ok (.iastore, 1) := by decide +kernel
theorem dX3_startBurning_17 : decode cX3_startBurning 17 = .ok (.iinc 1 1, 3) := by decide +kernel
theorem dX3_startBurning_20 : decode cX3_startBurning 20 = .ok (.goto (-18), 3) := by decide +kernel
theorem dX3_startBurning_23 : decode cX3_startBurning 23 = .ok (.return_, 1) := by decide +kernel
set_option maxRecDepth 20000 in
theorem ggX3_burn_X3_levelOf : GoodIn wsX3_burn wsX3_levelOf := goodIn_r _ [8, 9, 10, 11, 12, 13, 14, 15, 16, 17, 18] (by decide +kernel) (by decide +kernel)
set_option maxRecDepth 20000 in
theorem gX3_burn_X3_levelOf : GoodIn wsX3_burn (wsV RX3 64 RX3 yX3_levelOf wsX3_levelOf) := goodIn_app (goodIn_of _ (by decide +kernel)) ggX3_burn_X3_levelOf
theorem dX3_burn_0 : decode cX3_burn 0 = .ok (.iconst 0, 1) := by decide +kernel
theorem dX3_burn_1 : decode cX3_burn 1 = .ok (.istore 4, 2) := by decide +kernel
theorem dX3_burn_3 : decode cX3_burn 3 = .ok (.iload 4, 2) := by decide +kernel
theorem dX3_burn_5 : decode cX3_burn 5 = .ok (.aload_n 0, 1) := by decide +kernel
theorem dX3_burn_6 : decode cX3_burn 6 = .ok (.getfield 36, 3) := by decide +kernel
theorem dX3_burn_9 : decode cX3_burn 9 = .ok (.if_icmp .ge 42, 3) := by decide +kernel
theorem dX3_burn_12 : decode cX3_burn 12 = .ok (.aload_n 0, 1) := by decide +kernel
theorem dX3_burn_13 : decode cX3_burn 13 = .ok (.getfield 24, 3) := by decide +kernel
theorem dX3_burn_16 : decode cX3_burn 16 = .ok (.iload 4, 2) := by decide +kernel
theorem dX3_burn_18 : decode cX3_burn 18 = .ok (.iaload, 1) := by decide +kernel
theorem dX3_burn_19 : decode cX3_burn 19 = .ok (.iload_n 1, 1) := by decide +kernel
theorem dX3_burn_20 : decode cX3_burn 20 = .ok (.if_icmp .ne 25, 3) := by decide +kernel
theorem dX3_burn_23 : decode cX3_burn 23 = .ok (.aload_n 0, 1) := by decide +kernel
theorem dX3_burn_24 : decode cX3_burn 24 = .ok (.iload 4, 2) := by decide +kernel
theorem dX3_burn_26 : decode cX3_burn 26 = .ok (.aload_n 2, 1) := by decide +kernel
theorem dX3_burn_27 : decode cX3_burn 27 = .ok (.aload_n 3, 1) := by decide +kernel
theorem dX3_burn_28 : decode cX3_burn 28 = .ok (.invokevirtual 64, 3) := by decide +kernel
theorem dX3_burn_31 : decode cX3_burn 31 = .ok (.ifCond .le 14, 3) := by decide +kernel
theorem dX3_burn_34 : decode cX3_burn 34 = .ok (.aload_n 0, 1) := by decide +kernel
theorem dX3_burn_35 : decode cX3_burn 35 = .ok (.getfield 33, 3) := by decide +kernel
theorem dX3_burn_38 : decode cX3_burn 38 = .ok (.iload 4, 2) := by decide +kernel
theorem dX3_burn_40 : decode cX3_burn 40 = .ok (.dup2, 1) := by decide +kernel
theorem dX3_burn_41 : decode cX3_burn 41 = .ok (.iaload, 1) := by decide +kernel
theorem dX3_burn_42 : decode cX3_burn 42 = .ok (.iconst 1, 1) := by decide +kernel
theorem dX3_burn_43 : decode cX3_burn 43 = .ok (.iadd, 1) := by decide +kernel
theorem dX3_burn_44 : decode cX3_burn 44 = .ok (.iastore, 1) := by decide +kernel
theorem dX3_burn_45 : decode cX3_burn 45 = .ok (.iinc 4 1, 3) := by decide +kernel
theorem dX3_burn_48 : decode cX3_burn 48 = .ok (.goto (-45), 3) := by decide +kernel
theorem dX3_burn_51 : decode cX3_burn 51 = .ok (.return_, 1) := by decide +kernel
theorem dX3_addBurnt_0 : decode cX3_addBurnt 0 = .ok (.iconst 0, 1) := by decide +kernel
theorem dX3_addBurnt_1 : decode cX3_addBurnt 1 = .ok (.istore_n 1, 1) := by decide +kernel
theorem dX3_addBurnt_2 : decode cX3_addBurnt 2 = .ok (.iload_n 1, 1) := by decide +kernel
theorem dX3_addBurnt_3 : decode cX3_addBurnt 3 = .ok (.aload_n 0, 1) := by decide +kernel
theorem dX3_addBurnt_4 : decode cX3_addBurnt 4 = .ok (.getfield 36, 3) := by decide +kernel
theorem dX3_addBurnt_7 : decode cX3_addBurnt 7 = .ok (.if_icmp .ge 24, 3) := by decide +kernel
theorem dX3_addBurnt_10 : decode cX3_addBurnt 10 = .ok (.aload_n 0, 1) := by decide +kernel
theorem dX3_addBurnt_11 : decode cX3_addBurnt 11 = .ok (.getfield 30, 3) := by decide +kernel
theorem dX3_addBurnt_14 : decode cX3_addBurnt 14 = .ok (.iload_n 1, 1) := by decide +kernel
theorem dX3_addBurnt_15 : decode cX3_addBurnt 15 = .ok (.dup2, 1) := by decide +kernel
theorem dX3_addBurnt_16 : decode cX3_addBurnt 16 = .ok (.iaload, 1) := by decide +kernel
theorem dX3_addBurnt_17 : decode cX3_addBurnt 17 = .ok (.aload_n 0, 1) := by decide +kernel
theorem dX3_addBurnt_18 : decode cX3_addBurnt 18 = .ok (.getfield 33, 3) := by decide +kernel
theorem dX3_addBurnt_21 : decode cX3_addBurnt 21 = .ok (.iload_n 1, 1) := by decide +kernel
theorem dX3_addBurnt_22 : decode cX3_addBurnt 22 = .ok (.iaload, 1) := by decide +kernel
theorem dX3_addBurnt_23 : decode cX3_addBurnt 23 = .ok (.iadd, 1) := by decide +kernel
theorem dX3_addBurnt_24 : decode cX3_addBurnt 24 = .ok (.iastore, 1) := by decide +kernel
theorem dX3_addBurnt_25 : decode cX3_addBurnt 25 = .ok (.iinc 1 1, 3) := by decide +kernel
theorem dX3_addBurnt_28 : decode cX3_addBurnt 28 = .ok (.goto (-26), 3) := by decide +kernel
theorem dX3_addBurnt_31 : decode cX3_addBurnt 31 = .ok (.return_, 1) := by decide +kernel
theorem dX4_init_0 : decode cX4_init 0 = .ok (.aload_n 0, 1) := by decide +kernel
theorem dX4_init_1 : decode cX4_init 1 = .ok (.invokespecial 3, 3) := by decide +kernel
theorem dX4_init_4 : decode cX4_init 4 = .ok (.aload_n 0, 1) := by decide +kernel
theorem dX4_init_5 : decode cX4_init 5 = .ok (.bipush 30, 2) := by decide +kernel
theorem dX4_init_7 : decode cX4_init 7 = .ok (.newarray .int, 2) := by decide +kernel
theorem dX4_init_9 : decode cX4_init 9 = .ok (.putfield 9, 3) := by decide +kernel
theorem dX4_init_12 : decode cX4_init 12 = .ok (.aload_n 0, 1) := by decide +kernel
theorem dX4_init_13 : decode cX4_init 13 = .ok (.bipush 30, 2) := by decide +kernel
theorem dX4_init_15 : decode cX4_init 15 = .ok (.newarray .boolean, 2) := by decide +kernel
theorem dX4_init_17 : decode cX4_init 17 = .ok (.putfield 15, 3) := by decide +kernel
theorem dX4_init_20 : decode cX4_init 20 = .ok (.aload_n 0, 1) := by decide +kernel
theorem dX4_init_21 : decode cX4_init 21 = .ok (.bipush 30, 2) := by decide +kernel
theorem dX4_init_23 : decode cX4_init 23 = .ok (.iconst 4, 1) := by decide +kernel
theorem dX4_init_24 : decode cX4_init 24 = .ok (.multianewarray 19 2, 4) := by decide +kernel
theorem dX4_init_28 : decode cX4_init 28 = .ok (.putfield 21, 3) := by decide +kernel
theorem dX4_init_31 : decode cX4_init 31 = .ok (.aload_n 0, 1) := by decide +kernel
theorem dX4_init_32 : decode cX4_init 32 = .ok (.iconst 0, 1) := by decide +kernel
theorem dX4_init_33 : decode cX4_init 33 = .ok (.putfield 24, 3) := by decide +kernel
theorem dX4_init_36 : decode cX4_init 36 = .ok (.return_, 1) := by decide +kernel
theorem dX4_append_0 : decode cX4_append 0 = .ok (.aload_n 0, 1) := by decide +kernel
theorem dX4_append_1 : decode cX4_append 1 = .ok (.getfield 9, 3) := by decide +kernel
theorem dX4_append_4 : decode cX4_append 4 = .ok (.aload_n 0, 1) := by decide +kernel
theorem dX4_append_5 : decode cX4_append 5 = .ok (.getfield 24, 3) := by decide +kernel
theorem dX4_append_8 : decode cX4_append 8 = .ok (.iload_n 1, 1) := by decide +kernel
theorem dX4_append_9 : decode cX4_append 9 = .ok (.iastore, 1) := by decide +kernel
theorem dX4_append_10 : decode cX4_append 10 = .ok (.aload_n 0, 1) := by decide +kernel
theorem dX4_append_11 : decode cX4_append 11 = .ok (.dup, 1) := by decide +kernel
theorem dX4_append_12 : decode cX4_append 12 = .ok (.getfield 24, 3) := by decide +kernel
theorem dX4_append_15 : decode cX4_append 15 = .ok (.iconst 1, 1) := by decide +kernel
theorem dX4_append_16 : decode cX4_append 16 = .ok (.iadd, 1) := by decide +kernel
theorem dX4_append_17 : decode cX4_append 17 = .ok (.putfield 24, 3) := by decide +kernel
theorem dX4_append_20 : decode cX4_append 20 = .ok (.aload_n 0, 1) := by decide +kernel
theorem dX4_append_21 : decode cX4_append 21 = .ok (.getfield 24, 3) := by decide +kernel
theorem dX4_append_24 : decode cX4_append 24 = .ok (.iconst 1, 1) := by decide +kernel
theorem dX4_append_25 : decode cX4_append 25 = .ok (.isub, 1) := by decide +kernel
theorem dX4_append_26 : decode cX4_append 26 = .ok (.ireturn, 1) := by decide +kernel
theorem dX4_secondsAhead_0 : decode cX4_secondsAhead 0 = .ok (.iconst 0, 1) := by decide +kernel
theorem dX4_secondsAhead_1 : decode cX4_secondsAhead 1 = .ok (.istore_n 2, 1) := by decide +kernel
theorem dX4_secondsAhead_2 : decode cX4_secondsAhead 2 = .ok (.iconst 0, 1) := by decide +kernel
theorem dX4_secondsAhead_3 : decode cX4_secondsAhead 3 = .ok (.istore_n 3, 1) := by decide +kernel
theorem dX4_secondsAhead_4 : decode cX4_secondsAhead 4 = .ok (.iload_n 3, 1) := by decide +kernel
theorem dX4_secondsAhead_5 : decode cX4_secondsAhead 5 = .ok (.iload_n 1, 1) := by decide +kernel
theorem dX4_secondsAhead_6 : decode cX4_secondsAhead 6 = .ok (.if_icmp .ge 27, 3) := by decide +kernel
theorem dX4_secondsAhead_9 : decode cX4_secondsAhead 9 = .ok (.aload_n 0, 1) := by decide +kernel
theorem dX4_secondsAhead_10 : decode cX4_secondsAhead 10 = .ok (.getfield 15, 3) := by decide +kernel
theorem dX4_secondsAhead_13 : decode cX4_secondsAhead 13 = .ok (.iload_n 3, 1) := by decide +kernel
theorem dX4_secondsAhead_14 : decode cX4_secondsAhead 14 = .ok (.baload, 1) := by decide +kernel
theorem dX4_secondsAhead_15 : decode cX4_secondsAhead 15 = .ok (.ifCond .ne 12, 3) := by decide +kernel
theorem dX4_secondsAhead_18 : decode cX4_secondsAhead 18 = .ok (.iload_n 2, 1) := by decide +kernel
theorem dX4_secondsAhead_19 : decode cX4_secondsAhead 19 = .ok (.aload_n 0, 1) := by decide +kernel
theorem dX4_secondsAhead_20 : decode cX4_secondsAhead 20 = .ok (.getfield 9, 3) := by decide +kernel
theorem dX4_secondsAhead_23 : decode cX4_secondsAhead 23 = .ok (.iload_n 3, 1) := by decide +kernel
theorem dX4_secondsAhead_24 : decode cX4_secondsAhead 24 = .ok (.iaload, 1) := by decide +kernel
theorem dX4_secondsAhead_25 : decode cX4_secondsAhead 25 = .ok (.iadd, 1) := by decide +kernel
theorem dX4_secondsAhead_26 : decode cX4_secondsAhead 26 = .ok (.istore_n 2, 1) := by decide +kernel
theorem dX4_secondsAhead_27 : decode cX4_secondsAhead 27 = .ok (.iinc 3 1, 3) := by decide +kernel
theorem dX4_secondsAhead_30 : decode cX4_secondsAhead 30 = .ok (.goto (-26), 3) := by decide +kernel
theorem dX4_secondsAhead_33 : decode cX4_secondsAhead 33 = .ok (.iload_n 2, 1) := by decide +kernel
theorem dX4_secondsAhead_34 : decode cX4_secondsAhead 34 = .ok (.ireturn, 1) := by decide +kernel
set_option maxRecDepth 20000 in
theorem ggX4_lastSecondOf_X4_secondsAhead : GoodIn wsX4_lastSecondOf wsX4_secondsAhead := goodIn_r _ [6, 7, 1, 8, 9, 10, 11] (by decide +kernel) (by decide +kernel)
set_option maxRecDepth 20000 in
theorem gX4_lastSecondOf_X4_secondsAhead : GoodIn wsX4_lastSecondOf (wsV RX4 28 RX4 yX4_secondsAhead wsX4_secondsAhead) := goodIn_app (goodIn_of _ (by decide +kernel)) ggX4_lastSecondOf_X4_secondsAhead
theorem dX4_lastSecondOf_0 : decode cX4_lastSecondOf 0 = .ok (.aload_n 0, 1) := by decide +kernel
theorem dX4_lastSecondOf_1 : decode cX4_lastSecondOf 1 = .ok (.iload_n 1, 1) := by decide +kernel
theorem dX4_lastSecondOf_2 : decode cX4_lastSecondOf 2 = .ok (.invokevirtual 28, 3) := by decide +kernel
theorem dX4_lastSecondOf_5 : decode cX4_lastSecondOf 5 = .ok (.aload_n 0, 1) := by decide +kernel
theorem dX4_lastSecondOf_6 : decode cX4_lastSecondOf 6 = .ok (.getfield 9, 3) := by decide +kernel
theorem dX4_lastSecondOf_9 : decode cX4_lastSecondOf 9 = .ok (.iload_n 1, 1) := by decide +kernel
theorem dX4_lastSecondOf_10 : decode cX4_lastSecondOf 10 = .ok (.iaload, 1) := by decide +kernel
theorem dX4_lastSecondOf_11 : decode cX4_lastSecondOf 11 = .ok (.iadd, 1) := by decide +kernel
theorem dX4_lastSecondOf_12 : decode cX4_lastSecondOf 12 = .ok (.iconst 1, 1) := by decide +kernel
theorem dX4_lastSecondOf_13 : decode cX4_lastSecondOf 13 = .ok (.isub, 1) := by decide +kernel
theorem dX4_lastSecondOf_14 : decode cX4_lastSecondOf 14 = .ok (.ireturn, 1) := by decide +kernel
set_option maxRecDepth 20000 in
theorem ggX4_total_X4_secondsAhead : GoodIn wsX4_total wsX4_secondsAhead := goodIn_r _ [6, 7, 8, 9, 10, 11, 12] (by decide +kernel) (by decide +kernel)
set_option maxRecDepth 20000 in
theorem gX4_total_X4_secondsAhead : GoodIn wsX4_total (wsV RX4 28 RX4 yX4_secondsAhead wsX4_secondsAhead) := goodIn_app (goodIn_of _ (by decide +kernel)) ggX4_total_X4_secondsAhead
theorem dX4_total_0 : decode cX4_total 0 = .ok (.aload_n 0, 1) := by decide +kernel
theorem dX4_total_1 : decode cX4_total 1 = .ok (.aload_n 0, 1) := by decide +kernel
theorem dX4_total_2 : decode cX4_total 2 = .ok (.getfield 24, 3) := by decide +kernel
theorem dX4_total_5 : decode cX4_total 5 = .ok (.invokevirtual 28, 3) := by decide +kernel
theorem dX4_total_8 : decode cX4_total 8 = .ok (.ireturn, 1) := by decide +kernel
set_option maxRecDepth 20000 in
theorem ggX5_init_X4_init : GoodIn wsX5_init wsX4_init := goodIn_r _ [30, 31, 2, 3, 24, 32, 33, 34, 35, 36, 37, 78, 79, 80, 81] (by decide +kernel) (by decide +kernel)
set_option maxRecDepth 20000 in
theorem gX5_init_X4_init_n9 : GoodIn wsX5_init (wsX4_init) := ggX5_init_X4_init
set_option maxRecDepth 20000 in
theorem ggX5_init_X2_init : GoodIn wsX5_init wsX2_init := goodIn_r _ [40, 41, 2, 3, 24, 42, 43, 90, 91] (by decide +kernel) (by decide +kernel)
set_option maxRecDepth 20000 in
theorem gX5_init_X2_init : GoodIn wsX5_init (wsX2_init) := ggX5_init_X2_init
set_option maxRecDepth 20000 in
theorem ggX5_init_X1_init : GoodIn wsX5_init wsX1_init := goodIn_r _ [45, 46, 2, 3, 24, 47, 48, 49, 50, 51, 52, 53, 54, 55, 56, 57, 58, 92, 93, 94, 95, 96, 97, 98, 99, 100, 101, 102] (by decide +kernel) (by decide +kernel)
set_option maxRecDepth 20000 in
theorem gX5_init_X1_init_n25 : GoodIn wsX5_init (wsX1_init) := ggX5_init_X1_init
set_option maxRecDepth 20000 in
theorem ggX5_init_X3_init : GoodIn wsX5_init wsX3_init := goodIn_r _ [60, 61, 2, 3, 24, 62, 63, 64, 65, 66, 67, 68, 69, 70, 103, 104, 105, 106, 107, 108, 109, 110, 111] (by decide +kernel) (by decide +kernel)
set_option maxRecDepth 20000 in
theorem gX5_init_X3_init_n32 : GoodIn wsX5_init (wsX3_init) := ggX5_init_X3_init
set_option maxRecDepth 20000 in
theorem ggX5_init_X0_init : GoodIn wsX5_init wsX0_init := goodIn_r _ [72, 73, 2, 3, 24, 74, 75, 76, 77, 112, 113, 114] (by decide +kernel) (by decide +kernel)
set_option maxRecDepth 20000 in
theorem gX5_init_X0_init_n39 : GoodIn wsX5_init (wsX0_init) := ggX5_init_X0_init
end
section
-- CueTour$Script.secondsAhead
def l_X4_secondsAhead_4 (x1 : Int32) : Nat → Int32 → Int32 → aM → (Int32 → Int32 → aM → Option (Int32 × aM)) → Option (Int32 × aM)
  | 0, _, _, _, _ => none
  | n + 1, v2, v3, σ4, k => if x1 ≤ v3 then k v2 v3 σ4 else if inb v3 30 = true then if ¬ (σ4 8 (ix v3)) = 0 then l_X4_secondsAhead_4 x1 n v2 (v3 + 1) σ4 k else if inb v3 30 = true then l_X4_secondsAhead_4 x1 n (v2 + (σ4 7 (ix v3))) (v3 + 1) σ4 k else none else none
def f_X4_secondsAhead (p0 : Int32) (σ : aM) : Option (Int32 × aM) := l_X4_secondsAhead_4 p0 lf 0 0 σ (fun v9 v10 σ11 => some (v9, σ11))
def F_X4_secondsAhead : aF := fun As σ => match As with
  | [.int p0] => f_X4_secondsAhead p0 σ
  | _ => none
def T_X4_secondsAhead (Qa : Int32 → aM → Prop) : List aI := [I_const 0 1, I_istore 2 1, I_const 0 1, I_istore 3 1, I_iload 3 1, I_iload 1 1, I_icmp (fun x y => y ≤ x) 33, I_bot, I_bot, I_aload 0 1, I_getR 1 8, I_bot, I_bot, I_iload 3 1, I_zald, I_if (fun x => ¬ x = 0) 27, I_bot, I_bot, I_iload 2 1, I_aload 0 1, I_getR 1 7, I_bot, I_bot, I_iload 3 1, I_iald, I_bin fun x y => x + y, I_istore 2 1, I_iinc 3 (1), I_bot, I_bot, I_goto 4, I_bot, I_bot, I_iload 2 1, I_iret Qa]
set_option maxHeartbeats 4000000 in
set_option maxRecDepth 100000 in
theorem t_X4_secondsAhead_4 {Qa : Int32 → aM → Prop} {K : aS → Prop} (hw : ∀ k x, wp (T_X4_secondsAhead Qa) k K x → K x) (hf : ∀ pc L i st σ, K (pc, L.set i .null, st, σ) → K (pc, L, st, σ)) (x1 : Int32) (y : Int32 × aM) (k : Int32 → Int32 → aM → Option (Int32 × aM)) :
    ∀ (n : Nat) (v2 : Int32) (v3 : Int32) (σ4 : aM), l_X4_secondsAhead_4 x1 n v2 v3 σ4 k = some y → (∀ (w0 : Int32) (w1 : Int32) (τ : aM), k w0 w1 τ = some y → K (33, [.ref 1, .int x1, .int w0, .int w1], [], τ)) → K (4, [.ref 1, .int x1, .int v2, .int v3], [], σ4) := by
  intro n
  induction n with
  | zero =>
    intro v2 v3 σ4 h hk
    exact absurd h (by simp [l_X4_secondsAhead_4])
  | succ n ih =>
    intro v2 v3 σ4 h hk
    unfold l_X4_secondsAhead_4 at h
    rcases ite_cases h with ⟨c5, h⟩ | ⟨c5, h⟩
    · refine hw 3 _ ?_
      show ((x1 ≤ v3) → K (33, [.ref 1, .int x1, .int v2, .int v3], [], σ4)) ∧ (¬ (x1 ≤ v3) → K (9, [.ref 1, .int x1, .int v2, .int v3], [], σ4))
      refine ⟨fun _ => ?_, fun q => absurd c5 q⟩
      exact hk v2 v3 σ4 h
    · refine hw 3 _ ?_
      show ((x1 ≤ v3) → K (33, [.ref 1, .int x1, .int v2, .int v3], [], σ4)) ∧ (¬ (x1 ≤ v3) → K (9, [.ref 1, .int x1, .int v2, .int v3], [], σ4))
      refine ⟨fun q => absurd q c5, fun _ => ?_⟩
      obtain ⟨g6, h⟩ := ite_some h
      rcases ite_cases h with ⟨c7, h⟩ | ⟨c7, h⟩
      · refine hw 5 _ ?_
        show kd 8 = 2 ∧ (inb v3 30 = true ∧ (((¬ (σ4 8 (ix v3)) = 0) → K (27, [.ref 1, .int x1, .int v2, .int v3], [], σ4)) ∧ (¬ (¬ (σ4 8 (ix v3)) = 0) → K (18, [.ref 1, .int x1, .int v2, .int v3], [], σ4))))
        refine ⟨rfl, g6, ⟨fun _ => ?_, fun q => absurd c7 q⟩⟩
        refine hw 2 _ ?_
        show K (4, [.ref 1, .int x1, .int v2, .int (v3 + 1)], [], σ4)
        exact ih v2 (v3 + 1) σ4 h hk
      · refine hw 5 _ ?_
        show kd 8 = 2 ∧ (inb v3 30 = true ∧ (((¬ (σ4 8 (ix v3)) = 0) → K (27, [.ref 1, .int x1, .int v2, .int v3], [], σ4)) ∧ (¬ (¬ (σ4 8 (ix v3)) = 0) → K (18, [.ref 1, .int x1, .int v2, .int v3], [], σ4))))
        refine ⟨rfl, g6, ⟨fun q => absurd q c7, fun _ => ?_⟩⟩
        obtain ⟨g8, h⟩ := ite_some h
        refine hw 9 _ ?_
        show kd 7 = 1 ∧ (inb v3 30 = true ∧ (K (4, [.ref 1, .int x1, .int (v2 + (σ4 7 (ix v3))), .int (v3 + 1)], [], σ4)))
        refine ⟨rfl, g8, ?_⟩
        exact ih (v2 + (σ4 7 (ix v3))) (v3 + 1) σ4 h hk

set_option maxHeartbeats 4000000 in
set_option maxRecDepth 100000 in
theorem s_X4_secondsAhead : runs T_X4_secondsAhead [.ref 1] 4 F_X4_secondsAhead := by
  intro Qa K hw hf As σ r σ' h hQ
  unfold F_X4_secondsAhead at h
  split at h
  · rename_i p0
    unfold f_X4_secondsAhead at h
    have hQ : Qa (r, σ').1 (r, σ').2 := hQ
    generalize (r, σ') = y at h hQ
    show K (0, [.ref 1, .int p0, .null, .null], [], σ)
    refine hw 4 _ ?_
    show K (4, [.ref 1, .int p0, .int 0, .int 0], [], σ)
    refine t_X4_secondsAhead_4 hw hf p0 _ _ lf 0 0 σ h (fun v9 v10 σ11 h => ?_)
    show K (33, [.ref 1, .int p0, .int v9, .int v10], [], σ11)
    obtain rfl := Option.some.inj h
    refine hw 2 _ ?_
    show Qa v9 σ11
    refine hQ
  · cases h
theorem h_X4_secondsAhead : shp [.ref 1] 4 F_X4_secondsAhead := by
  intro As σ r σ' h
  unfold F_X4_secondsAhead at h
  split at h
  · exact ⟨by simp [Value.category], Nat.le_of_ble_eq_true rfl⟩
  · cases h
set_option maxHeartbeats 4000000 in
set_option maxRecDepth 100000 in
theorem c_X4_secondsAhead (l : Launch) (D : va_G) (cI cZ cA : ClassId) (ad : Nat → Nat) (hi : adI ad) : CtI l yX4_secondsAhead wsX4_secondsAhead { frames := 0, cells := 0, slots := 0, locals := 0 } D cI cZ cA ad [.ref 1] F_X4_secondsAhead := by
  refine mk_I [.ref 1] F_X4_secondsAhead T_X4_secondsAhead (by decide +kernel) rfl ?_ h_X4_secondsAhead s_X4_secondsAhead
  intro p e s m args below meth c Qa ⟨hx, hb, hml, hown, hts, hr, hlocks, hK, hN⟩
  have hin4 : ∀ w ∈ u_ws RX4 TX4 4, w ∈ wsX4_secondsAhead := by decide +kernel
  have hl15 : (Cond.fieldLink RX4 15 RX4 (TX4 1).2.1 (TX4 1).2.2.1) ∈ wsX4_secondsAhead := by decide +kernel
  have hl9 : (Cond.fieldLink RX4 9 RX4 (TX4 0).2.1 (TX4 0).2.2.1) ∈ wsX4_secondsAhead := by decide +kernel
  refine ruL_c (n := 0) (n2 := 1) rfl (ru_iconst hx hb dX4_secondsAhead_0 rfl) ?_
  refine ruL_c (n := 1) (n2 := 2) rfl (ru_istore_n (k := 2) hx hb dX4_secondsAhead_1) ?_
  refine ruL_c (n := 2) (n2 := 3) rfl (ru_iconst hx hb dX4_secondsAhead_2 rfl) ?_
  refine ruL_c (n := 3) (n2 := 4) rfl (ru_istore_n (k := 3) hx hb dX4_secondsAhead_3) ?_
  refine ruL_c (n := 4) (n2 := 5) rfl (ru_iload_n (k := 3) hx hb dX4_secondsAhead_4) ?_
  refine ruL_c (n := 5) (n2 := 6) rfl (ru_iload_n (k := 1) hx hb dX4_secondsAhead_5) ?_
  refine ruL_c (n := 6) (n2 := 7) rfl (ru_icmpge hx hb dX4_secondsAhead_6 (by decide)) ?_
  refine ruL_c (n := 7) (n2 := 8) rfl (ru_bot) ?_
  refine ruL_c (n := 8) (n2 := 9) rfl (ru_bot) ?_
  refine ruL_c (n := 9) (n2 := 10) rfl (ru_aload_n (k := 0) hx hb dX4_secondsAhead_9) ?_
  refine ruL_c (n := 10) (n2 := 11) rfl (ru_getR (own := RX4) (j := 1) (T := TX4) hx hb hown hK hts hin4 (by decide) rfl rfl (by decide) rfl hl15 dX4_secondsAhead_10) ?_
  refine ruL_c (n := 11) (n2 := 12) rfl (ru_bot) ?_
  refine ruL_c (n := 12) (n2 := 13) rfl (ru_bot) ?_
  refine ruL_c (n := 13) (n2 := 14) rfl (ru_iload_n (k := 3) hx hb dX4_secondsAhead_13) ?_
  refine ruL_c (n := 14) (n2 := 15) rfl (ru_zald hx hb hK dX4_secondsAhead_14) ?_
  refine ruL_c (n := 15) (n2 := 16) rfl (ru_ifne hx hb dX4_secondsAhead_15 (by decide)) ?_
  refine ruL_c (n := 16) (n2 := 17) rfl (ru_bot) ?_
  refine ruL_c (n := 17) (n2 := 18) rfl (ru_bot) ?_
  refine ruL_c (n := 18) (n2 := 19) rfl (ru_iload_n (k := 2) hx hb dX4_secondsAhead_18) ?_
  refine ruL_c (n := 19) (n2 := 20) rfl (ru_aload_n (k := 0) hx hb dX4_secondsAhead_19) ?_
  refine ruL_c (n := 20) (n2 := 21) rfl (ru_getR (own := RX4) (j := 0) (T := TX4) hx hb hown hK hts hin4 (by decide) rfl rfl (by decide) rfl hl9 dX4_secondsAhead_20) ?_
  refine ruL_c (n := 21) (n2 := 22) rfl (ru_bot) ?_
  refine ruL_c (n := 22) (n2 := 23) rfl (ru_bot) ?_
  refine ruL_c (n := 23) (n2 := 24) rfl (ru_iload_n (k := 3) hx hb dX4_secondsAhead_23) ?_
  refine ruL_c (n := 24) (n2 := 25) rfl (ru_iald hx hb hK dX4_secondsAhead_24) ?_
  refine ruL_c (n := 25) (n2 := 26) rfl (ru_iadd hx hb dX4_secondsAhead_25) ?_
  refine ruL_c (n := 26) (n2 := 27) rfl (ru_istore_n (k := 2) hx hb dX4_secondsAhead_26) ?_
  refine ruL_c (n := 27) (n2 := 28) rfl (ru_iinc hx hb dX4_secondsAhead_27 rfl) ?_
  refine ruL_c (n := 28) (n2 := 29) rfl (ru_bot) ?_
  refine ruL_c (n := 29) (n2 := 30) rfl (ru_bot) ?_
  refine ruL_c (n := 30) (n2 := 31) rfl (ru_goto hx hb dX4_secondsAhead_30 (by decide)) ?_
  refine ruL_c (n := 31) (n2 := 32) rfl (ru_bot) ?_
  refine ruL_c (n := 32) (n2 := 33) rfl (ru_bot) ?_
  refine ruL_c (n := 33) (n2 := 34) rfl (ru_iload_n (k := 2) hx hb dX4_secondsAhead_33) ?_
  refine ruL_c (n := 34) (n2 := 35) rfl (ru_iret hx hb hK hr hlocks dX4_secondsAhead_34) ?_
  exact trivial

-- CueTour$Script.lastSecondOf
def f_X4_lastSecondOf (p0 : Int32) (σ : aM) : Option (Int32 × aM) := bnd (f_X4_secondsAhead p0 σ) (fun r1 σ2 => if inb p0 30 = true then some ((r1 + (σ2 7 (ix p0))) - 1, σ2) else none)
def F_X4_lastSecondOf : aF := fun As σ => match As with
  | [.int p0] => f_X4_lastSecondOf p0 σ
  | _ => none
def T_X4_lastSecondOf (Qa : Int32 → aM → Prop) : List aI := [I_aload 0 1, I_iload 1 1, I_callV 1 1 F_X4_secondsAhead, I_bot, I_bot, I_aload 0 1, I_getR 1 7, I_bot, I_bot, I_iload 1 1, I_iald, I_bin fun x y => x + y, I_const 1 1, I_bin fun x y => x - y, I_iret Qa]
set_option maxHeartbeats 4000000 in
set_option maxRecDepth 100000 in
theorem s_X4_lastSecondOf : runs T_X4_lastSecondOf [.ref 1] 2 F_X4_lastSecondOf := by
  intro Qa K hw hf As σ r σ' h hQ
  unfold F_X4_lastSecondOf at h
  split at h
  · rename_i p0
    unfold f_X4_lastSecondOf at h
    have hQ : Qa (r, σ').1 (r, σ').2 := hQ
    generalize (r, σ') = y at h hQ
    show K (0, [.ref 1, .int p0], [], σ)
    obtain ⟨r1, σ2, e3, h⟩ := bnd_some h
    refine hw 3 _ ?_
    show ∃ r1 σ2, f_X4_secondsAhead p0 σ = some (r1, σ2) ∧ K (5, [.ref 1, .int p0], [.int r1], σ2)
    refine ⟨r1, σ2, e3, ?_⟩
    obtain ⟨g4, h⟩ := ite_some h
    obtain rfl := Option.some.inj h
    refine hw 8 _ ?_
    show kd 7 = 1 ∧ (inb p0 30 = true ∧ (Qa ((r1 + (σ2 7 (ix p0))) - 1) σ2))
    refine ⟨rfl, g4, hQ⟩
  · cases h
theorem h_X4_lastSecondOf : shp [.ref 1] 2 F_X4_lastSecondOf := by
  intro As σ r σ' h
  unfold F_X4_lastSecondOf at h
  split at h
  · exact ⟨by simp [Value.category], Nat.le_of_ble_eq_true rfl⟩
  · cases h
set_option maxHeartbeats 4000000 in
set_option maxRecDepth 100000 in
theorem c_X4_lastSecondOf (l : Launch) (D : va_G) (cI cZ cA : ClassId) (ad : Nat → Nat) (hi : adI ad) : CtI l yX4_lastSecondOf wsX4_lastSecondOf { frames := 1, cells := 0, slots := 0, locals := 23 } D cI cZ cA ad [.ref 1] F_X4_lastSecondOf := by
  refine mk_I [.ref 1] F_X4_lastSecondOf T_X4_lastSecondOf (by decide +kernel) rfl ?_ h_X4_lastSecondOf s_X4_lastSecondOf
  intro p e s m args below meth c Qa ⟨hx, hb, hml, hown, hts, hr, hlocks, hK, hN⟩
  have hin4 : ∀ w ∈ u_ws RX4 TX4 4, w ∈ wsX4_lastSecondOf := by decide +kernel
  have hl9 : (Cond.fieldLink RX4 9 RX4 (TX4 0).2.1 (TX4 0).2.2.1) ∈ wsX4_lastSecondOf := by decide +kernel
  refine ruL_c (n := 0) (n2 := 1) rfl (ru_aload_n (k := 0) hx hb dX4_lastSecondOf_0) ?_
  refine ruL_c (n := 1) (n2 := 2) rfl (ru_iload_n (k := 1) hx hb dX4_lastSecondOf_1) ?_
  refine ruL_c (n := 2) (n2 := 3) rfl (ru_callV hx hb hml hown hts hK hN (by decide) rfl (c_X4_secondsAhead l D cI cZ cA ad hi) (cwV 1 hts gX4_lastSecondOf_X4_secondsAhead rfl rfl rfl (by decide +kernel) ⟨Nat.le_of_ble_eq_true rfl, Nat.le_of_ble_eq_true rfl⟩) dX4_lastSecondOf_2 ⟨Nat.zero_le _, Nat.zero_le _⟩) ?_
  refine ruL_c (n := 3) (n2 := 4) rfl (ru_bot) ?_
  refine ruL_c (n := 4) (n2 := 5) rfl (ru_bot) ?_
  refine ruL_c (n := 5) (n2 := 6) rfl (ru_aload_n (k := 0) hx hb dX4_lastSecondOf_5) ?_
  refine ruL_c (n := 6) (n2 := 7) rfl (ru_getR (own := RX4) (j := 0) (T := TX4) hx hb hown hK hts hin4 (by decide) rfl rfl (by decide) rfl hl9 dX4_lastSecondOf_6) ?_
  refine ruL_c (n := 7) (n2 := 8) rfl (ru_bot) ?_
  refine ruL_c (n := 8) (n2 := 9) rfl (ru_bot) ?_
  refine ruL_c (n := 9) (n2 := 10) rfl (ru_iload_n (k := 1) hx hb dX4_lastSecondOf_9) ?_
  refine ruL_c (n := 10) (n2 := 11) rfl (ru_iald hx hb hK dX4_lastSecondOf_10) ?_
  refine ruL_c (n := 11) (n2 := 12) rfl (ru_iadd hx hb dX4_lastSecondOf_11) ?_
  refine ruL_c (n := 12) (n2 := 13) rfl (ru_iconst hx hb dX4_lastSecondOf_12 rfl) ?_
  refine ruL_c (n := 13) (n2 := 14) rfl (ru_isub hx hb dX4_lastSecondOf_13) ?_
  refine ruL_c (n := 14) (n2 := 15) rfl (ru_iret hx hb hK hr hlocks dX4_lastSecondOf_14) ?_
  exact trivial

-- CueTour$Script.total
def f_X4_total (σ : aM) : Option (Int32 × aM) := bnd (f_X4_secondsAhead (σ 1 3) σ) (fun r1 σ2 => some (r1, σ2))
def F_X4_total : aF := fun As σ => match As with
  | [] => f_X4_total σ
  | _ => none
def T_X4_total (Qa : Int32 → aM → Prop) : List aI := [I_aload 0 1, I_aload 0 1, I_getI 1 3, I_bot, I_bot, I_callV 1 1 F_X4_secondsAhead, I_bot, I_bot, I_iret Qa]
set_option maxHeartbeats 4000000 in
set_option maxRecDepth 100000 in
theorem s_X4_total : runs T_X4_total [.ref 1] 1 F_X4_total := by
  intro Qa K hw hf As σ r σ' h hQ
  unfold F_X4_total at h
  split at h
  · unfold f_X4_total at h
    have hQ : Qa (r, σ').1 (r, σ').2 := hQ
    generalize (r, σ') = y at h hQ
    show K (0, [.ref 1], [], σ)
    obtain ⟨r1, σ2, e3, h⟩ := bnd_some h
    refine hw 4 _ ?_
    show ∃ r1 σ2, f_X4_secondsAhead (σ 1 3) σ = some (r1, σ2) ∧ K (8, [.ref 1], [.int r1], σ2)
    refine ⟨r1, σ2, e3, ?_⟩
    obtain rfl := Option.some.inj h
    refine hw 1 _ ?_
    show Qa r1 σ2
    refine hQ
  · cases h
theorem h_X4_total : shp [.ref 1] 1 F_X4_total := by
  intro As σ r σ' h
  unfold F_X4_total at h
  split at h
  · exact ⟨by simp [Value.category], Nat.le_of_ble_eq_true rfl⟩
  · cases h
set_option maxHeartbeats 4000000 in
set_option maxRecDepth 100000 in
theorem c_X4_total (l : Launch) (D : va_G) (cI cZ cA : ClassId) (ad : Nat → Nat) (hi : adI ad) : CtI l yX4_total wsX4_total { frames := 1, cells := 0, slots := 0, locals := 23 } D cI cZ cA ad [.ref 1] F_X4_total := by
  refine mk_I [.ref 1] F_X4_total T_X4_total (by decide +kernel) rfl ?_ h_X4_total s_X4_total
  intro p e s m args below meth c Qa ⟨hx, hb, hml, hown, hts, hr, hlocks, hK, hN⟩
  have hin4 : ∀ w ∈ u_ws RX4 TX4 4, w ∈ wsX4_total := by decide +kernel
  have hl24 : (Cond.fieldLink RX4 24 RX4 (TX4 3).2.1 (TX4 3).2.2.1) ∈ wsX4_total := by decide +kernel
  refine ruL_c (n := 0) (n2 := 1) rfl (ru_aload_n (k := 0) hx hb dX4_total_0) ?_
  refine ruL_c (n := 1) (n2 := 2) rfl (ru_aload_n (k := 0) hx hb dX4_total_1) ?_
  refine ruL_c (n := 2) (n2 := 3) rfl (ru_getI (own := RX4) (j := 3) (T := TX4) hx hb hown hK hts hin4 (by decide) rfl rfl (by decide) rfl hl24 dX4_total_2) ?_
  refine ruL_c (n := 3) (n2 := 4) rfl (ru_bot) ?_
  refine ruL_c (n := 4) (n2 := 5) rfl (ru_bot) ?_
  refine ruL_c (n := 5) (n2 := 6) rfl (ru_callV hx hb hml hown hts hK hN (by decide) rfl (c_X4_secondsAhead l D cI cZ cA ad hi) (cwV 1 hts gX4_total_X4_secondsAhead rfl rfl rfl (by decide +kernel) ⟨Nat.le_of_ble_eq_true rfl, Nat.le_of_ble_eq_true rfl⟩) dX4_total_5 ⟨Nat.zero_le _, Nat.zero_le _⟩) ?_
  refine ruL_c (n := 6) (n2 := 7) rfl (ru_bot) ?_
  refine ruL_c (n := 7) (n2 := 8) rfl (ru_bot) ?_
  refine ruL_c (n := 8) (n2 := 9) rfl (ru_iret hx hb hK hr hlocks dX4_total_8) ?_
  exact trivial

-- CueTour$Script.append
def f_X4_append (p0 : Int32) (σ : aM) : Option (Int32 × aM) := if inb (σ 1 3) 30 = true then some (((σ 1 3) + 1) - 1, mput (mput σ 7 (ix (σ 1 3)) p0) 1 3 ((σ 1 3) + 1)) else none
def F_X4_append : aF := fun As σ => match As with
  | [.int p0] => f_X4_append p0 σ
  | _ => none
def T_X4_append (Qa : Int32 → aM → Prop) : List aI := [I_aload 0 1, I_getR 1 7, I_bot, I_bot, I_aload 0 1, I_getI 1 3, I_bot, I_bot, I_iload 1 1, I_iast, I_aload 0 1, I_dup, I_getI 1 3, I_bot, I_bot, I_const 1 1, I_bin fun x y => x + y, I_putI 1 3, I_bot, I_bot, I_aload 0 1, I_getI 1 3, I_bot, I_bot, I_const 1 1, I_bin fun x y => x - y, I_iret Qa]
set_option maxHeartbeats 4000000 in
set_option maxRecDepth 100000 in
theorem s_X4_append : runs T_X4_append [.ref 1] 2 F_X4_append := by
  intro Qa K hw hf As σ r σ' h hQ
  unfold F_X4_append at h
  split at h
  · rename_i p0
    unfold f_X4_append at h
    have hQ : Qa (r, σ').1 (r, σ').2 := hQ
    generalize (r, σ') = y at h hQ
    show K (0, [.ref 1, .int p0], [], σ)
    obtain ⟨g1, h⟩ := ite_some h
    obtain rfl := Option.some.inj h
    refine hw 17 _ ?_
    show kd 7 = 1 ∧ (inb (σ 1 3) 30 = true ∧ (Qa (((σ 1 3) + 1) - 1) (mput (mput σ 7 (ix (σ 1 3)) p0) 1 3 ((σ 1 3) + 1))))
    refine ⟨rfl, g1, hQ⟩
  · cases h
theorem h_X4_append : shp [.ref 1] 2 F_X4_append := by
  intro As σ r σ' h
  unfold F_X4_append at h
  split at h
  · exact ⟨by simp [Value.category], Nat.le_of_ble_eq_true rfl⟩
  · cases h
set_option maxHeartbeats 4000000 in
set_option maxRecDepth 100000 in
theorem c_X4_append (l : Launch) (D : va_G) (cI cZ cA : ClassId) (ad : Nat → Nat) (hi : adI ad) : CtI l yX4_append wsX4_append { frames := 0, cells := 0, slots := 0, locals := 0 } D cI cZ cA ad [.ref 1] F_X4_append := by
  refine mk_I [.ref 1] F_X4_append T_X4_append (by decide +kernel) rfl ?_ h_X4_append s_X4_append
  intro p e s m args below meth c Qa ⟨hx, hb, hml, hown, hts, hr, hlocks, hK, hN⟩
  have hin4 : ∀ w ∈ u_ws RX4 TX4 4, w ∈ wsX4_append := by decide +kernel
  have hl9 : (Cond.fieldLink RX4 9 RX4 (TX4 0).2.1 (TX4 0).2.2.1) ∈ wsX4_append := by decide +kernel
  have hl24 : (Cond.fieldLink RX4 24 RX4 (TX4 3).2.1 (TX4 3).2.2.1) ∈ wsX4_append := by decide +kernel
  refine ruL_c (n := 0) (n2 := 1) rfl (ru_aload_n (k := 0) hx hb dX4_append_0) ?_
  refine ruL_c (n := 1) (n2 := 2) rfl (ru_getR (own := RX4) (j := 0) (T := TX4) hx hb hown hK hts hin4 (by decide) rfl rfl (by decide) rfl hl9 dX4_append_1) ?_
  refine ruL_c (n := 2) (n2 := 3) rfl (ru_bot) ?_
  refine ruL_c (n := 3) (n2 := 4) rfl (ru_bot) ?_
  refine ruL_c (n := 4) (n2 := 5) rfl (ru_aload_n (k := 0) hx hb dX4_append_4) ?_
  refine ruL_c (n := 5) (n2 := 6) rfl (ru_getI (own := RX4) (j := 3) (T := TX4) hx hb hown hK hts hin4 (by decide) rfl rfl (by decide) rfl hl24 dX4_append_5) ?_
  refine ruL_c (n := 6) (n2 := 7) rfl (ru_bot) ?_
  refine ruL_c (n := 7) (n2 := 8) rfl (ru_bot) ?_
  refine ruL_c (n := 8) (n2 := 9) rfl (ru_iload_n (k := 1) hx hb dX4_append_8) ?_
  refine ruL_c (n := 9) (n2 := 10) rfl (ru_iast hx hb hK hi dX4_append_9) ?_
  refine ruL_c (n := 10) (n2 := 11) rfl (ru_aload_n (k := 0) hx hb dX4_append_10) ?_
  refine ruL_c (n := 11) (n2 := 12) rfl (ru_dup hx hb dX4_append_11) ?_
  refine ruL_c (n := 12) (n2 := 13) rfl (ru_getI (own := RX4) (j := 3) (T := TX4) hx hb hown hK hts hin4 (by decide) rfl rfl (by decide) rfl hl24 dX4_append_12) ?_
  refine ruL_c (n := 13) (n2 := 14) rfl (ru_bot) ?_
  refine ruL_c (n := 14) (n2 := 15) rfl (ru_bot) ?_
  refine ruL_c (n := 15) (n2 := 16) rfl (ru_iconst hx hb dX4_append_15 rfl) ?_
  refine ruL_c (n := 16) (n2 := 17) rfl (ru_iadd hx hb dX4_append_16) ?_
  refine ruL_c (n := 17) (n2 := 18) rfl (ru_putI (own := RX4) (j := 3) (T := TX4) hx hb hown hK hi hts hin4 tyX4 tyX4_ok nmX4 (by decide) rfl rfl (by decide) rfl hl24 rfl (by decide +kernel) dX4_append_17) ?_
  refine ruL_c (n := 18) (n2 := 19) rfl (ru_bot) ?_
  refine ruL_c (n := 19) (n2 := 20) rfl (ru_bot) ?_
  refine ruL_c (n := 20) (n2 := 21) rfl (ru_aload_n (k := 0) hx hb dX4_append_20) ?_
  refine ruL_c (n := 21) (n2 := 22) rfl (ru_getI (own := RX4) (j := 3) (T := TX4) hx hb hown hK hts hin4 (by decide) rfl rfl (by decide) rfl hl24 dX4_append_21) ?_
  refine ruL_c (n := 22) (n2 := 23) rfl (ru_bot) ?_
  refine ruL_c (n := 23) (n2 := 24) rfl (ru_bot) ?_
  refine ruL_c (n := 24) (n2 := 25) rfl (ru_iconst hx hb dX4_append_24 rfl) ?_
  refine ruL_c (n := 25) (n2 := 26) rfl (ru_isub hx hb dX4_append_25) ?_
  refine ruL_c (n := 26) (n2 := 27) rfl (ru_iret hx hb hK hr hlocks dX4_append_26) ?_
  exact trivial
end
section
-- CueTour$Book.append
def f_X0_append (p0 : Int32) (σ : aM) : Option (Int32 × aM) := if inb (σ 5 2) 20 = true then some (((σ 5 2) + 1) - 1, mput (mput σ 26 (ix (σ 5 2)) p0) 5 2 ((σ 5 2) + 1)) else none
def F_X0_append : aF := fun As σ => match As with
  | [.int p0] => f_X0_append p0 σ
  | _ => none
def T_X0_append (Qa : Int32 → aM → Prop) : List aI := [I_aload 0 1, I_getR 5 26, I_bot, I_bot, I_aload 0 1, I_getI 5 2, I_bot, I_bot, I_iload 1 1, I_iast, I_aload 0 1, I_dup, I_getI 5 2, I_bot, I_bot, I_const 1 1, I_bin fun x y => x + y, I_putI 5 2, I_bot, I_bot, I_aload 0 1, I_getI 5 2, I_bot, I_bot, I_const 1 1, I_bin fun x y => x - y, I_iret Qa]
set_option maxHeartbeats 4000000 in
set_option maxRecDepth 100000 in
theorem s_X0_append : runs T_X0_append [.ref 5] 2 F_X0_append := by
  intro Qa K hw hf As σ r σ' h hQ
  unfold F_X0_append at h
  split at h
  · rename_i p0
    unfold f_X0_append at h
    have hQ : Qa (r, σ').1 (r, σ').2 := hQ
    generalize (r, σ') = y at h hQ
    show K (0, [.ref 5, .int p0], [], σ)
    obtain ⟨g1, h⟩ := ite_some h
    obtain rfl := Option.some.inj h
    refine hw 17 _ ?_
    show kd 26 = 1 ∧ (inb (σ 5 2) 20 = true ∧ (Qa (((σ 5 2) + 1) - 1) (mput (mput σ 26 (ix (σ 5 2)) p0) 5 2 ((σ 5 2) + 1))))
    refine ⟨rfl, g1, hQ⟩
  · cases h
theorem h_X0_append : shp [.ref 5] 2 F_X0_append := by
  intro As σ r σ' h
  unfold F_X0_append at h
  split at h
  · exact ⟨by simp [Value.category], Nat.le_of_ble_eq_true rfl⟩
  · cases h
set_option maxHeartbeats 4000000 in
set_option maxRecDepth 100000 in
theorem c_X0_append (l : Launch) (D : va_G) (cI cZ cA : ClassId) (ad : Nat → Nat) (hi : adI ad) : CtI l yX0_append wsX0_append { frames := 0, cells := 0, slots := 0, locals := 0 } D cI cZ cA ad [.ref 5] F_X0_append := by
  refine mk_I [.ref 5] F_X0_append T_X0_append (by decide +kernel) rfl ?_ h_X0_append s_X0_append
  intro p e s m args below meth c Qa ⟨hx, hb, hml, hown, hts, hr, hlocks, hK, hN⟩
  have hin0 : ∀ w ∈ u_ws RX0 TX0 3, w ∈ wsX0_append := by decide +kernel
  have hl9 : (Cond.fieldLink RX0 9 RX0 (TX0 0).2.1 (TX0 0).2.2.1) ∈ wsX0_append := by decide +kernel
  have hl20 : (Cond.fieldLink RX0 20 RX0 (TX0 2).2.1 (TX0 2).2.2.1) ∈ wsX0_append := by decide +kernel
  refine ruL_c (n := 0) (n2 := 1) rfl (ru_aload_n (k := 0) hx hb dX0_append_0) ?_
  refine ruL_c (n := 1) (n2 := 2) rfl (ru_getR (own := RX0) (j := 0) (T := TX0) hx hb hown hK hts hin0 (by decide) rfl rfl (by decide) rfl hl9 dX0_append_1) ?_
  refine ruL_c (n := 2) (n2 := 3) rfl (ru_bot) ?_
  refine ruL_c (n := 3) (n2 := 4) rfl (ru_bot) ?_
  refine ruL_c (n := 4) (n2 := 5) rfl (ru_aload_n (k := 0) hx hb dX0_append_4) ?_
  refine ruL_c (n := 5) (n2 := 6) rfl (ru_getI (own := RX0) (j := 2) (T := TX0) hx hb hown hK hts hin0 (by decide) rfl rfl (by decide) rfl hl20 dX0_append_5) ?_
  refine ruL_c (n := 6) (n2 := 7) rfl (ru_bot) ?_
  refine ruL_c (n := 7) (n2 := 8) rfl (ru_bot) ?_
  refine ruL_c (n := 8) (n2 := 9) rfl (ru_iload_n (k := 1) hx hb dX0_append_8) ?_
  refine ruL_c (n := 9) (n2 := 10) rfl (ru_iast hx hb hK hi dX0_append_9) ?_
  refine ruL_c (n := 10) (n2 := 11) rfl (ru_aload_n (k := 0) hx hb dX0_append_10) ?_
  refine ruL_c (n := 11) (n2 := 12) rfl (ru_dup hx hb dX0_append_11) ?_
  refine ruL_c (n := 12) (n2 := 13) rfl (ru_getI (own := RX0) (j := 2) (T := TX0) hx hb hown hK hts hin0 (by decide) rfl rfl (by decide) rfl hl20 dX0_append_12) ?_
  refine ruL_c (n := 13) (n2 := 14) rfl (ru_bot) ?_
  refine ruL_c (n := 14) (n2 := 15) rfl (ru_bot) ?_
  refine ruL_c (n := 15) (n2 := 16) rfl (ru_iconst hx hb dX0_append_15 rfl) ?_
  refine ruL_c (n := 16) (n2 := 17) rfl (ru_iadd hx hb dX0_append_16) ?_
  refine ruL_c (n := 17) (n2 := 18) rfl (ru_putI (own := RX0) (j := 2) (T := TX0) hx hb hown hK hi hts hin0 tyX0 tyX0_ok nmX0 (by decide) rfl rfl (by decide) rfl hl20 rfl (by decide +kernel) dX0_append_17) ?_
  refine ruL_c (n := 18) (n2 := 19) rfl (ru_bot) ?_
  refine ruL_c (n := 19) (n2 := 20) rfl (ru_bot) ?_
  refine ruL_c (n := 20) (n2 := 21) rfl (ru_aload_n (k := 0) hx hb dX0_append_20) ?_
  refine ruL_c (n := 21) (n2 := 22) rfl (ru_getI (own := RX0) (j := 2) (T := TX0) hx hb hown hK hts hin0 (by decide) rfl rfl (by decide) rfl hl20 dX0_append_21) ?_
  refine ruL_c (n := 22) (n2 := 23) rfl (ru_bot) ?_
  refine ruL_c (n := 23) (n2 := 24) rfl (ru_bot) ?_
  refine ruL_c (n := 24) (n2 := 25) rfl (ru_iconst hx hb dX0_append_24 rfl) ?_
  refine ruL_c (n := 25) (n2 := 26) rfl (ru_isub hx hb dX0_append_25) ?_
  refine ruL_c (n := 26) (n2 := 27) rfl (ru_iret hx hb hK hr hlocks dX0_append_26) ?_
  exact trivial

-- CueTour$Book.countShortLogs
def l_X0_countShortLogs_4 (x1 : Int32) : Nat → Int32 → Int32 → aM → (Int32 → Int32 → aM → Option (Int32 × aM)) → Option (Int32 × aM)
  | 0, _, _, _, _ => none
  | n + 1, v2, v3, σ4, k => if (σ4 5 2) ≤ v3 then k v2 v3 σ4 else if inb v3 20 = true then if inb x1 30 = true then if (σ4 (158 + ix v3) (ix x1)) = 0 then l_X0_countShortLogs_4 x1 n v2 (v3 + 1) σ4 k else l_X0_countShortLogs_4 x1 n (v2 + 1) (v3 + 1) σ4 k else none else none
def f_X0_countShortLogs (p0 : Int32) (σ : aM) : Option (Int32 × aM) := l_X0_countShortLogs_4 p0 lf 0 0 σ (fun v9 v10 σ11 => some (v9, σ11))
def F_X0_countShortLogs : aF := fun As σ => match As with
  | [.int p0] => f_X0_countShortLogs p0 σ
  | _ => none
def T_X0_countShortLogs (Qa : Int32 → aM → Prop) : List aI := [I_const 0 1, I_istore 2 1, I_const 0 1, I_istore 3 1, I_iload 3 1, I_aload 0 1, I_getI 5 2, I_bot, I_bot, I_icmp (fun x y => y ≤ x) 32, I_bot, I_bot, I_aload 0 1, I_getR 5 57, I_bot, I_bot, I_iload 3 1, I_aald, I_iload 1 1, I_iald, I_if (fun x => x = 0) 26, I_bot, I_bot, I_iinc 2 (1), I_bot, I_bot, I_iinc 3 (1), I_bot, I_bot, I_goto 4, I_bot, I_bot, I_iload 2 1, I_iret Qa]
set_option maxHeartbeats 4000000 in
set_option maxRecDepth 100000 in
theorem t_X0_countShortLogs_4 {Qa : Int32 → aM → Prop} {K : aS → Prop} (hw : ∀ k x, wp (T_X0_countShortLogs Qa) k K x → K x) (hf : ∀ pc L i st σ, K (pc, L.set i .null, st, σ) → K (pc, L, st, σ)) (x1 : Int32) (y : Int32 × aM) (k : Int32 → Int32 → aM → Option (Int32 × aM)) :
    ∀ (n : Nat) (v2 : Int32) (v3 : Int32) (σ4 : aM), l_X0_countShortLogs_4 x1 n v2 v3 σ4 k = some y → (∀ (w0 : Int32) (w1 : Int32) (τ : aM), k w0 w1 τ = some y → K (32, [.ref 5, .int x1, .int w0, .int w1], [], τ)) → K (4, [.ref 5, .int x1, .int v2, .int v3], [], σ4) := by
  intro n
  induction n with
  | zero =>
    intro v2 v3 σ4 h hk
    exact absurd h (by simp [l_X0_countShortLogs_4])
  | succ n ih =>
    intro v2 v3 σ4 h hk
    unfold l_X0_countShortLogs_4 at h
    rcases ite_cases h with ⟨c5, h⟩ | ⟨c5, h⟩
    · refine hw 4 _ ?_
      show (((σ4 5 2) ≤ v3) → K (32, [.ref 5, .int x1, .int v2, .int v3], [], σ4)) ∧ (¬ ((σ4 5 2) ≤ v3) → K (12, [.ref 5, .int x1, .int v2, .int v3], [], σ4))
      refine ⟨fun _ => ?_, fun q => absurd c5 q⟩
      exact hk v2 v3 σ4 h
    · refine hw 4 _ ?_
      show (((σ4 5 2) ≤ v3) → K (32, [.ref 5, .int x1, .int v2, .int v3], [], σ4)) ∧ (¬ ((σ4 5 2) ≤ v3) → K (12, [.ref 5, .int x1, .int v2, .int v3], [], σ4))
      refine ⟨fun q => absurd q c5, fun _ => ?_⟩
      obtain ⟨g6, h⟩ := ite_some h
      obtain ⟨g7, h⟩ := ite_some h
      rcases ite_cases h with ⟨c8, h⟩ | ⟨c8, h⟩
      · refine hw 7 _ ?_
        show kd 57 = 3 ∧ (inb v3 20 = true ∧ (kd (158 + ix v3) = 1 ∧ (inb x1 (ln (158 + ix v3)) = true ∧ ((((σ4 (158 + ix v3) (ix x1)) = 0) → K (26, [.ref 5, .int x1, .int v2, .int v3], [], σ4)) ∧ (¬ ((σ4 (158 + ix v3) (ix x1)) = 0) → K (23, [.ref 5, .int x1, .int v2, .int v3], [], σ4))))))
        refine ⟨rfl, g6, (row57_kd g6), (by rw [row57_ln g6]; exact g7), ⟨fun _ => ?_, fun q => absurd c8 q⟩⟩
        refine hw 2 _ ?_
        show K (4, [.ref 5, .int x1, .int v2, .int (v3 + 1)], [], σ4)
        exact ih v2 (v3 + 1) σ4 h hk
      · refine hw 7 _ ?_
        show kd 57 = 3 ∧ (inb v3 20 = true ∧ (kd (158 + ix v3) = 1 ∧ (inb x1 (ln (158 + ix v3)) = true ∧ ((((σ4 (158 + ix v3) (ix x1)) = 0) → K (26, [.ref 5, .int x1, .int v2, .int v3], [], σ4)) ∧ (¬ ((σ4 (158 + ix v3) (ix x1)) = 0) → K (23, [.ref 5, .int x1, .int v2, .int v3], [], σ4))))))
        refine ⟨rfl, g6, (row57_kd g6), (by rw [row57_ln g6]; exact g7), ⟨fun q => absurd q c8, fun _ => ?_⟩⟩
        refine hw 3 _ ?_
        show K (4, [.ref 5, .int x1, .int (v2 + 1), .int (v3 + 1)], [], σ4)
        exact ih (v2 + 1) (v3 + 1) σ4 h hk

set_option maxHeartbeats 4000000 in
set_option maxRecDepth 100000 in
theorem s_X0_countShortLogs : runs T_X0_countShortLogs [.ref 5] 4 F_X0_countShortLogs := by
  intro Qa K hw hf As σ r σ' h hQ
  unfold F_X0_countShortLogs at h
  split at h
  · rename_i p0
    unfold f_X0_countShortLogs at h
    have hQ : Qa (r, σ').1 (r, σ').2 := hQ
    generalize (r, σ') = y at h hQ
    show K (0, [.ref 5, .int p0, .null, .null], [], σ)
    refine hw 4 _ ?_
    show K (4, [.ref 5, .int p0, .int 0, .int 0], [], σ)
    refine t_X0_countShortLogs_4 hw hf p0 _ _ lf 0 0 σ h (fun v9 v10 σ11 h => ?_)
    show K (32, [.ref 5, .int p0, .int v9, .int v10], [], σ11)
    obtain rfl := Option.some.inj h
    refine hw 2 _ ?_
    show Qa v9 σ11
    refine hQ
  · cases h
theorem h_X0_countShortLogs : shp [.ref 5] 4 F_X0_countShortLogs := by
  intro As σ r σ' h
  unfold F_X0_countShortLogs at h
  split at h
  · exact ⟨by simp [Value.category], Nat.le_of_ble_eq_true rfl⟩
  · cases h
set_option maxHeartbeats 4000000 in
set_option maxRecDepth 100000 in
theorem c_X0_countShortLogs (l : Launch) (D : va_G) (cI cZ cA : ClassId) (ad : Nat → Nat) (hi : adI ad) : CtI l yX0_countShortLogs wsX0_countShortLogs { frames := 0, cells := 0, slots := 0, locals := 0 } D cI cZ cA ad [.ref 5] F_X0_countShortLogs := by
  refine mk_I [.ref 5] F_X0_countShortLogs T_X0_countShortLogs (by decide +kernel) rfl ?_ h_X0_countShortLogs s_X0_countShortLogs
  intro p e s m args below meth c Qa ⟨hx, hb, hml, hown, hts, hr, hlocks, hK, hN⟩
  have hin0 : ∀ w ∈ u_ws RX0 TX0 3, w ∈ wsX0_countShortLogs := by decide +kernel
  have hl20 : (Cond.fieldLink RX0 20 RX0 (TX0 2).2.1 (TX0 2).2.2.1) ∈ wsX0_countShortLogs := by decide +kernel
  have hl17 : (Cond.fieldLink RX0 17 RX0 (TX0 1).2.1 (TX0 1).2.2.1) ∈ wsX0_countShortLogs := by decide +kernel
  refine ruL_c (n := 0) (n2 := 1) rfl (ru_iconst hx hb dX0_countShortLogs_0 rfl) ?_
  refine ruL_c (n := 1) (n2 := 2) rfl (ru_istore_n (k := 2) hx hb dX0_countShortLogs_1) ?_
  refine ruL_c (n := 2) (n2 := 3) rfl (ru_iconst hx hb dX0_countShortLogs_2 rfl) ?_
  refine ruL_c (n := 3) (n2 := 4) rfl (ru_istore_n (k := 3) hx hb dX0_countShortLogs_3) ?_
  refine ruL_c (n := 4) (n2 := 5) rfl (ru_iload_n (k := 3) hx hb dX0_countShortLogs_4) ?_
  refine ruL_c (n := 5) (n2 := 6) rfl (ru_aload_n (k := 0) hx hb dX0_countShortLogs_5) ?_
  refine ruL_c (n := 6) (n2 := 7) rfl (ru_getI (own := RX0) (j := 2) (T := TX0) hx hb hown hK hts hin0 (by decide) rfl rfl (by decide) rfl hl20 dX0_countShortLogs_6) ?_
  refine ruL_c (n := 7) (n2 := 8) rfl (ru_bot) ?_
  refine ruL_c (n := 8) (n2 := 9) rfl (ru_bot) ?_
  refine ruL_c (n := 9) (n2 := 10) rfl (ru_icmpge hx hb dX0_countShortLogs_9 (by decide)) ?_
  refine ruL_c (n := 10) (n2 := 11) rfl (ru_bot) ?_
  refine ruL_c (n := 11) (n2 := 12) rfl (ru_bot) ?_
  refine ruL_c (n := 12) (n2 := 13) rfl (ru_aload_n (k := 0) hx hb dX0_countShortLogs_12) ?_
  refine ruL_c (n := 13) (n2 := 14) rfl (ru_getR (own := RX0) (j := 1) (T := TX0) hx hb hown hK hts hin0 (by decide) rfl rfl (by decide) rfl hl17 dX0_countShortLogs_13) ?_
  refine ruL_c (n := 14) (n2 := 15) rfl (ru_bot) ?_
  refine ruL_c (n := 15) (n2 := 16) rfl (ru_bot) ?_
  refine ruL_c (n := 16) (n2 := 17) rfl (ru_iload_n (k := 3) hx hb dX0_countShortLogs_16) ?_
  refine ruL_c (n := 17) (n2 := 18) rfl (ru_aald hx hb hK dX0_countShortLogs_17) ?_
  refine ruL_c (n := 18) (n2 := 19) rfl (ru_iload_n (k := 1) hx hb dX0_countShortLogs_18) ?_
  refine ruL_c (n := 19) (n2 := 20) rfl (ru_iald hx hb hK dX0_countShortLogs_19) ?_
  refine ruL_c (n := 20) (n2 := 21) rfl (ru_ifeq hx hb dX0_countShortLogs_20 (by decide)) ?_
  refine ruL_c (n := 21) (n2 := 22) rfl (ru_bot) ?_
  refine ruL_c (n := 22) (n2 := 23) rfl (ru_bot) ?_
  refine ruL_c (n := 23) (n2 := 24) rfl (ru_iinc hx hb dX0_countShortLogs_23 rfl) ?_
  refine ruL_c (n := 24) (n2 := 25) rfl (ru_bot) ?_
  refine ruL_c (n := 25) (n2 := 26) rfl (ru_bot) ?_
  refine ruL_c (n := 26) (n2 := 27) rfl (ru_iinc hx hb dX0_countShortLogs_26 rfl) ?_
  refine ruL_c (n := 27) (n2 := 28) rfl (ru_bot) ?_
  refine ruL_c (n := 28) (n2 := 29) rfl (ru_bot) ?_
  refine ruL_c (n := 29) (n2 := 30) rfl (ru_goto hx hb dX0_countShortLogs_29 (by decide)) ?_
  refine ruL_c (n := 30) (n2 := 31) rfl (ru_bot) ?_
  refine ruL_c (n := 31) (n2 := 32) rfl (ru_bot) ?_
  refine ruL_c (n := 32) (n2 := 33) rfl (ru_iload_n (k := 2) hx hb dX0_countShortLogs_32) ?_
  refine ruL_c (n := 33) (n2 := 34) rfl (ru_iret hx hb hK hr hlocks dX0_countShortLogs_33) ?_
  exact trivial

-- CueTour$Rig.put
def f_X3_put (p0 : Int32) (p1 : Int32) (p2 : Int32) (σ : aM) : Option (Int32 × aM) := if inb p0 20 = true then if inb p0 20 = true then some (0, mput (mput σ 22 (ix p0) p1) 23 (ix p0) p2) else none else none
def F_X3_put : aF := fun As σ => match As with
  | [.int p0, .int p1, .int p2] => f_X3_put p0 p1 p2 σ
  | _ => none
def T_X3_put (Qa : Int32 → aM → Prop) : List aI := [I_aload 0 1, I_getR 4 22, I_bot, I_bot, I_iload 1 1, I_iload 2 1, I_iast, I_aload 0 1, I_getR 4 23, I_bot, I_bot, I_iload 1 1, I_iload 3 1, I_iast, I_vret Qa]
set_option maxHeartbeats 4000000 in
set_option maxRecDepth 100000 in
theorem s_X3_put : runs T_X3_put [.ref 4] 4 F_X3_put := by
  intro Qa K hw hf As σ r σ' h hQ
  unfold F_X3_put at h
  split at h
  · rename_i p0 p1 p2
    unfold f_X3_put at h
    have hQ : Qa (r, σ').1 (r, σ').2 := hQ
    generalize (r, σ') = y at h hQ
    show K (0, [.ref 4, .int p0, .int p1, .int p2], [], σ)
    obtain ⟨g1, h⟩ := ite_some h
    obtain ⟨g2, h⟩ := ite_some h
    obtain rfl := Option.some.inj h
    refine hw 11 _ ?_
    show kd 22 = 1 ∧ (inb p0 20 = true ∧ (kd 23 = 1 ∧ (inb p0 20 = true ∧ (Qa 0 (mput (mput σ 22 (ix p0) p1) 23 (ix p0) p2)))))
    refine ⟨rfl, g1, rfl, g2, hQ⟩
  · cases h
theorem h_X3_put : shp [.ref 4] 4 F_X3_put := by
  intro As σ r σ' h
  unfold F_X3_put at h
  split at h
  · exact ⟨by simp [Value.category], Nat.le_of_ble_eq_true rfl⟩
  · cases h
set_option maxHeartbeats 4000000 in
set_option maxRecDepth 100000 in
theorem c_X3_put (l : Launch) (D : va_G) (cI cZ cA : ClassId) (ad : Nat → Nat) (hi : adI ad) : CtV l yX3_put wsX3_put { frames := 0, cells := 0, slots := 0, locals := 0 } D cI cZ cA ad [.ref 4] F_X3_put := by
  refine mk_V [.ref 4] F_X3_put T_X3_put (by decide +kernel) rfl ?_ h_X3_put s_X3_put
  intro p e s m args below meth c Qa ⟨hx, hb, hml, hown, hts, hr, hlocks, hK, hN⟩
  have hin3 : ∀ w ∈ u_ws RX3 TX3 9, w ∈ wsX3_put := by decide +kernel
  have hl24 : (Cond.fieldLink RX3 24 RX3 (TX3 4).2.1 (TX3 4).2.2.1) ∈ wsX3_put := by decide +kernel
  have hl27 : (Cond.fieldLink RX3 27 RX3 (TX3 5).2.1 (TX3 5).2.2.1) ∈ wsX3_put := by decide +kernel
  refine ruL_c (n := 0) (n2 := 1) rfl (ru_aload_n (k := 0) hx hb dX3_put_0) ?_
  refine ruL_c (n := 1) (n2 := 2) rfl (ru_getR (own := RX3) (j := 4) (T := TX3) hx hb hown hK hts hin3 (by decide) rfl rfl (by decide) rfl hl24 dX3_put_1) ?_
  refine ruL_c (n := 2) (n2 := 3) rfl (ru_bot) ?_
  refine ruL_c (n := 3) (n2 := 4) rfl (ru_bot) ?_
  refine ruL_c (n := 4) (n2 := 5) rfl (ru_iload_n (k := 1) hx hb dX3_put_4) ?_
  refine ruL_c (n := 5) (n2 := 6) rfl (ru_iload_n (k := 2) hx hb dX3_put_5) ?_
  refine ruL_c (n := 6) (n2 := 7) rfl (ru_iast hx hb hK hi dX3_put_6) ?_
  refine ruL_c (n := 7) (n2 := 8) rfl (ru_aload_n (k := 0) hx hb dX3_put_7) ?_
  refine ruL_c (n := 8) (n2 := 9) rfl (ru_getR (own := RX3) (j := 5) (T := TX3) hx hb hown hK hts hin3 (by decide) rfl rfl (by decide) rfl hl27 dX3_put_8) ?_
  refine ruL_c (n := 9) (n2 := 10) rfl (ru_bot) ?_
  refine ruL_c (n := 10) (n2 := 11) rfl (ru_bot) ?_
  refine ruL_c (n := 11) (n2 := 12) rfl (ru_iload_n (k := 1) hx hb dX3_put_11) ?_
  refine ruL_c (n := 12) (n2 := 13) rfl (ru_iload_n (k := 3) hx hb dX3_put_12) ?_
  refine ruL_c (n := 13) (n2 := 14) rfl (ru_iast hx hb hK hi dX3_put_13) ?_
  refine ruL_c (n := 14) (n2 := 15) rfl (ru_vret hx hb hK hr hlocks dX3_put_14) ?_
  exact trivial

-- CueTour$Rig.putHome
def f_X3_putHome (p0 : Int32) (σ : aM) : Option (Int32 × aM) := if inb p0 20 = true then if inb p0 20 = true then bnd (f_X3_put p0 (σ 18 (ix p0)) (σ 19 (ix p0)) σ) (fun r3 σ4 => some (0, σ4)) else none else none
def F_X3_putHome : aF := fun As σ => match As with
  | [.int p0] => f_X3_putHome p0 σ
  | _ => none
def T_X3_putHome (Qa : Int32 → aM → Prop) : List aI := [I_aload 0 1, I_iload 1 1, I_aload 0 1, I_getR 4 18, I_bot, I_bot, I_iload 1 1, I_iald, I_aload 0 1, I_getR 4 19, I_bot, I_bot, I_iload 1 1, I_iald, I_callVv 4 3 F_X3_put, I_bot, I_bot, I_vret Qa]
set_option maxHeartbeats 4000000 in
set_option maxRecDepth 100000 in
theorem s_X3_putHome : runs T_X3_putHome [.ref 4] 2 F_X3_putHome := by
  intro Qa K hw hf As σ r σ' h hQ
  unfold F_X3_putHome at h
  split at h
  · rename_i p0
    unfold f_X3_putHome at h
    have hQ : Qa (r, σ').1 (r, σ').2 := hQ
    generalize (r, σ') = y at h hQ
    show K (0, [.ref 4, .int p0], [], σ)
    obtain ⟨g1, h⟩ := ite_some h
    obtain ⟨g2, h⟩ := ite_some h
    obtain ⟨r3, σ4, e5, h⟩ := bnd_some h
    refine hw 11 _ ?_
    show kd 18 = 1 ∧ (inb p0 20 = true ∧ (kd 19 = 1 ∧ (inb p0 20 = true ∧ (∃ r3 σ4, f_X3_put p0 (σ 18 (ix p0)) (σ 19 (ix p0)) σ = some (r3, σ4) ∧ K (17, [.ref 4, .int p0], [], σ4)))))
    refine ⟨rfl, g1, rfl, g2, ⟨r3, σ4, e5, ?_⟩⟩
    obtain rfl := Option.some.inj h
    refine hw 1 _ ?_
    show Qa 0 σ4
    refine hQ
  · cases h
theorem h_X3_putHome : shp [.ref 4] 2 F_X3_putHome := by
  intro As σ r σ' h
  unfold F_X3_putHome at h
  split at h
  · exact ⟨by simp [Value.category], Nat.le_of_ble_eq_true rfl⟩
  · cases h
set_option maxHeartbeats 4000000 in
set_option maxRecDepth 100000 in
theorem c_X3_putHome (l : Launch) (D : va_G) (cI cZ cA : ClassId) (ad : Nat → Nat) (hi : adI ad) : CtV l yX3_putHome wsX3_putHome { frames := 1, cells := 0, slots := 0, locals := 23 } D cI cZ cA ad [.ref 4] F_X3_putHome := by
  refine mk_V [.ref 4] F_X3_putHome T_X3_putHome (by decide +kernel) rfl ?_ h_X3_putHome s_X3_putHome
  intro p e s m args below meth c Qa ⟨hx, hb, hml, hown, hts, hr, hlocks, hK, hN⟩
  have hin3 : ∀ w ∈ u_ws RX3 TX3 9, w ∈ wsX3_putHome := by decide +kernel
  have hl9 : (Cond.fieldLink RX3 9 RX3 (TX3 0).2.1 (TX3 0).2.2.1) ∈ wsX3_putHome := by decide +kernel
  have hl15 : (Cond.fieldLink RX3 15 RX3 (TX3 1).2.1 (TX3 1).2.2.1) ∈ wsX3_putHome := by decide +kernel
  refine ruL_c (n := 0) (n2 := 1) rfl (ru_aload_n (k := 0) hx hb dX3_putHome_0) ?_
  refine ruL_c (n := 1) (n2 := 2) rfl (ru_iload_n (k := 1) hx hb dX3_putHome_1) ?_
  refine ruL_c (n := 2) (n2 := 3) rfl (ru_aload_n (k := 0) hx hb dX3_putHome_2) ?_
  refine ruL_c (n := 3) (n2 := 4) rfl (ru_getR (own := RX3) (j := 0) (T := TX3) hx hb hown hK hts hin3 (by decide) rfl rfl (by decide) rfl hl9 dX3_putHome_3) ?_
  refine ruL_c (n := 4) (n2 := 5) rfl (ru_bot) ?_
  refine ruL_c (n := 5) (n2 := 6) rfl (ru_bot) ?_
  refine ruL_c (n := 6) (n2 := 7) rfl (ru_iload_n (k := 1) hx hb dX3_putHome_6) ?_
  refine ruL_c (n := 7) (n2 := 8) rfl (ru_iald hx hb hK dX3_putHome_7) ?_
  refine ruL_c (n := 8) (n2 := 9) rfl (ru_aload_n (k := 0) hx hb dX3_putHome_8) ?_
  refine ruL_c (n := 9) (n2 := 10) rfl (ru_getR (own := RX3) (j := 1) (T := TX3) hx hb hown hK hts hin3 (by decide) rfl rfl (by decide) rfl hl15 dX3_putHome_9) ?_
  refine ruL_c (n := 10) (n2 := 11) rfl (ru_bot) ?_
  refine ruL_c (n := 11) (n2 := 12) rfl (ru_bot) ?_
  refine ruL_c (n := 12) (n2 := 13) rfl (ru_iload_n (k := 1) hx hb dX3_putHome_12) ?_
  refine ruL_c (n := 13) (n2 := 14) rfl (ru_iald hx hb hK dX3_putHome_13) ?_
  refine ruL_c (n := 14) (n2 := 15) rfl (ru_callVv hx hb hml hown hts hK hN (by decide) rfl (c_X3_put l D cI cZ cA ad hi) (cwV 3 hts gX3_putHome_X3_put rfl rfl rfl (by decide +kernel) ⟨Nat.le_of_ble_eq_true rfl, Nat.le_of_ble_eq_true rfl⟩) dX3_putHome_14 ⟨Nat.zero_le _, Nat.zero_le _⟩) ?_
  refine ruL_c (n := 15) (n2 := 16) rfl (ru_bot) ?_
  refine ruL_c (n := 16) (n2 := 17) rfl (ru_bot) ?_
  refine ruL_c (n := 17) (n2 := 18) rfl (ru_vret hx hb hK hr hlocks dX3_putHome_17) ?_
  exact trivial

-- CueTour$Rig.isHome
def f_X3_isHome (p0 : Int32) (σ : aM) : Option (Int32 × aM) := if inb p0 20 = true then if inb p0 20 = true then if ¬ (σ 22 (ix p0)) = (σ 18 (ix p0)) then some (0, σ) else some (1, σ) else none else none
def F_X3_isHome : aF := fun As σ => match As with
  | [.int p0] => f_X3_isHome p0 σ
  | _ => none
def T_X3_isHome (Qa : Int32 → aM → Prop) : List aI := [I_aload 0 1, I_getR 4 22, I_bot, I_bot, I_iload 1 1, I_iald, I_aload 0 1, I_getR 4 18, I_bot, I_bot, I_iload 1 1, I_iald, I_icmp (fun x y => ¬ x = y) 19, I_bot, I_bot, I_const 1 1, I_goto 20, I_bot, I_bot, I_const 0 1, I_zret Qa]
set_option maxHeartbeats 4000000 in
set_option maxRecDepth 100000 in
theorem s_X3_isHome : runs T_X3_isHome [.ref 4] 2 F_X3_isHome := by
  intro Qa K hw hf As σ r σ' h hQ
  unfold F_X3_isHome at h
  split at h
  · rename_i p0
    unfold f_X3_isHome at h
    have hQ : Qa (r, σ').1 (r, σ').2 := hQ
    generalize (r, σ') = y at h hQ
    show K (0, [.ref 4, .int p0], [], σ)
    obtain ⟨g1, h⟩ := ite_some h
    obtain ⟨g2, h⟩ := ite_some h
    rcases ite_cases h with ⟨c3, h⟩ | ⟨c3, h⟩
    · refine hw 9 _ ?_
      show kd 22 = 1 ∧ (inb p0 20 = true ∧ (kd 18 = 1 ∧ (inb p0 20 = true ∧ (((¬ (σ 22 (ix p0)) = (σ 18 (ix p0))) → K (19, [.ref 4, .int p0], [], σ)) ∧ (¬ (¬ (σ 22 (ix p0)) = (σ 18 (ix p0))) → K (15, [.ref 4, .int p0], [], σ))))))
      refine ⟨rfl, g1, rfl, g2, ⟨fun _ => ?_, fun q => absurd c3 q⟩⟩
      obtain rfl := Option.some.inj h
      refine hw 2 _ ?_
      show (0 = (0:Int32) ∨ 0 = (1:Int32)) ∧ (Qa 0 σ)
      refine ⟨Or.inl rfl, hQ⟩
    · refine hw 9 _ ?_
      show kd 22 = 1 ∧ (inb p0 20 = true ∧ (kd 18 = 1 ∧ (inb p0 20 = true ∧ (((¬ (σ 22 (ix p0)) = (σ 18 (ix p0))) → K (19, [.ref 4, .int p0], [], σ)) ∧ (¬ (¬ (σ 22 (ix p0)) = (σ 18 (ix p0))) → K (15, [.ref 4, .int p0], [], σ))))))
      refine ⟨rfl, g1, rfl, g2, ⟨fun q => absurd q c3, fun _ => ?_⟩⟩
      obtain rfl := Option.some.inj h
      refine hw 3 _ ?_
      show (1 = (0:Int32) ∨ 1 = (1:Int32)) ∧ (Qa 1 σ)
      refine ⟨Or.inr rfl, hQ⟩
  · cases h
theorem h_X3_isHome : shp [.ref 4] 2 F_X3_isHome := by
  intro As σ r σ' h
  unfold F_X3_isHome at h
  split at h
  · exact ⟨by simp [Value.category], Nat.le_of_ble_eq_true rfl⟩
  · cases h
set_option maxHeartbeats 4000000 in
set_option maxRecDepth 100000 in
theorem c_X3_isHome (l : Launch) (D : va_G) (cI cZ cA : ClassId) (ad : Nat → Nat) (hi : adI ad) : CtI l yX3_isHome wsX3_isHome { frames := 0, cells := 0, slots := 0, locals := 0 } D cI cZ cA ad [.ref 4] F_X3_isHome := by
  refine mk_I [.ref 4] F_X3_isHome T_X3_isHome (by decide +kernel) rfl ?_ h_X3_isHome s_X3_isHome
  intro p e s m args below meth c Qa ⟨hx, hb, hml, hown, hts, hr, hlocks, hK, hN⟩
  have hin3 : ∀ w ∈ u_ws RX3 TX3 9, w ∈ wsX3_isHome := by decide +kernel
  have hl24 : (Cond.fieldLink RX3 24 RX3 (TX3 4).2.1 (TX3 4).2.2.1) ∈ wsX3_isHome := by decide +kernel
  have hl9 : (Cond.fieldLink RX3 9 RX3 (TX3 0).2.1 (TX3 0).2.2.1) ∈ wsX3_isHome := by decide +kernel
  refine ruL_c (n := 0) (n2 := 1) rfl (ru_aload_n (k := 0) hx hb dX3_isHome_0) ?_
  refine ruL_c (n := 1) (n2 := 2) rfl (ru_getR (own := RX3) (j := 4) (T := TX3) hx hb hown hK hts hin3 (by decide) rfl rfl (by decide) rfl hl24 dX3_isHome_1) ?_
  refine ruL_c (n := 2) (n2 := 3) rfl (ru_bot) ?_
  refine ruL_c (n := 3) (n2 := 4) rfl (ru_bot) ?_
  refine ruL_c (n := 4) (n2 := 5) rfl (ru_iload_n (k := 1) hx hb dX3_isHome_4) ?_
  refine ruL_c (n := 5) (n2 := 6) rfl (ru_iald hx hb hK dX3_isHome_5) ?_
  refine ruL_c (n := 6) (n2 := 7) rfl (ru_aload_n (k := 0) hx hb dX3_isHome_6) ?_
  refine ruL_c (n := 7) (n2 := 8) rfl (ru_getR (own := RX3) (j := 0) (T := TX3) hx hb hown hK hts hin3 (by decide) rfl rfl (by decide) rfl hl9 dX3_isHome_7) ?_
  refine ruL_c (n := 8) (n2 := 9) rfl (ru_bot) ?_
  refine ruL_c (n := 9) (n2 := 10) rfl (ru_bot) ?_
  refine ruL_c (n := 10) (n2 := 11) rfl (ru_iload_n (k := 1) hx hb dX3_isHome_10) ?_
  refine ruL_c (n := 11) (n2 := 12) rfl (ru_iald hx hb hK dX3_isHome_11) ?_
  refine ruL_c (n := 12) (n2 := 13) rfl (ru_icmpne hx hb dX3_isHome_12 (by decide)) ?_
  refine ruL_c (n := 13) (n2 := 14) rfl (ru_bot) ?_
  refine ruL_c (n := 14) (n2 := 15) rfl (ru_bot) ?_
  refine ruL_c (n := 15) (n2 := 16) rfl (ru_iconst hx hb dX3_isHome_15 rfl) ?_
  refine ruL_c (n := 16) (n2 := 17) rfl (ru_goto hx hb dX3_isHome_16 (by decide)) ?_
  refine ruL_c (n := 17) (n2 := 18) rfl (ru_bot) ?_
  refine ruL_c (n := 18) (n2 := 19) rfl (ru_bot) ?_
  refine ruL_c (n := 19) (n2 := 20) rfl (ru_iconst hx hb dX3_isHome_19 rfl) ?_
  refine ruL_c (n := 20) (n2 := 21) rfl (ru_zret hx hb hK hr hlocks dX3_isHome_20) ?_
  exact trivial

-- CueTour$Rig.canGo
def f_X3_canGo (p0 : Int32) (p1 : Int32) (σ : aM) : Option (Int32 × aM) := bnd (f_X3_isHome p0 σ) (fun r1 σ2 => if r1 = 0 then some (0, σ2) else if inb p0 20 = true then if (σ2 18 (ix p0)) = p1 then some (0, σ2) else some (1, σ2) else none)
def F_X3_canGo : aF := fun As σ => match As with
  | [.int p0, .int p1] => f_X3_canGo p0 p1 σ
  | _ => none
def T_X3_canGo (Qa : Int32 → aM → Prop) : List aI := [I_aload 0 1, I_iload 1 1, I_callV 4 1 F_X3_isHome, I_bot, I_bot, I_if (fun x => x = 0) 22, I_bot, I_bot, I_aload 0 1, I_getR 4 18, I_bot, I_bot, I_iload 1 1, I_iald, I_iload 2 1, I_icmp (fun x y => x = y) 22, I_bot, I_bot, I_const 1 1, I_goto 23, I_bot, I_bot, I_const 0 1, I_zret Qa]
set_option maxHeartbeats 4000000 in
set_option maxRecDepth 100000 in
theorem s_X3_canGo : runs T_X3_canGo [.ref 4] 3 F_X3_canGo := by
  intro Qa K hw hf As σ r σ' h hQ
  unfold F_X3_canGo at h
  split at h
  · rename_i p0 p1
    unfold f_X3_canGo at h
    have hQ : Qa (r, σ').1 (r, σ').2 := hQ
    generalize (r, σ') = y at h hQ
    show K (0, [.ref 4, .int p0, .int p1], [], σ)
    obtain ⟨r1, σ2, e3, h⟩ := bnd_some h
    refine hw 3 _ ?_
    show ∃ r1 σ2, f_X3_isHome p0 σ = some (r1, σ2) ∧ K (5, [.ref 4, .int p0, .int p1], [.int r1], σ2)
    refine ⟨r1, σ2, e3, ?_⟩
    rcases ite_cases h with ⟨c4, h⟩ | ⟨c4, h⟩
    · refine hw 1 _ ?_
      show ((r1 = 0) → K (22, [.ref 4, .int p0, .int p1], [], σ2)) ∧ (¬ (r1 = 0) → K (8, [.ref 4, .int p0, .int p1], [], σ2))
      refine ⟨fun _ => ?_, fun q => absurd c4 q⟩
      obtain rfl := Option.some.inj h
      refine hw 2 _ ?_
      show (0 = (0:Int32) ∨ 0 = (1:Int32)) ∧ (Qa 0 σ2)
      refine ⟨Or.inl rfl, hQ⟩
    · refine hw 1 _ ?_
      show ((r1 = 0) → K (22, [.ref 4, .int p0, .int p1], [], σ2)) ∧ (¬ (r1 = 0) → K (8, [.ref 4, .int p0, .int p1], [], σ2))
      refine ⟨fun q => absurd q c4, fun _ => ?_⟩
      obtain ⟨g5, h⟩ := ite_some h
      rcases ite_cases h with ⟨c6, h⟩ | ⟨c6, h⟩
      · refine hw 6 _ ?_
        show kd 18 = 1 ∧ (inb p0 20 = true ∧ ((((σ2 18 (ix p0)) = p1) → K (22, [.ref 4, .int p0, .int p1], [], σ2)) ∧ (¬ ((σ2 18 (ix p0)) = p1) → K (18, [.ref 4, .int p0, .int p1], [], σ2))))
        refine ⟨rfl, g5, ⟨fun _ => ?_, fun q => absurd c6 q⟩⟩
        obtain rfl := Option.some.inj h
        refine hw 2 _ ?_
        show (0 = (0:Int32) ∨ 0 = (1:Int32)) ∧ (Qa 0 σ2)
        refine ⟨Or.inl rfl, hQ⟩
      · refine hw 6 _ ?_
        show kd 18 = 1 ∧ (inb p0 20 = true ∧ ((((σ2 18 (ix p0)) = p1) → K (22, [.ref 4, .int p0, .int p1], [], σ2)) ∧ (¬ ((σ2 18 (ix p0)) = p1) → K (18, [.ref 4, .int p0, .int p1], [], σ2))))
        refine ⟨rfl, g5, ⟨fun q => absurd q c6, fun _ => ?_⟩⟩
        obtain rfl := Option.some.inj h
        refine hw 3 _ ?_
        show (1 = (0:Int32) ∨ 1 = (1:Int32)) ∧ (Qa 1 σ2)
        refine ⟨Or.inr rfl, hQ⟩
  · cases h
theorem h_X3_canGo : shp [.ref 4] 3 F_X3_canGo := by
  intro As σ r σ' h
  unfold F_X3_canGo at h
  split at h
  · exact ⟨by simp [Value.category], Nat.le_of_ble_eq_true rfl⟩
  · cases h
set_option maxHeartbeats 4000000 in
set_option maxRecDepth 100000 in
theorem c_X3_canGo (l : Launch) (D : va_G) (cI cZ cA : ClassId) (ad : Nat → Nat) (hi : adI ad) : CtI l yX3_canGo wsX3_canGo { frames := 1, cells := 0, slots := 0, locals := 21 } D cI cZ cA ad [.ref 4] F_X3_canGo := by
  refine mk_I [.ref 4] F_X3_canGo T_X3_canGo (by decide +kernel) rfl ?_ h_X3_canGo s_X3_canGo
  intro p e s m args below meth c Qa ⟨hx, hb, hml, hown, hts, hr, hlocks, hK, hN⟩
  have hin3 : ∀ w ∈ u_ws RX3 TX3 9, w ∈ wsX3_canGo := by decide +kernel
  have hl9 : (Cond.fieldLink RX3 9 RX3 (TX3 0).2.1 (TX3 0).2.2.1) ∈ wsX3_canGo := by decide +kernel
  refine ruL_c (n := 0) (n2 := 1) rfl (ru_aload_n (k := 0) hx hb dX3_canGo_0) ?_
  refine ruL_c (n := 1) (n2 := 2) rfl (ru_iload_n (k := 1) hx hb dX3_canGo_1) ?_
  refine ruL_c (n := 2) (n2 := 3) rfl (ru_callV hx hb hml hown hts hK hN (by decide) rfl (c_X3_isHome l D cI cZ cA ad hi) (cwV 1 hts gX3_canGo_X3_isHome rfl rfl rfl (by decide +kernel) ⟨Nat.le_of_ble_eq_true rfl, Nat.le_of_ble_eq_true rfl⟩) dX3_canGo_2 ⟨Nat.zero_le _, Nat.zero_le _⟩) ?_
  refine ruL_c (n := 3) (n2 := 4) rfl (ru_bot) ?_
  refine ruL_c (n := 4) (n2 := 5) rfl (ru_bot) ?_
  refine ruL_c (n := 5) (n2 := 6) rfl (ru_ifeq hx hb dX3_canGo_5 (by decide)) ?_
  refine ruL_c (n := 6) (n2 := 7) rfl (ru_bot) ?_
  refine ruL_c (n := 7) (n2 := 8) rfl (ru_bot) ?_
  refine ruL_c (n := 8) (n2 := 9) rfl (ru_aload_n (k := 0) hx hb dX3_canGo_8) ?_
  refine ruL_c (n := 9) (n2 := 10) rfl (ru_getR (own := RX3) (j := 0) (T := TX3) hx hb hown hK hts hin3 (by decide) rfl rfl (by decide) rfl hl9 dX3_canGo_9) ?_
  refine ruL_c (n := 10) (n2 := 11) rfl (ru_bot) ?_
  refine ruL_c (n := 11) (n2 := 12) rfl (ru_bot) ?_
  refine ruL_c (n := 12) (n2 := 13) rfl (ru_iload_n (k := 1) hx hb dX3_canGo_12) ?_
  refine ruL_c (n := 13) (n2 := 14) rfl (ru_iald hx hb hK dX3_canGo_13) ?_
  refine ruL_c (n := 14) (n2 := 15) rfl (ru_iload_n (k := 2) hx hb dX3_canGo_14) ?_
  refine ruL_c (n := 15) (n2 := 16) rfl (ru_icmpeq hx hb dX3_canGo_15 (by decide)) ?_
  refine ruL_c (n := 16) (n2 := 17) rfl (ru_bot) ?_
  refine ruL_c (n := 17) (n2 := 18) rfl (ru_bot) ?_
  refine ruL_c (n := 18) (n2 := 19) rfl (ru_iconst hx hb dX3_canGo_18 rfl) ?_
  refine ruL_c (n := 19) (n2 := 20) rfl (ru_goto hx hb dX3_canGo_19 (by decide)) ?_
  refine ruL_c (n := 20) (n2 := 21) rfl (ru_bot) ?_
  refine ruL_c (n := 21) (n2 := 22) rfl (ru_bot) ?_
  refine ruL_c (n := 22) (n2 := 23) rfl (ru_iconst hx hb dX3_canGo_22 rfl) ?_
  refine ruL_c (n := 23) (n2 := 24) rfl (ru_zret hx hb hK hr hlocks dX3_canGo_23) ?_
  exact trivial

-- CueTour$Rig.isFor
def f_X3_isFor (p0 : Int32) (p1 : Int32) (p2 : Int32) (σ : aM) : Option (Int32 × aM) := if inb p0 20 = true then if ¬ (σ 22 (ix p0)) = p1 then some (0, σ) else if inb p0 20 = true then if ¬ (σ 23 (ix p0)) = p2 then some (0, σ) else some (1, σ) else none else none
def F_X3_isFor : aF := fun As σ => match As with
  | [.int p0, .int p1, .int p2] => f_X3_isFor p0 p1 p2 σ
  | _ => none
def T_X3_isFor (Qa : Int32 → aM → Prop) : List aI := [I_aload 0 1, I_getR 4 22, I_bot, I_bot, I_iload 1 1, I_iald, I_iload 2 1, I_icmp (fun x y => ¬ x = y) 24, I_bot, I_bot, I_aload 0 1, I_getR 4 23, I_bot, I_bot, I_iload 1 1, I_iald, I_iload 3 1, I_icmp (fun x y => ¬ x = y) 24, I_bot, I_bot, I_const 1 1, I_goto 25, I_bot, I_bot, I_const 0 1, I_zret Qa]
set_option maxHeartbeats 4000000 in
set_option maxRecDepth 100000 in
theorem s_X3_isFor : runs T_X3_isFor [.ref 4] 4 F_X3_isFor := by
  intro Qa K hw hf As σ r σ' h hQ
  unfold F_X3_isFor at h
  split at h
  · rename_i p0 p1 p2
    unfold f_X3_isFor at h
    have hQ : Qa (r, σ').1 (r, σ').2 := hQ
    generalize (r, σ') = y at h hQ
    show K (0, [.ref 4, .int p0, .int p1, .int p2], [], σ)
    obtain ⟨g1, h⟩ := ite_some h
    rcases ite_cases h with ⟨c2, h⟩ | ⟨c2, h⟩
    · refine hw 6 _ ?_
      show kd 22 = 1 ∧ (inb p0 20 = true ∧ (((¬ (σ 22 (ix p0)) = p1) → K (24, [.ref 4, .int p0, .int p1, .int p2], [], σ)) ∧ (¬ (¬ (σ 22 (ix p0)) = p1) → K (10, [.ref 4, .int p0, .int p1, .int p2], [], σ))))
      refine ⟨rfl, g1, ⟨fun _ => ?_, fun q => absurd c2 q⟩⟩
      obtain rfl := Option.some.inj h
      refine hw 2 _ ?_
      show (0 = (0:Int32) ∨ 0 = (1:Int32)) ∧ (Qa 0 σ)
      refine ⟨Or.inl rfl, hQ⟩
    · refine hw 6 _ ?_
      show kd 22 = 1 ∧ (inb p0 20 = true ∧ (((¬ (σ 22 (ix p0)) = p1) → K (24, [.ref 4, .int p0, .int p1, .int p2], [], σ)) ∧ (¬ (¬ (σ 22 (ix p0)) = p1) → K (10, [.ref 4, .int p0, .int p1, .int p2], [], σ))))
      refine ⟨rfl, g1, ⟨fun q => absurd q c2, fun _ => ?_⟩⟩
      obtain ⟨g3, h⟩ := ite_some h
      rcases ite_cases h with ⟨c4, h⟩ | ⟨c4, h⟩
      · refine hw 6 _ ?_
        show kd 23 = 1 ∧ (inb p0 20 = true ∧ (((¬ (σ 23 (ix p0)) = p2) → K (24, [.ref 4, .int p0, .int p1, .int p2], [], σ)) ∧ (¬ (¬ (σ 23 (ix p0)) = p2) → K (20, [.ref 4, .int p0, .int p1, .int p2], [], σ))))
        refine ⟨rfl, g3, ⟨fun _ => ?_, fun q => absurd c4 q⟩⟩
        obtain rfl := Option.some.inj h
        refine hw 2 _ ?_
        show (0 = (0:Int32) ∨ 0 = (1:Int32)) ∧ (Qa 0 σ)
        refine ⟨Or.inl rfl, hQ⟩
      · refine hw 6 _ ?_
        show kd 23 = 1 ∧ (inb p0 20 = true ∧ (((¬ (σ 23 (ix p0)) = p2) → K (24, [.ref 4, .int p0, .int p1, .int p2], [], σ)) ∧ (¬ (¬ (σ 23 (ix p0)) = p2) → K (20, [.ref 4, .int p0, .int p1, .int p2], [], σ))))
        refine ⟨rfl, g3, ⟨fun q => absurd q c4, fun _ => ?_⟩⟩
        obtain rfl := Option.some.inj h
        refine hw 3 _ ?_
        show (1 = (0:Int32) ∨ 1 = (1:Int32)) ∧ (Qa 1 σ)
        refine ⟨Or.inr rfl, hQ⟩
  · cases h
theorem h_X3_isFor : shp [.ref 4] 4 F_X3_isFor := by
  intro As σ r σ' h
  unfold F_X3_isFor at h
  split at h
  · exact ⟨by simp [Value.category], Nat.le_of_ble_eq_true rfl⟩
  · cases h
set_option maxHeartbeats 4000000 in
set_option maxRecDepth 100000 in
theorem c_X3_isFor (l : Launch) (D : va_G) (cI cZ cA : ClassId) (ad : Nat → Nat) (hi : adI ad) : CtI l yX3_isFor wsX3_isFor { frames := 0, cells := 0, slots := 0, locals := 0 } D cI cZ cA ad [.ref 4] F_X3_isFor := by
  refine mk_I [.ref 4] F_X3_isFor T_X3_isFor (by decide +kernel) rfl ?_ h_X3_isFor s_X3_isFor
  intro p e s m args below meth c Qa ⟨hx, hb, hml, hown, hts, hr, hlocks, hK, hN⟩
  have hin3 : ∀ w ∈ u_ws RX3 TX3 9, w ∈ wsX3_isFor := by decide +kernel
  have hl24 : (Cond.fieldLink RX3 24 RX3 (TX3 4).2.1 (TX3 4).2.2.1) ∈ wsX3_isFor := by decide +kernel
  have hl27 : (Cond.fieldLink RX3 27 RX3 (TX3 5).2.1 (TX3 5).2.2.1) ∈ wsX3_isFor := by decide +kernel
  refine ruL_c (n := 0) (n2 := 1) rfl (ru_aload_n (k := 0) hx hb dX3_isFor_0) ?_
  refine ruL_c (n := 1) (n2 := 2) rfl (ru_getR (own := RX3) (j := 4) (T := TX3) hx hb hown hK hts hin3 (by decide) rfl rfl (by decide) rfl hl24 dX3_isFor_1) ?_
  refine ruL_c (n := 2) (n2 := 3) rfl (ru_bot) ?_
  refine ruL_c (n := 3) (n2 := 4) rfl (ru_bot) ?_
  refine ruL_c (n := 4) (n2 := 5) rfl (ru_iload_n (k := 1) hx hb dX3_isFor_4) ?_
  refine ruL_c (n := 5) (n2 := 6) rfl (ru_iald hx hb hK dX3_isFor_5) ?_
  refine ruL_c (n := 6) (n2 := 7) rfl (ru_iload_n (k := 2) hx hb dX3_isFor_6) ?_
  refine ruL_c (n := 7) (n2 := 8) rfl (ru_icmpne hx hb dX3_isFor_7 (by decide)) ?_
  refine ruL_c (n := 8) (n2 := 9) rfl (ru_bot) ?_
  refine ruL_c (n := 9) (n2 := 10) rfl (ru_bot) ?_
  refine ruL_c (n := 10) (n2 := 11) rfl (ru_aload_n (k := 0) hx hb dX3_isFor_10) ?_
  refine ruL_c (n := 11) (n2 := 12) rfl (ru_getR (own := RX3) (j := 5) (T := TX3) hx hb hown hK hts hin3 (by decide) rfl rfl (by decide) rfl hl27 dX3_isFor_11) ?_
  refine ruL_c (n := 12) (n2 := 13) rfl (ru_bot) ?_
  refine ruL_c (n := 13) (n2 := 14) rfl (ru_bot) ?_
  refine ruL_c (n := 14) (n2 := 15) rfl (ru_iload_n (k := 1) hx hb dX3_isFor_14) ?_
  refine ruL_c (n := 15) (n2 := 16) rfl (ru_iald hx hb hK dX3_isFor_15) ?_
  refine ruL_c (n := 16) (n2 := 17) rfl (ru_iload_n (k := 3) hx hb dX3_isFor_16) ?_
  refine ruL_c (n := 17) (n2 := 18) rfl (ru_icmpne hx hb dX3_isFor_17 (by decide)) ?_
  refine ruL_c (n := 18) (n2 := 19) rfl (ru_bot) ?_
  refine ruL_c (n := 19) (n2 := 20) rfl (ru_bot) ?_
  refine ruL_c (n := 20) (n2 := 21) rfl (ru_iconst hx hb dX3_isFor_20 rfl) ?_
  refine ruL_c (n := 21) (n2 := 22) rfl (ru_goto hx hb dX3_isFor_21 (by decide)) ?_
  refine ruL_c (n := 22) (n2 := 23) rfl (ru_bot) ?_
  refine ruL_c (n := 23) (n2 := 24) rfl (ru_bot) ?_
  refine ruL_c (n := 24) (n2 := 25) rfl (ru_iconst hx hb dX3_isFor_24 rfl) ?_
  refine ruL_c (n := 25) (n2 := 26) rfl (ru_zret hx hb hK hr hlocks dX3_isFor_25) ?_
  exact trivial

-- CueTour$Rig.append
def f_X3_append (p0 : Int32) (p1 : Int32) (p2 : Int32) (p3 : Int32) (σ : aM) : Option (Int32 × aM) := if inb (σ 4 8) 20 = true then if inb (σ 4 8) 20 = true then if inb (σ 4 8) 20 = true then if inb (σ 4 8) 20 = true then bnd (f_X3_putHome (σ 4 8) (mput (mput (mput (mput (mput σ 18 (ix (σ 4 8)) p0) 19 (ix (σ 4 8)) p1) 20 (ix (σ 4 8)) p2) 21 (ix (σ 4 8)) p3) 4 8 ((σ 4 8) + 1))) (fun r5 σ6 => some (σ 4 8, σ6)) else none else none else none else none
def F_X3_append : aF := fun As σ => match As with
  | [.int p0, .int p1, .int p2, .int p3] => f_X3_append p0 p1 p2 p3 σ
  | _ => none
def T_X3_append (Qa : Int32 → aM → Prop) : List aI := [I_aload 0 1, I_getI 4 8, I_bot, I_bot, I_istore 5 2, I_bot, I_aload 0 1, I_getR 4 18, I_bot, I_bot, I_iload 5 2, I_bot, I_iload 1 1, I_iast, I_aload 0 1, I_getR 4 19, I_bot, I_bot, I_iload 5 2, I_bot, I_iload 2 1, I_iast, I_aload 0 1, I_getR 4 20, I_bot, I_bot, I_iload 5 2, I_bot, I_iload 3 1, I_iast, I_aload 0 1, I_getR 4 21, I_bot, I_bot, I_iload 5 2, I_bot, I_iload 4 2, I_bot, I_iast, I_aload 0 1, I_dup, I_getI 4 8, I_bot, I_bot, I_const 1 1, I_bin fun x y => x + y, I_putI 4 8, I_bot, I_bot, I_aload 0 1, I_iload 5 2, I_bot, I_callVv 4 1 F_X3_putHome, I_bot, I_bot, I_iload 5 2, I_bot, I_iret Qa]
set_option maxHeartbeats 4000000 in
set_option maxRecDepth 100000 in
theorem s_X3_append : runs T_X3_append [.ref 4] 6 F_X3_append := by
  intro Qa K hw hf As σ r σ' h hQ
  unfold F_X3_append at h
  split at h
  · rename_i p0 p1 p2 p3
    unfold f_X3_append at h
    have hQ : Qa (r, σ').1 (r, σ').2 := hQ
    generalize (r, σ') = y at h hQ
    show K (0, [.ref 4, .int p0, .int p1, .int p2, .int p3, .null], [], σ)
    obtain ⟨g1, h⟩ := ite_some h
    obtain ⟨g2, h⟩ := ite_some h
    obtain ⟨g3, h⟩ := ite_some h
    obtain ⟨g4, h⟩ := ite_some h
    obtain ⟨r5, σ6, e7, h⟩ := bnd_some h
    refine hw 32 _ ?_
    show kd 18 = 1 ∧ (inb (σ 4 8) 20 = true ∧ (kd 19 = 1 ∧ (inb (σ 4 8) 20 = true ∧ (kd 20 = 1 ∧ (inb (σ 4 8) 20 = true ∧ (kd 21 = 1 ∧ (inb (σ 4 8) 20 = true ∧ (∃ r5 σ6, f_X3_putHome (σ 4 8) (mput (mput (mput (mput (mput σ 18 (ix (σ 4 8)) p0) 19 (ix (σ 4 8)) p1) 20 (ix (σ 4 8)) p2) 21 (ix (σ 4 8)) p3) 4 8 ((σ 4 8) + 1)) = some (r5, σ6) ∧ K (55, [.ref 4, .int p0, .int p1, .int p2, .int p3, .int (σ 4 8)], [], σ6)))))))))
    refine ⟨rfl, g1, rfl, g2, rfl, g3, rfl, g4, ⟨r5, σ6, e7, ?_⟩⟩
    obtain rfl := Option.some.inj h
    refine hw 2 _ ?_
    show Qa (σ 4 8) σ6
    refine hQ
  · cases h
theorem h_X3_append : shp [.ref 4] 6 F_X3_append := by
  intro As σ r σ' h
  unfold F_X3_append at h
  split at h
  · exact ⟨by simp [Value.category], Nat.le_of_ble_eq_true rfl⟩
  · cases h
set_option maxHeartbeats 4000000 in
set_option maxRecDepth 100000 in
theorem c_X3_append (l : Launch) (D : va_G) (cI cZ cA : ClassId) (ad : Nat → Nat) (hi : adI ad) : CtI l yX3_append wsX3_append { frames := 2, cells := 0, slots := 0, locals := 44 } D cI cZ cA ad [.ref 4] F_X3_append := by
  refine mk_I [.ref 4] F_X3_append T_X3_append (by decide +kernel) rfl ?_ h_X3_append s_X3_append
  intro p e s m args below meth c Qa ⟨hx, hb, hml, hown, hts, hr, hlocks, hK, hN⟩
  have hin3 : ∀ w ∈ u_ws RX3 TX3 9, w ∈ wsX3_append := by decide +kernel
  have hl36 : (Cond.fieldLink RX3 36 RX3 (TX3 8).2.1 (TX3 8).2.2.1) ∈ wsX3_append := by decide +kernel
  have hl9 : (Cond.fieldLink RX3 9 RX3 (TX3 0).2.1 (TX3 0).2.2.1) ∈ wsX3_append := by decide +kernel
  have hl15 : (Cond.fieldLink RX3 15 RX3 (TX3 1).2.1 (TX3 1).2.2.1) ∈ wsX3_append := by decide +kernel
  have hl18 : (Cond.fieldLink RX3 18 RX3 (TX3 2).2.1 (TX3 2).2.2.1) ∈ wsX3_append := by decide +kernel
  have hl21 : (Cond.fieldLink RX3 21 RX3 (TX3 3).2.1 (TX3 3).2.2.1) ∈ wsX3_append := by decide +kernel
  refine ruL_c (n := 0) (n2 := 1) rfl (ru_aload_n (k := 0) hx hb dX3_append_0) ?_
  refine ruL_c (n := 1) (n2 := 2) rfl (ru_getI (own := RX3) (j := 8) (T := TX3) hx hb hown hK hts hin3 (by decide) rfl rfl (by decide) rfl hl36 dX3_append_1) ?_
  refine ruL_c (n := 2) (n2 := 3) rfl (ru_bot) ?_
  refine ruL_c (n := 3) (n2 := 4) rfl (ru_bot) ?_
  refine ruL_c (n := 4) (n2 := 5) rfl (ru_istore hx hb dX3_append_4) ?_
  refine ruL_c (n := 5) (n2 := 6) rfl (ru_bot) ?_
  refine ruL_c (n := 6) (n2 := 7) rfl (ru_aload_n (k := 0) hx hb dX3_append_6) ?_
  refine ruL_c (n := 7) (n2 := 8) rfl (ru_getR (own := RX3) (j := 0) (T := TX3) hx hb hown hK hts hin3 (by decide) rfl rfl (by decide) rfl hl9 dX3_append_7) ?_
  refine ruL_c (n := 8) (n2 := 9) rfl (ru_bot) ?_
  refine ruL_c (n := 9) (n2 := 10) rfl (ru_bot) ?_
  refine ruL_c (n := 10) (n2 := 11) rfl (ru_iload hx hb dX3_append_10) ?_
  refine ruL_c (n := 11) (n2 := 12) rfl (ru_bot) ?_
  refine ruL_c (n := 12) (n2 := 13) rfl (ru_iload_n (k := 1) hx hb dX3_append_12) ?_
  refine ruL_c (n := 13) (n2 := 14) rfl (ru_iast hx hb hK hi dX3_append_13) ?_
  refine ruL_c (n := 14) (n2 := 15) rfl (ru_aload_n (k := 0) hx hb dX3_append_14) ?_
  refine ruL_c (n := 15) (n2 := 16) rfl (ru_getR (own := RX3) (j := 1) (T := TX3) hx hb hown hK hts hin3 (by decide) rfl rfl (by decide) rfl hl15 dX3_append_15) ?_
  refine ruL_c (n := 16) (n2 := 17) rfl (ru_bot) ?_
  refine ruL_c (n := 17) (n2 := 18) rfl (ru_bot) ?_
  refine ruL_c (n := 18) (n2 := 19) rfl (ru_iload hx hb dX3_append_18) ?_
  refine ruL_c (n := 19) (n2 := 20) rfl (ru_bot) ?_
  refine ruL_c (n := 20) (n2 := 21) rfl (ru_iload_n (k := 2) hx hb dX3_append_20) ?_
  refine ruL_c (n := 21) (n2 := 22) rfl (ru_iast hx hb hK hi dX3_append_21) ?_
  refine ruL_c (n := 22) (n2 := 23) rfl (ru_aload_n (k := 0) hx hb dX3_append_22) ?_
  refine ruL_c (n := 23) (n2 := 24) rfl (ru_getR (own := RX3) (j := 2) (T := TX3) hx hb hown hK hts hin3 (by decide) rfl rfl (by decide) rfl hl18 dX3_append_23) ?_
  refine ruL_c (n := 24) (n2 := 25) rfl (ru_bot) ?_
  refine ruL_c (n := 25) (n2 := 26) rfl (ru_bot) ?_
  refine ruL_c (n := 26) (n2 := 27) rfl (ru_iload hx hb dX3_append_26) ?_
  refine ruL_c (n := 27) (n2 := 28) rfl (ru_bot) ?_
  refine ruL_c (n := 28) (n2 := 29) rfl (ru_iload_n (k := 3) hx hb dX3_append_28) ?_
  refine ruL_c (n := 29) (n2 := 30) rfl (ru_iast hx hb hK hi dX3_append_29) ?_
  refine ruL_c (n := 30) (n2 := 31) rfl (ru_aload_n (k := 0) hx hb dX3_append_30) ?_
  refine ruL_c (n := 31) (n2 := 32) rfl (ru_getR (own := RX3) (j := 3) (T := TX3) hx hb hown hK hts hin3 (by decide) rfl rfl (by decide) rfl hl21 dX3_append_31) ?_
  refine ruL_c (n := 32) (n2 := 33) rfl (ru_bot) ?_
  refine ruL_c (n := 33) (n2 := 34) rfl (ru_bot) ?_
  refine ruL_c (n := 34) (n2 := 35) rfl (ru_iload hx hb dX3_append_34) ?_
  refine ruL_c (n := 35) (n2 := 36) rfl (ru_bot) ?_
  refine ruL_c (n := 36) (n2 := 37) rfl (ru_iload hx hb dX3_append_36) ?_
  refine ruL_c (n := 37) (n2 := 38) rfl (ru_bot) ?_
  refine ruL_c (n := 38) (n2 := 39) rfl (ru_iast hx hb hK hi dX3_append_38) ?_
  refine ruL_c (n := 39) (n2 := 40) rfl (ru_aload_n (k := 0) hx hb dX3_append_39) ?_
  refine ruL_c (n := 40) (n2 := 41) rfl (ru_dup hx hb dX3_append_40) ?_
  refine ruL_c (n := 41) (n2 := 42) rfl (ru_getI (own := RX3) (j := 8) (T := TX3) hx hb hown hK hts hin3 (by decide) rfl rfl (by decide) rfl hl36 dX3_append_41) ?_
  refine ruL_c (n := 42) (n2 := 43) rfl (ru_bot) ?_
  refine ruL_c (n := 43) (n2 := 44) rfl (ru_bot) ?_
  refine ruL_c (n := 44) (n2 := 45) rfl (ru_iconst hx hb dX3_append_44 rfl) ?_
  refine ruL_c (n := 45) (n2 := 46) rfl (ru_iadd hx hb dX3_append_45) ?_
  refine ruL_c (n := 46) (n2 := 47) rfl (ru_putI (own := RX3) (j := 8) (T := TX3) hx hb hown hK hi hts hin3 tyX3 tyX3_ok nmX3 (by decide) rfl rfl (by decide) rfl hl36 rfl (by decide +kernel) dX3_append_46) ?_
  refine ruL_c (n := 47) (n2 := 48) rfl (ru_bot) ?_
  refine ruL_c (n := 48) (n2 := 49) rfl (ru_bot) ?_
  refine ruL_c (n := 49) (n2 := 50) rfl (ru_aload_n (k := 0) hx hb dX3_append_49) ?_
  refine ruL_c (n := 50) (n2 := 51) rfl (ru_iload hx hb dX3_append_50) ?_
  refine ruL_c (n := 51) (n2 := 52) rfl (ru_bot) ?_
  refine ruL_c (n := 52) (n2 := 53) rfl (ru_callVv hx hb hml hown hts hK hN (by decide) rfl (c_X3_putHome l D cI cZ cA ad hi) (cwV 1 hts gX3_append_X3_putHome rfl rfl rfl (by decide +kernel) ⟨Nat.le_of_ble_eq_true rfl, Nat.le_of_ble_eq_true rfl⟩) dX3_append_52 ⟨Nat.zero_le _, Nat.zero_le _⟩) ?_
  refine ruL_c (n := 53) (n2 := 54) rfl (ru_bot) ?_
  refine ruL_c (n := 54) (n2 := 55) rfl (ru_bot) ?_
  refine ruL_c (n := 55) (n2 := 56) rfl (ru_iload hx hb dX3_append_55) ?_
  refine ruL_c (n := 56) (n2 := 57) rfl (ru_bot) ?_
  refine ruL_c (n := 57) (n2 := 58) rfl (ru_iret hx hb hK hr hlocks dX3_append_57) ?_
  exact trivial

-- CueTour$Rig.lampsFor
def l_X3_lampsFor_9 (x1 : Int32) (x2 : Int32) (x3 : Int32) : Nat → Int32 → Int32 → Int32 → aM → (Int32 → Int32 → Int32 → aM → Option (Int32 × aM)) → Option (Int32 × aM)
  | 0, _, _, _, _, _ => none
  | n + 1, v4, v5, v6, σ7, k => if (σ7 4 8) ≤ v6 then k v4 v5 v6 σ7 else bnd (f_X3_isFor v6 x1 x2 σ7) (fun r9 σ10 => if r9 = 0 then l_X3_lampsFor_9 x1 x2 x3 n v4 v5 (v6 + 1) σ10 k else if inb v6 20 = true then if ¬ (σ10 20 (ix v6)) = x3 then l_X3_lampsFor_9 x1 x2 x3 n v4 (v5 ||| (1 <<< (v6 &&& 31))) (v6 + 1) σ10 k else l_X3_lampsFor_9 x1 x2 x3 n (v4 ||| (1 <<< (v6 &&& 31))) (v5 ||| (1 <<< (v6 &&& 31))) (v6 + 1) σ10 k else none)
def f_X3_lampsFor (p0 : Int32) (p1 : Int32) (p2 : Int32) (σ : aM) : Option (Int32 × aM) := l_X3_lampsFor_9 p0 p1 p2 lf 0 0 0 σ (fun v15 v16 v17 σ18 => if v15 = 0 then some (v16, σ18) else some (v15, σ18))
def F_X3_lampsFor : aF := fun As σ => match As with
  | [.int p0, .int p1, .int p2] => f_X3_lampsFor p0 p1 p2 σ
  | _ => none
def T_X3_lampsFor (Qa : Int32 → aM → Prop) : List aI := [I_const 0 1, I_istore 4 2, I_bot, I_const 0 1, I_istore 5 2, I_bot, I_const 0 1, I_istore 6 2, I_bot, I_iload 6 2, I_bot, I_aload 0 1, I_getI 4 8, I_bot, I_bot, I_icmp (fun x y => y ≤ x) 64, I_bot, I_bot, I_aload 0 1, I_iload 6 2, I_bot, I_iload 1 1, I_iload 2 1, I_callV 4 3 F_X3_isFor, I_bot, I_bot, I_if (fun x => x = 0) 58, I_bot, I_bot, I_iload 5 2, I_bot, I_const 1 1, I_iload 6 2, I_bot, I_bin fun x y => x <<< (y &&& 31), I_bin fun x y => x ||| y, I_istore 5 2, I_bot, I_aload 0 1, I_getR 4 20, I_bot, I_bot, I_iload 6 2, I_bot, I_iald, I_iload 3 1, I_icmp (fun x y => ¬ x = y) 58, I_bot, I_bot, I_iload 4 2, I_bot, I_const 1 1, I_iload 6 2, I_bot, I_bin fun x y => x <<< (y &&& 31), I_bin fun x y => x ||| y, I_istore 4 2, I_bot, I_iinc 6 (1), I_bot, I_bot, I_goto 9, I_bot, I_bot, I_iload 4 2, I_bot, I_if (fun x => x = 0) 74, I_bot, I_bot, I_iload 4 2, I_bot, I_goto 76, I_bot, I_bot, I_iload 5 2, I_bot, I_iret Qa]
set_option maxHeartbeats 4000000 in
set_option maxRecDepth 100000 in
theorem t_X3_lampsFor_9 {Qa : Int32 → aM → Prop} {K : aS → Prop} (hw : ∀ k x, wp (T_X3_lampsFor Qa) k K x → K x) (hf : ∀ pc L i st σ, K (pc, L.set i .null, st, σ) → K (pc, L, st, σ)) (x1 : Int32) (x2 : Int32) (x3 : Int32) (y : Int32 × aM) (k : Int32 → Int32 → Int32 → aM → Option (Int32 × aM)) :
    ∀ (n : Nat) (v4 : Int32) (v5 : Int32) (v6 : Int32) (σ7 : aM), l_X3_lampsFor_9 x1 x2 x3 n v4 v5 v6 σ7 k = some y → (∀ (w0 : Int32) (w1 : Int32) (w2 : Int32) (τ : aM), k w0 w1 w2 τ = some y → K (64, [.ref 4, .int x1, .int x2, .int x3, .int w0, .int w1, .int w2], [], τ)) → K (9, [.ref 4, .int x1, .int x2, .int x3, .int v4, .int v5, .int v6], [], σ7) := by
  intro n
  induction n with
  | zero =>
    intro v4 v5 v6 σ7 h hk
    exact absurd h (by simp [l_X3_lampsFor_9])
  | succ n ih =>
    intro v4 v5 v6 σ7 h hk
    unfold l_X3_lampsFor_9 at h
    rcases ite_cases h with ⟨c8, h⟩ | ⟨c8, h⟩
    · refine hw 4 _ ?_
      show (((σ7 4 8) ≤ v6) → K (64, [.ref 4, .int x1, .int x2, .int x3, .int v4, .int v5, .int v6], [], σ7)) ∧ (¬ ((σ7 4 8) ≤ v6) → K (18, [.ref 4, .int x1, .int x2, .int x3, .int v4, .int v5, .int v6], [], σ7))
      refine ⟨fun _ => ?_, fun q => absurd c8 q⟩
      exact hk v4 v5 v6 σ7 h
    · refine hw 4 _ ?_
      show (((σ7 4 8) ≤ v6) → K (64, [.ref 4, .int x1, .int x2, .int x3, .int v4, .int v5, .int v6], [], σ7)) ∧ (¬ ((σ7 4 8) ≤ v6) → K (18, [.ref 4, .int x1, .int x2, .int x3, .int v4, .int v5, .int v6], [], σ7))
      refine ⟨fun q => absurd q c8, fun _ => ?_⟩
      obtain ⟨r9, σ10, e11, h⟩ := bnd_some h
      refine hw 5 _ ?_
      show ∃ r9 σ10, f_X3_isFor v6 x1 x2 σ7 = some (r9, σ10) ∧ K (26, [.ref 4, .int x1, .int x2, .int x3, .int v4, .int v5, .int v6], [.int r9], σ10)
      refine ⟨r9, σ10, e11, ?_⟩
      rcases ite_cases h with ⟨c12, h⟩ | ⟨c12, h⟩
      · refine hw 1 _ ?_
        show ((r9 = 0) → K (58, [.ref 4, .int x1, .int x2, .int x3, .int v4, .int v5, .int v6], [], σ10)) ∧ (¬ (r9 = 0) → K (29, [.ref 4, .int x1, .int x2, .int x3, .int v4, .int v5, .int v6], [], σ10))
        refine ⟨fun _ => ?_, fun q => absurd c12 q⟩
        refine hw 2 _ ?_
        show K (9, [.ref 4, .int x1, .int x2, .int x3, .int v4, .int v5, .int (v6 + 1)], [], σ10)
        exact ih v4 v5 (v6 + 1) σ10 h hk
      · refine hw 1 _ ?_
        show ((r9 = 0) → K (58, [.ref 4, .int x1, .int x2, .int x3, .int v4, .int v5, .int v6], [], σ10)) ∧ (¬ (r9 = 0) → K (29, [.ref 4, .int x1, .int x2, .int x3, .int v4, .int v5, .int v6], [], σ10))
        refine ⟨fun q => absurd q c12, fun _ => ?_⟩
        obtain ⟨g13, h⟩ := ite_some h
        rcases ite_cases h with ⟨c14, h⟩ | ⟨c14, h⟩
        · refine hw 12 _ ?_
          show kd 20 = 1 ∧ (inb v6 20 = true ∧ (((¬ (σ10 20 (ix v6)) = x3) → K (58, [.ref 4, .int x1, .int x2, .int x3, .int v4, .int (v5 ||| (1 <<< (v6 &&& 31))), .int v6], [], σ10)) ∧ (¬ (¬ (σ10 20 (ix v6)) = x3) → K (49, [.ref 4, .int x1, .int x2, .int x3, .int v4, .int (v5 ||| (1 <<< (v6 &&& 31))), .int v6], [], σ10))))
          refine ⟨rfl, g13, ⟨fun _ => ?_, fun q => absurd c14 q⟩⟩
          refine hw 2 _ ?_
          show K (9, [.ref 4, .int x1, .int x2, .int x3, .int v4, .int (v5 ||| (1 <<< (v6 &&& 31))), .int (v6 + 1)], [], σ10)
          exact ih v4 (v5 ||| (1 <<< (v6 &&& 31))) (v6 + 1) σ10 h hk
        · refine hw 12 _ ?_
          show kd 20 = 1 ∧ (inb v6 20 = true ∧ (((¬ (σ10 20 (ix v6)) = x3) → K (58, [.ref 4, .int x1, .int x2, .int x3, .int v4, .int (v5 ||| (1 <<< (v6 &&& 31))), .int v6], [], σ10)) ∧ (¬ (¬ (σ10 20 (ix v6)) = x3) → K (49, [.ref 4, .int x1, .int x2, .int x3, .int v4, .int (v5 ||| (1 <<< (v6 &&& 31))), .int v6], [], σ10))))
          refine ⟨rfl, g13, ⟨fun q => absurd q c14, fun _ => ?_⟩⟩
          refine hw 8 _ ?_
          show K (9, [.ref 4, .int x1, .int x2, .int x3, .int (v4 ||| (1 <<< (v6 &&& 31))), .int (v5 ||| (1 <<< (v6 &&& 31))), .int (v6 + 1)], [], σ10)
          exact ih (v4 ||| (1 <<< (v6 &&& 31))) (v5 ||| (1 <<< (v6 &&& 31))) (v6 + 1) σ10 h hk

set_option maxHeartbeats 4000000 in
set_option maxRecDepth 100000 in
theorem s_X3_lampsFor : runs T_X3_lampsFor [.ref 4] 7 F_X3_lampsFor := by
  intro Qa K hw hf As σ r σ' h hQ
  unfold F_X3_lampsFor at h
  split at h
  · rename_i p0 p1 p2
    unfold f_X3_lampsFor at h
    have hQ : Qa (r, σ').1 (r, σ').2 := hQ
    generalize (r, σ') = y at h hQ
    show K (0, [.ref 4, .int p0, .int p1, .int p2, .null, .null, .null], [], σ)
    refine hw 6 _ ?_
    show K (9, [.ref 4, .int p0, .int p1, .int p2, .int 0, .int 0, .int 0], [], σ)
    refine t_X3_lampsFor_9 hw hf p0 p1 p2 _ _ lf 0 0 0 σ h (fun v15 v16 v17 σ18 h => ?_)
    show K (64, [.ref 4, .int p0, .int p1, .int p2, .int v15, .int v16, .int v17], [], σ18)
    rcases ite_cases h with ⟨c19, h⟩ | ⟨c19, h⟩
    · refine hw 2 _ ?_
      show ((v15 = 0) → K (74, [.ref 4, .int p0, .int p1, .int p2, .int v15, .int v16, .int v17], [], σ18)) ∧ (¬ (v15 = 0) → K (69, [.ref 4, .int p0, .int p1, .int p2, .int v15, .int v16, .int v17], [], σ18))
      refine ⟨fun _ => ?_, fun q => absurd c19 q⟩
      obtain rfl := Option.some.inj h
      refine hw 2 _ ?_
      show Qa v16 σ18
      refine hQ
    · refine hw 2 _ ?_
      show ((v15 = 0) → K (74, [.ref 4, .int p0, .int p1, .int p2, .int v15, .int v16, .int v17], [], σ18)) ∧ (¬ (v15 = 0) → K (69, [.ref 4, .int p0, .int p1, .int p2, .int v15, .int v16, .int v17], [], σ18))
      refine ⟨fun q => absurd q c19, fun _ => ?_⟩
      obtain rfl := Option.some.inj h
      refine hw 3 _ ?_
      show Qa v15 σ18
      refine hQ
  · cases h
theorem h_X3_lampsFor : shp [.ref 4] 7 F_X3_lampsFor := by
  intro As σ r σ' h
  unfold F_X3_lampsFor at h
  split at h
  · exact ⟨by simp [Value.category], Nat.le_of_ble_eq_true rfl⟩
  · cases h
set_option maxHeartbeats 4000000 in
set_option maxRecDepth 100000 in
theorem c_X3_lampsFor (l : Launch) (D : va_G) (cI cZ cA : ClassId) (ad : Nat → Nat) (hi : adI ad) : CtI l yX3_lampsFor wsX3_lampsFor { frames := 1, cells := 0, slots := 0, locals := 23 } D cI cZ cA ad [.ref 4] F_X3_lampsFor := by
  refine mk_I [.ref 4] F_X3_lampsFor T_X3_lampsFor (by decide +kernel) rfl ?_ h_X3_lampsFor s_X3_lampsFor
  intro p e s m args below meth c Qa ⟨hx, hb, hml, hown, hts, hr, hlocks, hK, hN⟩
  have hin3 : ∀ w ∈ u_ws RX3 TX3 9, w ∈ wsX3_lampsFor := by decide +kernel
  have hl36 : (Cond.fieldLink RX3 36 RX3 (TX3 8).2.1 (TX3 8).2.2.1) ∈ wsX3_lampsFor := by decide +kernel
  have hl18 : (Cond.fieldLink RX3 18 RX3 (TX3 2).2.1 (TX3 2).2.2.1) ∈ wsX3_lampsFor := by decide +kernel
  refine ruL_c (n := 0) (n2 := 1) rfl (ru_iconst hx hb dX3_lampsFor_0 rfl) ?_
  refine ruL_c (n := 1) (n2 := 2) rfl (ru_istore hx hb dX3_lampsFor_1) ?_
  refine ruL_c (n := 2) (n2 := 3) rfl (ru_bot) ?_
  refine ruL_c (n := 3) (n2 := 4) rfl (ru_iconst hx hb dX3_lampsFor_3 rfl) ?_
  refine ruL_c (n := 4) (n2 := 5) rfl (ru_istore hx hb dX3_lampsFor_4) ?_
  refine ruL_c (n := 5) (n2 := 6) rfl (ru_bot) ?_
  refine ruL_c (n := 6) (n2 := 7) rfl (ru_iconst hx hb dX3_lampsFor_6 rfl) ?_
  refine ruL_c (n := 7) (n2 := 8) rfl (ru_istore hx hb dX3_lampsFor_7) ?_
  refine ruL_c (n := 8) (n2 := 9) rfl (ru_bot) ?_
  refine ruL_c (n := 9) (n2 := 10) rfl (ru_iload hx hb dX3_lampsFor_9) ?_
  refine ruL_c (n := 10) (n2 := 11) rfl (ru_bot) ?_
  refine ruL_c (n := 11) (n2 := 12) rfl (ru_aload_n (k := 0) hx hb dX3_lampsFor_11) ?_
  refine ruL_c (n := 12) (n2 := 13) rfl (ru_getI (own := RX3) (j := 8) (T := TX3) hx hb hown hK hts hin3 (by decide) rfl rfl (by decide) rfl hl36 dX3_lampsFor_12) ?_
  refine ruL_c (n := 13) (n2 := 14) rfl (ru_bot) ?_
  refine ruL_c (n := 14) (n2 := 15) rfl (ru_bot) ?_
  refine ruL_c (n := 15) (n2 := 16) rfl (ru_icmpge hx hb dX3_lampsFor_15 (by decide)) ?_
  refine ruL_c (n := 16) (n2 := 17) rfl (ru_bot) ?_
  refine ruL_c (n := 17) (n2 := 18) rfl (ru_bot) ?_
  refine ruL_c (n := 18) (n2 := 19) rfl (ru_aload_n (k := 0) hx hb dX3_lampsFor_18) ?_
  refine ruL_c (n := 19) (n2 := 20) rfl (ru_iload hx hb dX3_lampsFor_19) ?_
  refine ruL_c (n := 20) (n2 := 21) rfl (ru_bot) ?_
  refine ruL_c (n := 21) (n2 := 22) rfl (ru_iload_n (k := 1) hx hb dX3_lampsFor_21) ?_
  refine ruL_c (n := 22) (n2 := 23) rfl (ru_iload_n (k := 2) hx hb dX3_lampsFor_22) ?_
  refine ruL_c (n := 23) (n2 := 24) rfl (ru_callV hx hb hml hown hts hK hN (by decide) rfl (c_X3_isFor l D cI cZ cA ad hi) (cwV 3 hts gX3_lampsFor_X3_isFor rfl rfl rfl (by decide +kernel) ⟨Nat.le_of_ble_eq_true rfl, Nat.le_of_ble_eq_true rfl⟩) dX3_lampsFor_23 ⟨Nat.zero_le _, Nat.zero_le _⟩) ?_
  refine ruL_c (n := 24) (n2 := 25) rfl (ru_bot) ?_
  refine ruL_c (n := 25) (n2 := 26) rfl (ru_bot) ?_
  refine ruL_c (n := 26) (n2 := 27) rfl (ru_ifeq hx hb dX3_lampsFor_26 (by decide)) ?_
  refine ruL_c (n := 27) (n2 := 28) rfl (ru_bot) ?_
  refine ruL_c (n := 28) (n2 := 29) rfl (ru_bot) ?_
  refine ruL_c (n := 29) (n2 := 30) rfl (ru_iload hx hb dX3_lampsFor_29) ?_
  refine ruL_c (n := 30) (n2 := 31) rfl (ru_bot) ?_
  refine ruL_c (n := 31) (n2 := 32) rfl (ru_iconst hx hb dX3_lampsFor_31 rfl) ?_
  refine ruL_c (n := 32) (n2 := 33) rfl (ru_iload hx hb dX3_lampsFor_32) ?_
  refine ruL_c (n := 33) (n2 := 34) rfl (ru_bot) ?_
  refine ruL_c (n := 34) (n2 := 35) rfl (ru_ishl hx hb dX3_lampsFor_34) ?_
  refine ruL_c (n := 35) (n2 := 36) rfl (ru_ior hx hb dX3_lampsFor_35) ?_
  refine ruL_c (n := 36) (n2 := 37) rfl (ru_istore hx hb dX3_lampsFor_36) ?_
  refine ruL_c (n := 37) (n2 := 38) rfl (ru_bot) ?_
  refine ruL_c (n := 38) (n2 := 39) rfl (ru_aload_n (k := 0) hx hb dX3_lampsFor_38) ?_
  refine ruL_c (n := 39) (n2 := 40) rfl (ru_getR (own := RX3) (j := 2) (T := TX3) hx hb hown hK hts hin3 (by decide) rfl rfl (by decide) rfl hl18 dX3_lampsFor_39) ?_
  refine ruL_c (n := 40) (n2 := 41) rfl (ru_bot) ?_
  refine ruL_c (n := 41) (n2 := 42) rfl (ru_bot) ?_
  refine ruL_c (n := 42) (n2 := 43) rfl (ru_iload hx hb dX3_lampsFor_42) ?_
  refine ruL_c (n := 43) (n2 := 44) rfl (ru_bot) ?_
  refine ruL_c (n := 44) (n2 := 45) rfl (ru_iald hx hb hK dX3_lampsFor_44) ?_
  refine ruL_c (n := 45) (n2 := 46) rfl (ru_iload_n (k := 3) hx hb dX3_lampsFor_45) ?_
  refine ruL_c (n := 46) (n2 := 47) rfl (ru_icmpne hx hb dX3_lampsFor_46 (by decide)) ?_
  refine ruL_c (n := 47) (n2 := 48) rfl (ru_bot) ?_
  refine ruL_c (n := 48) (n2 := 49) rfl (ru_bot) ?_
  refine ruL_c (n := 49) (n2 := 50) rfl (ru_iload hx hb dX3_lampsFor_49) ?_
  refine ruL_c (n := 50) (n2 := 51) rfl (ru_bot) ?_
  refine ruL_c (n := 51) (n2 := 52) rfl (ru_iconst hx hb dX3_lampsFor_51 rfl) ?_
  refine ruL_c (n := 52) (n2 := 53) rfl (ru_iload hx hb dX3_lampsFor_52) ?_
  refine ruL_c (n := 53) (n2 := 54) rfl (ru_bot) ?_
  refine ruL_c (n := 54) (n2 := 55) rfl (ru_ishl hx hb dX3_lampsFor_54) ?_
  refine ruL_c (n := 55) (n2 := 56) rfl (ru_ior hx hb dX3_lampsFor_55) ?_
  refine ruL_c (n := 56) (n2 := 57) rfl (ru_istore hx hb dX3_lampsFor_56) ?_
  refine ruL_c (n := 57) (n2 := 58) rfl (ru_bot) ?_
  refine ruL_c (n := 58) (n2 := 59) rfl (ru_iinc hx hb dX3_lampsFor_58 rfl) ?_
  refine ruL_c (n := 59) (n2 := 60) rfl (ru_bot) ?_
  refine ruL_c (n := 60) (n2 := 61) rfl (ru_bot) ?_
  refine ruL_c (n := 61) (n2 := 62) rfl (ru_goto hx hb dX3_lampsFor_61 (by decide)) ?_
  refine ruL_c (n := 62) (n2 := 63) rfl (ru_bot) ?_
  refine ruL_c (n := 63) (n2 := 64) rfl (ru_bot) ?_
  refine ruL_c (n := 64) (n2 := 65) rfl (ru_iload hx hb dX3_lampsFor_64) ?_
  refine ruL_c (n := 65) (n2 := 66) rfl (ru_bot) ?_
  refine ruL_c (n := 66) (n2 := 67) rfl (ru_ifeq hx hb dX3_lampsFor_66 (by decide)) ?_
  refine ruL_c (n := 67) (n2 := 68) rfl (ru_bot) ?_
  refine ruL_c (n := 68) (n2 := 69) rfl (ru_bot) ?_
  refine ruL_c (n := 69) (n2 := 70) rfl (ru_iload hx hb dX3_lampsFor_69) ?_
  refine ruL_c (n := 70) (n2 := 71) rfl (ru_bot) ?_
  refine ruL_c (n := 71) (n2 := 72) rfl (ru_goto hx hb dX3_lampsFor_71 (by decide)) ?_
  refine ruL_c (n := 72) (n2 := 73) rfl (ru_bot) ?_
  refine ruL_c (n := 73) (n2 := 74) rfl (ru_bot) ?_
  refine ruL_c (n := 74) (n2 := 75) rfl (ru_iload hx hb dX3_lampsFor_74) ?_
  refine ruL_c (n := 75) (n2 := 76) rfl (ru_bot) ?_
  refine ruL_c (n := 76) (n2 := 77) rfl (ru_iret hx hb hK hr hlocks dX3_lampsFor_76) ?_
  exact trivial

-- CueTour$Rig.lay
def l_X3_lay_3 (x1 : Int32) (a2 : Nat) : Nat → Int32 → aM → (Int32 → aM → Option (Int32 × aM)) → Option (Int32 × aM)
  | 0, _, _, _ => none
  | n + 1, v3, σ4, k => if 10 ≤ v3 then k v3 σ4 else if inb v3 10 = true then if inb v3 10 = true then bnd (f_X3_lampsFor x1 (σ4 9 (ix v3)) (σ4 10 (ix v3)) σ4) (fun r8 σ9 => if kd a2 = 1 then if inb v3 (ln a2) = true then l_X3_lay_3 x1 a2 n (v3 + 1) (mput σ9 a2 (ix v3) r8) k else none else none) else none else none
def f_X3_lay (p0 : Int32) (p2 : Nat) (σ : aM) : Option (Int32 × aM) := l_X3_lay_3 p0 p2 lf 0 σ (fun v13 σ14 => some (0, σ14))
def F_X3_lay : aF := fun As σ => match As with
  | [.int p0, .ref 2, .ref p2] => f_X3_lay p0 p2 σ
  | _ => none
def T_X3_lay (Qa : Int32 → aM → Prop) : List aI := [I_const 0 1, I_istore 4 2, I_bot, I_iload 4 2, I_bot, I_const (10) 2, I_bot, I_icmp (fun x y => y ≤ x) 39, I_bot, I_bot, I_aload 3 1, I_iload 4 2, I_bot, I_aload 0 1, I_iload 1 1, I_aload 2 1, I_getR 2 9, I_bot, I_bot, I_iload 4 2, I_bot, I_iald, I_aload 2 1, I_getR 2 10, I_bot, I_bot, I_iload 4 2, I_bot, I_iald, I_callV 4 3 F_X3_lampsFor, I_bot, I_bot, I_iast, I_iinc 4 (1), I_bot, I_bot, I_goto 3, I_bot, I_bot, I_vret Qa]
set_option maxHeartbeats 4000000 in
set_option maxRecDepth 100000 in
theorem t_X3_lay_3 {Qa : Int32 → aM → Prop} {K : aS → Prop} (hw : ∀ k x, wp (T_X3_lay Qa) k K x → K x) (hf : ∀ pc L i st σ, K (pc, L.set i .null, st, σ) → K (pc, L, st, σ)) (x1 : Int32) (a2 : Nat) (y : Int32 × aM) (k : Int32 → aM → Option (Int32 × aM)) :
    ∀ (n : Nat) (v3 : Int32) (σ4 : aM), l_X3_lay_3 x1 a2 n v3 σ4 k = some y → (∀ (w0 : Int32) (τ : aM), k w0 τ = some y → K (39, [.ref 4, .int x1, .ref 2, .ref a2, .int w0], [], τ)) → K (3, [.ref 4, .int x1, .ref 2, .ref a2, .int v3], [], σ4) := by
  intro n
  induction n with
  | zero =>
    intro v3 σ4 h hk
    exact absurd h (by simp [l_X3_lay_3])
  | succ n ih =>
    intro v3 σ4 h hk
    unfold l_X3_lay_3 at h
    rcases ite_cases h with ⟨c5, h⟩ | ⟨c5, h⟩
    · refine hw 3 _ ?_
      show ((10 ≤ v3) → K (39, [.ref 4, .int x1, .ref 2, .ref a2, .int v3], [], σ4)) ∧ (¬ (10 ≤ v3) → K (10, [.ref 4, .int x1, .ref 2, .ref a2, .int v3], [], σ4))
      refine ⟨fun _ => ?_, fun q => absurd c5 q⟩
      exact hk v3 σ4 h
    · refine hw 3 _ ?_
      show ((10 ≤ v3) → K (39, [.ref 4, .int x1, .ref 2, .ref a2, .int v3], [], σ4)) ∧ (¬ (10 ≤ v3) → K (10, [.ref 4, .int x1, .ref 2, .ref a2, .int v3], [], σ4))
      refine ⟨fun q => absurd q c5, fun _ => ?_⟩
      obtain ⟨g6, h⟩ := ite_some h
      obtain ⟨g7, h⟩ := ite_some h
      obtain ⟨r8, σ9, e10, h⟩ := bnd_some h
      refine hw 13 _ ?_
      show kd 9 = 1 ∧ (inb v3 10 = true ∧ (kd 10 = 1 ∧ (inb v3 10 = true ∧ (∃ r8 σ9, f_X3_lampsFor x1 (σ4 9 (ix v3)) (σ4 10 (ix v3)) σ4 = some (r8, σ9) ∧ K (32, [.ref 4, .int x1, .ref 2, .ref a2, .int v3], [.int r8, .int v3, .ref a2], σ9)))))
      refine ⟨rfl, g6, rfl, g7, ⟨r8, σ9, e10, ?_⟩⟩
      obtain ⟨g11, h⟩ := ite_some h
      obtain ⟨g12, h⟩ := ite_some h
      refine hw 3 _ ?_
      show kd a2 = 1 ∧ (inb v3 (ln a2) = true ∧ (K (3, [.ref 4, .int x1, .ref 2, .ref a2, .int (v3 + 1)], [], mput σ9 a2 (ix v3) r8)))
      refine ⟨g11, g12, ?_⟩
      exact ih (v3 + 1) (mput σ9 a2 (ix v3) r8) h hk

set_option maxHeartbeats 4000000 in
set_option maxRecDepth 100000 in
theorem s_X3_lay : runs T_X3_lay [.ref 4] 5 F_X3_lay := by
  intro Qa K hw hf As σ r σ' h hQ
  unfold F_X3_lay at h
  split at h
  · rename_i p0 p2
    unfold f_X3_lay at h
    have hQ : Qa (r, σ').1 (r, σ').2 := hQ
    generalize (r, σ') = y at h hQ
    show K (0, [.ref 4, .int p0, .ref 2, .ref p2, .null], [], σ)
    refine hw 2 _ ?_
    show K (3, [.ref 4, .int p0, .ref 2, .ref p2, .int 0], [], σ)
    refine t_X3_lay_3 hw hf p0 p2 _ _ lf 0 σ h (fun v13 σ14 h => ?_)
    show K (39, [.ref 4, .int p0, .ref 2, .ref p2, .int v13], [], σ14)
    obtain rfl := Option.some.inj h
    refine hw 1 _ ?_
    show Qa 0 σ14
    refine hQ
  · cases h
theorem h_X3_lay : shp [.ref 4] 5 F_X3_lay := by
  intro As σ r σ' h
  unfold F_X3_lay at h
  split at h
  · exact ⟨by simp [Value.category], Nat.le_of_ble_eq_true rfl⟩
  · cases h
set_option maxHeartbeats 4000000 in
set_option maxRecDepth 100000 in
theorem c_X3_lay (l : Launch) (D : va_G) (cI cZ cA : ClassId) (ad : Nat → Nat) (hi : adI ad) : CtV l yX3_lay wsX3_lay { frames := 2, cells := 0, slots := 0, locals := 49 } D cI cZ cA ad [.ref 4] F_X3_lay := by
  refine mk_V [.ref 4] F_X3_lay T_X3_lay (by decide +kernel) rfl ?_ h_X3_lay s_X3_lay
  intro p e s m args below meth c Qa ⟨hx, hb, hml, hown, hts, hr, hlocks, hK, hN⟩
  have hin2 : ∀ w ∈ u_ws RX2 TX2 2, w ∈ wsX3_lay := by decide +kernel
  have hl56 : (Cond.fieldLinkNest RX3 56 RX2 (TX2 0).2.1 (TX2 0).2.2.1 "CueTour") ∈ nwL := by decide +kernel
  have hl59 : (Cond.fieldLinkNest RX3 59 RX2 (TX2 1).2.1 (TX2 1).2.2.1 "CueTour") ∈ nwL := by decide +kernel
  refine ruL_c (n := 0) (n2 := 1) rfl (ru_iconst hx hb dX3_lay_0 rfl) ?_
  refine ruL_c (n := 1) (n2 := 2) rfl (ru_istore hx hb dX3_lay_1) ?_
  refine ruL_c (n := 2) (n2 := 3) rfl (ru_bot) ?_
  refine ruL_c (n := 3) (n2 := 4) rfl (ru_iload hx hb dX3_lay_3) ?_
  refine ruL_c (n := 4) (n2 := 5) rfl (ru_bot) ?_
  refine ruL_c (n := 5) (n2 := 6) rfl (ru_bipush hx hb dX3_lay_5 rfl) ?_
  refine ruL_c (n := 6) (n2 := 7) rfl (ru_bot) ?_
  refine ruL_c (n := 7) (n2 := 8) rfl (ru_icmpge hx hb dX3_lay_7 (by decide)) ?_
  refine ruL_c (n := 8) (n2 := 9) rfl (ru_bot) ?_
  refine ruL_c (n := 9) (n2 := 10) rfl (ru_bot) ?_
  refine ruL_c (n := 10) (n2 := 11) rfl (ru_aload_n (k := 3) hx hb dX3_lay_10) ?_
  refine ruL_c (n := 11) (n2 := 12) rfl (ru_iload hx hb dX3_lay_11) ?_
  refine ruL_c (n := 12) (n2 := 13) rfl (ru_bot) ?_
  refine ruL_c (n := 13) (n2 := 14) rfl (ru_aload_n (k := 0) hx hb dX3_lay_13) ?_
  refine ruL_c (n := 14) (n2 := 15) rfl (ru_iload_n (k := 1) hx hb dX3_lay_14) ?_
  refine ruL_c (n := 15) (n2 := 16) rfl (ru_aload_n (k := 2) hx hb dX3_lay_15) ?_
  refine ruL_c (n := 16) (n2 := 17) rfl (ru_getRN (own := RX3) (j := 0) (T := TX2) hx hb hown hK hN hts hin2 (by decide) rfl rfl (by decide) rfl hl56 dX3_lay_16) ?_
  refine ruL_c (n := 17) (n2 := 18) rfl (ru_bot) ?_
  refine ruL_c (n := 18) (n2 := 19) rfl (ru_bot) ?_
  refine ruL_c (n := 19) (n2 := 20) rfl (ru_iload hx hb dX3_lay_19) ?_
  refine ruL_c (n := 20) (n2 := 21) rfl (ru_bot) ?_
  refine ruL_c (n := 21) (n2 := 22) rfl (ru_iald hx hb hK dX3_lay_21) ?_
  refine ruL_c (n := 22) (n2 := 23) rfl (ru_aload_n (k := 2) hx hb dX3_lay_22) ?_
  refine ruL_c (n := 23) (n2 := 24) rfl (ru_getRN (own := RX3) (j := 1) (T := TX2) hx hb hown hK hN hts hin2 (by decide) rfl rfl (by decide) rfl hl59 dX3_lay_23) ?_
  refine ruL_c (n := 24) (n2 := 25) rfl (ru_bot) ?_
  refine ruL_c (n := 25) (n2 := 26) rfl (ru_bot) ?_
  refine ruL_c (n := 26) (n2 := 27) rfl (ru_iload hx hb dX3_lay_26) ?_
  refine ruL_c (n := 27) (n2 := 28) rfl (ru_bot) ?_
  refine ruL_c (n := 28) (n2 := 29) rfl (ru_iald hx hb hK dX3_lay_28) ?_
  refine ruL_c (n := 29) (n2 := 30) rfl (ru_callV hx hb hml hown hts hK hN (by decide) rfl (c_X3_lampsFor l D cI cZ cA ad hi) (cwV 3 hts gX3_lay_X3_lampsFor rfl rfl rfl (by decide +kernel) ⟨Nat.le_of_ble_eq_true rfl, Nat.le_of_ble_eq_true rfl⟩) dX3_lay_29 ⟨Nat.zero_le _, Nat.zero_le _⟩) ?_
  refine ruL_c (n := 30) (n2 := 31) rfl (ru_bot) ?_
  refine ruL_c (n := 31) (n2 := 32) rfl (ru_bot) ?_
  refine ruL_c (n := 32) (n2 := 33) rfl (ru_iast hx hb hK hi dX3_lay_32) ?_
  refine ruL_c (n := 33) (n2 := 34) rfl (ru_iinc hx hb dX3_lay_33 rfl) ?_
  refine ruL_c (n := 34) (n2 := 35) rfl (ru_bot) ?_
  refine ruL_c (n := 35) (n2 := 36) rfl (ru_bot) ?_
  refine ruL_c (n := 36) (n2 := 37) rfl (ru_goto hx hb dX3_lay_36 (by decide)) ?_
  refine ruL_c (n := 37) (n2 := 38) rfl (ru_bot) ?_
  refine ruL_c (n := 38) (n2 := 39) rfl (ru_bot) ?_
  refine ruL_c (n := 39) (n2 := 40) rfl (ru_vret hx hb hK hr hlocks dX3_lay_39) ?_
  exact trivial

-- CueTour$Rig.levelOf
def l_X3_levelOf_20 (x3 : Int32) (a4 : Nat) (a5 : Nat) : Nat → Int32 → Int32 → aM → (Int32 → Int32 → aM → Option (Int32 × aM)) → Option (Int32 × aM)
  | 0, _, _, _, _ => none
  | n + 1, v6, v7, σ8, k => if 10 ≤ v7 then k v6 v7 σ8 else if kd a4 = 1 then if inb v7 (ln a4) = true then if (((σ8 a4 (ix v7)) >>> (x3 &&& 31)) &&& 1) = 0 then l_X3_levelOf_20 x3 a4 a5 n v6 (v7 + 1) σ8 k else if kd a5 = 1 then if inb v7 (ln a5) = true then if (σ8 a5 (ix v7)) ≤ v6 then l_X3_levelOf_20 x3 a4 a5 n v6 (v7 + 1) σ8 k else if kd a5 = 1 then if inb v7 (ln a5) = true then l_X3_levelOf_20 x3 a4 a5 n (σ8 a5 (ix v7)) (v7 + 1) σ8 k else none else none else none else none else none else none
def f_X3_levelOf (p0 : Int32) (p1 : Nat) (p2 : Nat) (σ : aM) : Option (Int32 × aM) := if inb p0 20 = true then if (σ 24 (ix p0)) < 300 then l_X3_levelOf_20 p0 p1 p2 lf 0 0 σ (fun v18 v19 σ20 => some (v18, σ20)) else some (0, σ) else none
def F_X3_levelOf : aF := fun As σ => match As with
  | [.int p0, .ref p1, .ref p2] => f_X3_levelOf p0 p1 p2 σ
  | _ => none
def T_X3_levelOf (Qa : Int32 → aM → Prop) : List aI := [I_aload 0 1, I_getR 4 24, I_bot, I_bot, I_iload 1 1, I_iald, I_const (300) 3, I_bot, I_bot, I_icmp (fun x y => x < y) 14, I_bot, I_bot, I_const 0 1, I_iret Qa, I_const 0 1, I_istore 4 2, I_bot, I_const 0 1, I_istore 5 2, I_bot, I_iload 5 2, I_bot, I_const (10) 2, I_bot, I_icmp (fun x y => y ≤ x) 59, I_bot, I_bot, I_aload 2 1, I_iload 5 2, I_bot, I_iald, I_iload 1 1, I_bin fun x y => x >>> (y &&& 31), I_const 1 1, I_bin fun x y => x &&& y, I_if (fun x => x = 0) 53, I_bot, I_bot, I_aload 3 1, I_iload 5 2, I_bot, I_iald, I_iload 4 2, I_bot, I_icmp (fun x y => x ≤ y) 53, I_bot, I_bot, I_aload 3 1, I_iload 5 2, I_bot, I_iald, I_istore 4 2, I_bot, I_iinc 5 (1), I_bot, I_bot, I_goto 20, I_bot, I_bot, I_iload 4 2, I_bot, I_iret Qa]
set_option maxHeartbeats 4000000 in
set_option maxRecDepth 100000 in
theorem t_X3_levelOf_20 {Qa : Int32 → aM → Prop} {K : aS → Prop} (hw : ∀ k x, wp (T_X3_levelOf Qa) k K x → K x) (hf : ∀ pc L i st σ, K (pc, L.set i .null, st, σ) → K (pc, L, st, σ)) (x3 : Int32) (a4 : Nat) (a5 : Nat) (y : Int32 × aM) (k : Int32 → Int32 → aM → Option (Int32 × aM)) :
    ∀ (n : Nat) (v6 : Int32) (v7 : Int32) (σ8 : aM), l_X3_levelOf_20 x3 a4 a5 n v6 v7 σ8 k = some y → (∀ (w0 : Int32) (w1 : Int32) (τ : aM), k w0 w1 τ = some y → K (59, [.ref 4, .int x3, .ref a4, .ref a5, .int w0, .int w1], [], τ)) → K (20, [.ref 4, .int x3, .ref a4, .ref a5, .int v6, .int v7], [], σ8) := by
  intro n
  induction n with
  | zero =>
    intro v6 v7 σ8 h hk
    exact absurd h (by simp [l_X3_levelOf_20])
  | succ n ih =>
    intro v6 v7 σ8 h hk
    unfold l_X3_levelOf_20 at h
    rcases ite_cases h with ⟨c9, h⟩ | ⟨c9, h⟩
    · refine hw 3 _ ?_
      show ((10 ≤ v7) → K (59, [.ref 4, .int x3, .ref a4, .ref a5, .int v6, .int v7], [], σ8)) ∧ (¬ (10 ≤ v7) → K (27, [.ref 4, .int x3, .ref a4, .ref a5, .int v6, .int v7], [], σ8))
      refine ⟨fun _ => ?_, fun q => absurd c9 q⟩
      exact hk v6 v7 σ8 h
    · refine hw 3 _ ?_
      show ((10 ≤ v7) → K (59, [.ref 4, .int x3, .ref a4, .ref a5, .int v6, .int v7], [], σ8)) ∧ (¬ (10 ≤ v7) → K (27, [.ref 4, .int x3, .ref a4, .ref a5, .int v6, .int v7], [], σ8))
      refine ⟨fun q => absurd q c9, fun _ => ?_⟩
      obtain ⟨g10, h⟩ := ite_some h
      obtain ⟨g11, h⟩ := ite_some h
      rcases ite_cases h with ⟨c12, h⟩ | ⟨c12, h⟩
      · refine hw 8 _ ?_
        show kd a4 = 1 ∧ (inb v7 (ln a4) = true ∧ ((((((σ8 a4 (ix v7)) >>> (x3 &&& 31)) &&& 1) = 0) → K (53, [.ref 4, .int x3, .ref a4, .ref a5, .int v6, .int v7], [], σ8)) ∧ (¬ ((((σ8 a4 (ix v7)) >>> (x3 &&& 31)) &&& 1) = 0) → K (38, [.ref 4, .int x3, .ref a4, .ref a5, .int v6, .int v7], [], σ8))))
        refine ⟨g10, g11, ⟨fun _ => ?_, fun q => absurd c12 q⟩⟩
        refine hw 2 _ ?_
        show K (20, [.ref 4, .int x3, .ref a4, .ref a5, .int v6, .int (v7 + 1)], [], σ8)
        exact ih v6 (v7 + 1) σ8 h hk
      · refine hw 8 _ ?_
        show kd a4 = 1 ∧ (inb v7 (ln a4) = true ∧ ((((((σ8 a4 (ix v7)) >>> (x3 &&& 31)) &&& 1) = 0) → K (53, [.ref 4, .int x3, .ref a4, .ref a5, .int v6, .int v7], [], σ8)) ∧ (¬ ((((σ8 a4 (ix v7)) >>> (x3 &&& 31)) &&& 1) = 0) → K (38, [.ref 4, .int x3, .ref a4, .ref a5, .int v6, .int v7], [], σ8))))
        refine ⟨g10, g11, ⟨fun q => absurd q c12, fun _ => ?_⟩⟩
        obtain ⟨g13, h⟩ := ite_some h
        obtain ⟨g14, h⟩ := ite_some h
        rcases ite_cases h with ⟨c15, h⟩ | ⟨c15, h⟩
        · refine hw 5 _ ?_
          show kd a5 = 1 ∧ (inb v7 (ln a5) = true ∧ ((((σ8 a5 (ix v7)) ≤ v6) → K (53, [.ref 4, .int x3, .ref a4, .ref a5, .int v6, .int v7], [], σ8)) ∧ (¬ ((σ8 a5 (ix v7)) ≤ v6) → K (47, [.ref 4, .int x3, .ref a4, .ref a5, .int v6, .int v7], [], σ8))))
          refine ⟨g13, g14, ⟨fun _ => ?_, fun q => absurd c15 q⟩⟩
          refine hw 2 _ ?_
          show K (20, [.ref 4, .int x3, .ref a4, .ref a5, .int v6, .int (v7 + 1)], [], σ8)
          exact ih v6 (v7 + 1) σ8 h hk
        · refine hw 5 _ ?_
          show kd a5 = 1 ∧ (inb v7 (ln a5) = true ∧ ((((σ8 a5 (ix v7)) ≤ v6) → K (53, [.ref 4, .int x3, .ref a4, .ref a5, .int v6, .int v7], [], σ8)) ∧ (¬ ((σ8 a5 (ix v7)) ≤ v6) → K (47, [.ref 4, .int x3, .ref a4, .ref a5, .int v6, .int v7], [], σ8))))
          refine ⟨g13, g14, ⟨fun q => absurd q c15, fun _ => ?_⟩⟩
          obtain ⟨g16, h⟩ := ite_some h
          obtain ⟨g17, h⟩ := ite_some h
          refine hw 6 _ ?_
          show kd a5 = 1 ∧ (inb v7 (ln a5) = true ∧ (K (20, [.ref 4, .int x3, .ref a4, .ref a5, .int (σ8 a5 (ix v7)), .int (v7 + 1)], [], σ8)))
          refine ⟨g16, g17, ?_⟩
          exact ih (σ8 a5 (ix v7)) (v7 + 1) σ8 h hk

set_option maxHeartbeats 4000000 in
set_option maxRecDepth 100000 in
theorem s_X3_levelOf : runs T_X3_levelOf [.ref 4] 6 F_X3_levelOf := by
  intro Qa K hw hf As σ r σ' h hQ
  unfold F_X3_levelOf at h
  split at h
  · rename_i p0 p1 p2
    unfold f_X3_levelOf at h
    have hQ : Qa (r, σ').1 (r, σ').2 := hQ
    generalize (r, σ') = y at h hQ
    show K (0, [.ref 4, .int p0, .ref p1, .ref p2, .null, .null], [], σ)
    obtain ⟨g1, h⟩ := ite_some h
    rcases ite_cases h with ⟨c2, h⟩ | ⟨c2, h⟩
    · refine hw 6 _ ?_
      show kd 24 = 1 ∧ (inb p0 20 = true ∧ ((((σ 24 (ix p0)) < 300) → K (14, [.ref 4, .int p0, .ref p1, .ref p2, .null, .null], [], σ)) ∧ (¬ ((σ 24 (ix p0)) < 300) → K (12, [.ref 4, .int p0, .ref p1, .ref p2, .null, .null], [], σ))))
      refine ⟨rfl, g1, ⟨fun _ => ?_, fun q => absurd c2 q⟩⟩
      refine hw 4 _ ?_
      show K (20, [.ref 4, .int p0, .ref p1, .ref p2, .int 0, .int 0], [], σ)
      refine t_X3_levelOf_20 hw hf p0 p1 p2 _ _ lf 0 0 σ h (fun v18 v19 σ20 h => ?_)
      show K (59, [.ref 4, .int p0, .ref p1, .ref p2, .int v18, .int v19], [], σ20)
      obtain rfl := Option.some.inj h
      refine hw 2 _ ?_
      show Qa v18 σ20
      refine hQ
    · refine hw 6 _ ?_
      show kd 24 = 1 ∧ (inb p0 20 = true ∧ ((((σ 24 (ix p0)) < 300) → K (14, [.ref 4, .int p0, .ref p1, .ref p2, .null, .null], [], σ)) ∧ (¬ ((σ 24 (ix p0)) < 300) → K (12, [.ref 4, .int p0, .ref p1, .ref p2, .null, .null], [], σ))))
      refine ⟨rfl, g1, ⟨fun q => absurd q c2, fun _ => ?_⟩⟩
      obtain rfl := Option.some.inj h
      refine hw 2 _ ?_
      show Qa 0 σ
      refine hQ
  · cases h
theorem h_X3_levelOf : shp [.ref 4] 6 F_X3_levelOf := by
  intro As σ r σ' h
  unfold F_X3_levelOf at h
  split at h
  · exact ⟨by simp [Value.category], Nat.le_of_ble_eq_true rfl⟩
  · cases h
set_option maxHeartbeats 4000000 in
set_option maxRecDepth 100000 in
theorem c_X3_levelOf (l : Launch) (D : va_G) (cI cZ cA : ClassId) (ad : Nat → Nat) (hi : adI ad) : CtI l yX3_levelOf wsX3_levelOf { frames := 0, cells := 0, slots := 0, locals := 0 } D cI cZ cA ad [.ref 4] F_X3_levelOf := by
  refine mk_I [.ref 4] F_X3_levelOf T_X3_levelOf (by decide +kernel) rfl ?_ h_X3_levelOf s_X3_levelOf
  intro p e s m args below meth c Qa ⟨hx, hb, hml, hown, hts, hr, hlocks, hK, hN⟩
  have hin3 : ∀ w ∈ u_ws RX3 TX3 9, w ∈ wsX3_levelOf := by decide +kernel
  have hl30 : (Cond.fieldLink RX3 30 RX3 (TX3 6).2.1 (TX3 6).2.2.1) ∈ wsX3_levelOf := by decide +kernel
  refine ruL_c (n := 0) (n2 := 1) rfl (ru_aload_n (k := 0) hx hb dX3_levelOf_0) ?_
  refine ruL_c (n := 1) (n2 := 2) rfl (ru_getR (own := RX3) (j := 6) (T := TX3) hx hb hown hK hts hin3 (by decide) rfl rfl (by decide) rfl hl30 dX3_levelOf_1) ?_
  refine ruL_c (n := 2) (n2 := 3) rfl (ru_bot) ?_
  refine ruL_c (n := 3) (n2 := 4) rfl (ru_bot) ?_
  refine ruL_c (n := 4) (n2 := 5) rfl (ru_iload_n (k := 1) hx hb dX3_levelOf_4) ?_
  refine ruL_c (n := 5) (n2 := 6) rfl (ru_iald hx hb hK dX3_levelOf_5) ?_
  refine ruL_c (n := 6) (n2 := 7) rfl (ru_sipush hx hb dX3_levelOf_6 rfl) ?_
  refine ruL_c (n := 7) (n2 := 8) rfl (ru_bot) ?_
  refine ruL_c (n := 8) (n2 := 9) rfl (ru_bot) ?_
  refine ruL_c (n := 9) (n2 := 10) rfl (ru_icmplt hx hb dX3_levelOf_9 (by decide)) ?_
  refine ruL_c (n := 10) (n2 := 11) rfl (ru_bot) ?_
  refine ruL_c (n := 11) (n2 := 12) rfl (ru_bot) ?_
  refine ruL_c (n := 12) (n2 := 13) rfl (ru_iconst hx hb dX3_levelOf_12 rfl) ?_
  refine ruL_c (n := 13) (n2 := 14) rfl (ru_iret hx hb hK hr hlocks dX3_levelOf_13) ?_
  refine ruL_c (n := 14) (n2 := 15) rfl (ru_iconst hx hb dX3_levelOf_14 rfl) ?_
  refine ruL_c (n := 15) (n2 := 16) rfl (ru_istore hx hb dX3_levelOf_15) ?_
  refine ruL_c (n := 16) (n2 := 17) rfl (ru_bot) ?_
  refine ruL_c (n := 17) (n2 := 18) rfl (ru_iconst hx hb dX3_levelOf_17 rfl) ?_
  refine ruL_c (n := 18) (n2 := 19) rfl (ru_istore hx hb dX3_levelOf_18) ?_
  refine ruL_c (n := 19) (n2 := 20) rfl (ru_bot) ?_
  refine ruL_c (n := 20) (n2 := 21) rfl (ru_iload hx hb dX3_levelOf_20) ?_
  refine ruL_c (n := 21) (n2 := 22) rfl (ru_bot) ?_
  refine ruL_c (n := 22) (n2 := 23) rfl (ru_bipush hx hb dX3_levelOf_22 rfl) ?_
  refine ruL_c (n := 23) (n2 := 24) rfl (ru_bot) ?_
  refine ruL_c (n := 24) (n2 := 25) rfl (ru_icmpge hx hb dX3_levelOf_24 (by decide)) ?_
  refine ruL_c (n := 25) (n2 := 26) rfl (ru_bot) ?_
  refine ruL_c (n := 26) (n2 := 27) rfl (ru_bot) ?_
  refine ruL_c (n := 27) (n2 := 28) rfl (ru_aload_n (k := 2) hx hb dX3_levelOf_27) ?_
  refine ruL_c (n := 28) (n2 := 29) rfl (ru_iload hx hb dX3_levelOf_28) ?_
  refine ruL_c (n := 29) (n2 := 30) rfl (ru_bot) ?_
  refine ruL_c (n := 30) (n2 := 31) rfl (ru_iald hx hb hK dX3_levelOf_30) ?_
  refine ruL_c (n := 31) (n2 := 32) rfl (ru_iload_n (k := 1) hx hb dX3_levelOf_31) ?_
  refine ruL_c (n := 32) (n2 := 33) rfl (ru_ishr hx hb dX3_levelOf_32) ?_
  refine ruL_c (n := 33) (n2 := 34) rfl (ru_iconst hx hb dX3_levelOf_33 rfl) ?_
  refine ruL_c (n := 34) (n2 := 35) rfl (ru_iand hx hb dX3_levelOf_34) ?_
  refine ruL_c (n := 35) (n2 := 36) rfl (ru_ifeq hx hb dX3_levelOf_35 (by decide)) ?_
  refine ruL_c (n := 36) (n2 := 37) rfl (ru_bot) ?_
  refine ruL_c (n := 37) (n2 := 38) rfl (ru_bot) ?_
  refine ruL_c (n := 38) (n2 := 39) rfl (ru_aload_n (k := 3) hx hb dX3_levelOf_38) ?_
  refine ruL_c (n := 39) (n2 := 40) rfl (ru_iload hx hb dX3_levelOf_39) ?_
  refine ruL_c (n := 40) (n2 := 41) rfl (ru_bot) ?_
  refine ruL_c (n := 41) (n2 := 42) rfl (ru_iald hx hb hK dX3_levelOf_41) ?_
  refine ruL_c (n := 42) (n2 := 43) rfl (ru_iload hx hb dX3_levelOf_42) ?_
  refine ruL_c (n := 43) (n2 := 44) rfl (ru_bot) ?_
  refine ruL_c (n := 44) (n2 := 45) rfl (ru_icmple hx hb dX3_levelOf_44 (by decide)) ?_
  refine ruL_c (n := 45) (n2 := 46) rfl (ru_bot) ?_
  refine ruL_c (n := 46) (n2 := 47) rfl (ru_bot) ?_
  refine ruL_c (n := 47) (n2 := 48) rfl (ru_aload_n (k := 3) hx hb dX3_levelOf_47) ?_
  refine ruL_c (n := 48) (n2 := 49) rfl (ru_iload hx hb dX3_levelOf_48) ?_
  refine ruL_c (n := 49) (n2 := 50) rfl (ru_bot) ?_
  refine ruL_c (n := 50) (n2 := 51) rfl (ru_iald hx hb hK dX3_levelOf_50) ?_
  refine ruL_c (n := 51) (n2 := 52) rfl (ru_istore hx hb dX3_levelOf_51) ?_
  refine ruL_c (n := 52) (n2 := 53) rfl (ru_bot) ?_
  refine ruL_c (n := 53) (n2 := 54) rfl (ru_iinc hx hb dX3_levelOf_53 rfl) ?_
  refine ruL_c (n := 54) (n2 := 55) rfl (ru_bot) ?_
  refine ruL_c (n := 55) (n2 := 56) rfl (ru_bot) ?_
  refine ruL_c (n := 56) (n2 := 57) rfl (ru_goto hx hb dX3_levelOf_56 (by decide)) ?_
  refine ruL_c (n := 57) (n2 := 58) rfl (ru_bot) ?_
  refine ruL_c (n := 58) (n2 := 59) rfl (ru_bot) ?_
  refine ruL_c (n := 59) (n2 := 60) rfl (ru_iload hx hb dX3_levelOf_59) ?_
  refine ruL_c (n := 60) (n2 := 61) rfl (ru_bot) ?_
  refine ruL_c (n := 61) (n2 := 62) rfl (ru_iret hx hb hK hr hlocks dX3_levelOf_61) ?_
  exact trivial

-- CueTour$Rig.lightOf
def l_X3_lightOf_6 (x1 : Int32) (x2 : Int32) (a3 : Nat) (a4 : Nat) : Nat → Int32 → Int32 → aM → (Int32 → Int32 → aM → Option (Int32 × aM)) → Option (Int32 × aM)
  | 0, _, _, _, _ => none
  | n + 1, v5, v6, σ7, k => if (σ7 4 8) ≤ v6 then k v5 v6 σ7 else bnd (f_X3_isFor v6 x1 x2 σ7) (fun r9 σ10 => if r9 = 0 then l_X3_lightOf_6 x1 x2 a3 a4 n v5 (v6 + 1) σ10 k else bnd (f_X3_levelOf v6 a3 a4 σ10) (fun r13 σ14 => if inb v6 20 = true then l_X3_lightOf_6 x1 x2 a3 a4 n (v5 + ((r13 * (σ14 21 (ix v6))) / 100)) (v6 + 1) σ14 k else none))
def f_X3_lightOf (p0 : Int32) (p1 : Int32) (p2 : Nat) (p3 : Nat) (σ : aM) : Option (Int32 × aM) := l_X3_lightOf_6 p0 p1 p2 p3 lf 0 0 σ (fun v17 v18 σ19 => if 100 ≤ v17 then some (100, σ19) else some (v17, σ19))
def F_X3_lightOf : aF := fun As σ => match As with
  | [.int p0, .int p1, .ref p2, .ref p3] => f_X3_lightOf p0 p1 p2 p3 σ
  | _ => none
def T_X3_lightOf (Qa : Int32 → aM → Prop) : List aI := [I_const 0 1, I_istore 5 2, I_bot, I_const 0 1, I_istore 6 2, I_bot, I_iload 6 2, I_bot, I_aload 0 1, I_getI 4 8, I_bot, I_bot, I_icmp (fun x y => y ≤ x) 57, I_bot, I_bot, I_aload 0 1, I_iload 6 2, I_bot, I_iload 1 1, I_iload 2 1, I_callV 4 3 F_X3_isFor, I_bot, I_bot, I_if (fun x => x = 0) 51, I_bot, I_bot, I_iload 5 2, I_bot, I_aload 0 1, I_iload 6 2, I_bot, I_aload 3 1, I_aload 4 2, I_bot, I_callV 4 3 F_X3_levelOf, I_bot, I_bot, I_aload 0 1, I_getR 4 21, I_bot, I_bot, I_iload 6 2, I_bot, I_iald, I_bin fun x y => x * y, I_const (100) 2, I_bot, I_div fun x y => x / y, I_bin fun x y => x + y, I_istore 5 2, I_bot, I_iinc 6 (1), I_bot, I_bot, I_goto 6, I_bot, I_bot, I_iload 5 2, I_bot, I_const (100) 2, I_bot, I_icmp (fun x y => y ≤ x) 69, I_bot, I_bot, I_iload 5 2, I_bot, I_goto 71, I_bot, I_bot, I_const (100) 2, I_bot, I_iret Qa]
set_option maxHeartbeats 4000000 in
set_option maxRecDepth 100000 in
theorem t_X3_lightOf_6 {Qa : Int32 → aM → Prop} {K : aS → Prop} (hw : ∀ k x, wp (T_X3_lightOf Qa) k K x → K x) (hf : ∀ pc L i st σ, K (pc, L.set i .null, st, σ) → K (pc, L, st, σ)) (x1 : Int32) (x2 : Int32) (a3 : Nat) (a4 : Nat) (y : Int32 × aM) (k : Int32 → Int32 → aM → Option (Int32 × aM)) :
    ∀ (n : Nat) (v5 : Int32) (v6 : Int32) (σ7 : aM), l_X3_lightOf_6 x1 x2 a3 a4 n v5 v6 σ7 k = some y → (∀ (w0 : Int32) (w1 : Int32) (τ : aM), k w0 w1 τ = some y → K (57, [.ref 4, .int x1, .int x2, .ref a3, .ref a4, .int w0, .int w1], [], τ)) → K (6, [.ref 4, .int x1, .int x2, .ref a3, .ref a4, .int v5, .int v6], [], σ7) := by
  intro n
  induction n with
  | zero =>
    intro v5 v6 σ7 h hk
    exact absurd h (by simp [l_X3_lightOf_6])
  | succ n ih =>
    intro v5 v6 σ7 h hk
    unfold l_X3_lightOf_6 at h
    rcases ite_cases h with ⟨c8, h⟩ | ⟨c8, h⟩
    · refine hw 4 _ ?_
      show (((σ7 4 8) ≤ v6) → K (57, [.ref 4, .int x1, .int x2, .ref a3, .ref a4, .int v5, .int v6], [], σ7)) ∧ (¬ ((σ7 4 8) ≤ v6) → K (15, [.ref 4, .int x1, .int x2, .ref a3, .ref a4, .int v5, .int v6], [], σ7))
      refine ⟨fun _ => ?_, fun q => absurd c8 q⟩
      exact hk v5 v6 σ7 h
    · refine hw 4 _ ?_
      show (((σ7 4 8) ≤ v6) → K (57, [.ref 4, .int x1, .int x2, .ref a3, .ref a4, .int v5, .int v6], [], σ7)) ∧ (¬ ((σ7 4 8) ≤ v6) → K (15, [.ref 4, .int x1, .int x2, .ref a3, .ref a4, .int v5, .int v6], [], σ7))
      refine ⟨fun q => absurd q c8, fun _ => ?_⟩
      obtain ⟨r9, σ10, e11, h⟩ := bnd_some h
      refine hw 5 _ ?_
      show ∃ r9 σ10, f_X3_isFor v6 x1 x2 σ7 = some (r9, σ10) ∧ K (23, [.ref 4, .int x1, .int x2, .ref a3, .ref a4, .int v5, .int v6], [.int r9], σ10)
      refine ⟨r9, σ10, e11, ?_⟩
      rcases ite_cases h with ⟨c12, h⟩ | ⟨c12, h⟩
      · refine hw 1 _ ?_
        show ((r9 = 0) → K (51, [.ref 4, .int x1, .int x2, .ref a3, .ref a4, .int v5, .int v6], [], σ10)) ∧ (¬ (r9 = 0) → K (26, [.ref 4, .int x1, .int x2, .ref a3, .ref a4, .int v5, .int v6], [], σ10))
        refine ⟨fun _ => ?_, fun q => absurd c12 q⟩
        refine hw 2 _ ?_
        show K (6, [.ref 4, .int x1, .int x2, .ref a3, .ref a4, .int v5, .int (v6 + 1)], [], σ10)
        exact ih v5 (v6 + 1) σ10 h hk
      · refine hw 1 _ ?_
        show ((r9 = 0) → K (51, [.ref 4, .int x1, .int x2, .ref a3, .ref a4, .int v5, .int v6], [], σ10)) ∧ (¬ (r9 = 0) → K (26, [.ref 4, .int x1, .int x2, .ref a3, .ref a4, .int v5, .int v6], [], σ10))
        refine ⟨fun q => absurd q c12, fun _ => ?_⟩
        obtain ⟨r13, σ14, e15, h⟩ := bnd_some h
        refine hw 6 _ ?_
        show ∃ r13 σ14, f_X3_levelOf v6 a3 a4 σ10 = some (r13, σ14) ∧ K (37, [.ref 4, .int x1, .int x2, .ref a3, .ref a4, .int v5, .int v6], [.int r13, .int v5], σ14)
        refine ⟨r13, σ14, e15, ?_⟩
        obtain ⟨g16, h⟩ := ite_some h
        refine hw 11 _ ?_
        show kd 21 = 1 ∧ (inb v6 20 = true ∧ (¬ 100 = (0 : Int32) ∧ (K (6, [.ref 4, .int x1, .int x2, .ref a3, .ref a4, .int (v5 + ((r13 * (σ14 21 (ix v6))) / 100)), .int (v6 + 1)], [], σ14))))
        refine ⟨rfl, g16, by decide, ?_⟩
        exact ih (v5 + ((r13 * (σ14 21 (ix v6))) / 100)) (v6 + 1) σ14 h hk

set_option maxHeartbeats 4000000 in
set_option maxRecDepth 100000 in
theorem s_X3_lightOf : runs T_X3_lightOf [.ref 4] 7 F_X3_lightOf := by
  intro Qa K hw hf As σ r σ' h hQ
  unfold F_X3_lightOf at h
  split at h
  · rename_i p0 p1 p2 p3
    unfold f_X3_lightOf at h
    have hQ : Qa (r, σ').1 (r, σ').2 := hQ
    generalize (r, σ') = y at h hQ
    show K (0, [.ref 4, .int p0, .int p1, .ref p2, .ref p3, .null, .null], [], σ)
    refine hw 4 _ ?_
    show K (6, [.ref 4, .int p0, .int p1, .ref p2, .ref p3, .int 0, .int 0], [], σ)
    refine t_X3_lightOf_6 hw hf p0 p1 p2 p3 _ _ lf 0 0 σ h (fun v17 v18 σ19 h => ?_)
    show K (57, [.ref 4, .int p0, .int p1, .ref p2, .ref p3, .int v17, .int v18], [], σ19)
    rcases ite_cases h with ⟨c20, h⟩ | ⟨c20, h⟩
    · refine hw 3 _ ?_
      show ((100 ≤ v17) → K (69, [.ref 4, .int p0, .int p1, .ref p2, .ref p3, .int v17, .int v18], [], σ19)) ∧ (¬ (100 ≤ v17) → K (64, [.ref 4, .int p0, .int p1, .ref p2, .ref p3, .int v17, .int v18], [], σ19))
      refine ⟨fun _ => ?_, fun q => absurd c20 q⟩
      obtain rfl := Option.some.inj h
      refine hw 2 _ ?_
      show Qa 100 σ19
      refine hQ
    · refine hw 3 _ ?_
      show ((100 ≤ v17) → K (69, [.ref 4, .int p0, .int p1, .ref p2, .ref p3, .int v17, .int v18], [], σ19)) ∧ (¬ (100 ≤ v17) → K (64, [.ref 4, .int p0, .int p1, .ref p2, .ref p3, .int v17, .int v18], [], σ19))
      refine ⟨fun q => absurd q c20, fun _ => ?_⟩
      obtain rfl := Option.some.inj h
      refine hw 3 _ ?_
      show Qa v17 σ19
      refine hQ
  · cases h
theorem h_X3_lightOf : shp [.ref 4] 7 F_X3_lightOf := by
  intro As σ r σ' h
  unfold F_X3_lightOf at h
  split at h
  · exact ⟨by simp [Value.category], Nat.le_of_ble_eq_true rfl⟩
  · cases h
set_option maxHeartbeats 4000000 in
set_option maxRecDepth 100000 in
theorem c_X3_lightOf (l : Launch) (D : va_G) (cI cZ cA : ClassId) (ad : Nat → Nat) (hi : adI ad) : CtI l yX3_lightOf wsX3_lightOf { frames := 1, cells := 0, slots := 0, locals := 25 } D cI cZ cA ad [.ref 4] F_X3_lightOf := by
  refine mk_I [.ref 4] F_X3_lightOf T_X3_lightOf (by decide +kernel) rfl ?_ h_X3_lightOf s_X3_lightOf
  intro p e s m args below meth c Qa ⟨hx, hb, hml, hown, hts, hr, hlocks, hK, hN⟩
  have hin3 : ∀ w ∈ u_ws RX3 TX3 9, w ∈ wsX3_lightOf := by decide +kernel
  have hl36 : (Cond.fieldLink RX3 36 RX3 (TX3 8).2.1 (TX3 8).2.2.1) ∈ wsX3_lightOf := by decide +kernel
  have hl21 : (Cond.fieldLink RX3 21 RX3 (TX3 3).2.1 (TX3 3).2.2.1) ∈ wsX3_lightOf := by decide +kernel
  refine ruL_c (n := 0) (n2 := 1) rfl (ru_iconst hx hb dX3_lightOf_0 rfl) ?_
  refine ruL_c (n := 1) (n2 := 2) rfl (ru_istore hx hb dX3_lightOf_1) ?_
  refine ruL_c (n := 2) (n2 := 3) rfl (ru_bot) ?_
  refine ruL_c (n := 3) (n2 := 4) rfl (ru_iconst hx hb dX3_lightOf_3 rfl) ?_
  refine ruL_c (n := 4) (n2 := 5) rfl (ru_istore hx hb dX3_lightOf_4) ?_
  refine ruL_c (n := 5) (n2 := 6) rfl (ru_bot) ?_
  refine ruL_c (n := 6) (n2 := 7) rfl (ru_iload hx hb dX3_lightOf_6) ?_
  refine ruL_c (n := 7) (n2 := 8) rfl (ru_bot) ?_
  refine ruL_c (n := 8) (n2 := 9) rfl (ru_aload_n (k := 0) hx hb dX3_lightOf_8) ?_
  refine ruL_c (n := 9) (n2 := 10) rfl (ru_getI (own := RX3) (j := 8) (T := TX3) hx hb hown hK hts hin3 (by decide) rfl rfl (by decide) rfl hl36 dX3_lightOf_9) ?_
  refine ruL_c (n := 10) (n2 := 11) rfl (ru_bot) ?_
  refine ruL_c (n := 11) (n2 := 12) rfl (ru_bot) ?_
  refine ruL_c (n := 12) (n2 := 13) rfl (ru_icmpge hx hb dX3_lightOf_12 (by decide)) ?_
  refine ruL_c (n := 13) (n2 := 14) rfl (ru_bot) ?_
  refine ruL_c (n := 14) (n2 := 15) rfl (ru_bot) ?_
  refine ruL_c (n := 15) (n2 := 16) rfl (ru_aload_n (k := 0) hx hb dX3_lightOf_15) ?_
  refine ruL_c (n := 16) (n2 := 17) rfl (ru_iload hx hb dX3_lightOf_16) ?_
  refine ruL_c (n := 17) (n2 := 18) rfl (ru_bot) ?_
  refine ruL_c (n := 18) (n2 := 19) rfl (ru_iload_n (k := 1) hx hb dX3_lightOf_18) ?_
  refine ruL_c (n := 19) (n2 := 20) rfl (ru_iload_n (k := 2) hx hb dX3_lightOf_19) ?_
  refine ruL_c (n := 20) (n2 := 21) rfl (ru_callV hx hb hml hown hts hK hN (by decide) rfl (c_X3_isFor l D cI cZ cA ad hi) (cwV 3 hts gX3_lightOf_X3_isFor rfl rfl rfl (by decide +kernel) ⟨Nat.le_of_ble_eq_true rfl, Nat.le_of_ble_eq_true rfl⟩) dX3_lightOf_20 ⟨Nat.zero_le _, Nat.zero_le _⟩) ?_
  refine ruL_c (n := 21) (n2 := 22) rfl (ru_bot) ?_
  refine ruL_c (n := 22) (n2 := 23) rfl (ru_bot) ?_
  refine ruL_c (n := 23) (n2 := 24) rfl (ru_ifeq hx hb dX3_lightOf_23 (by decide)) ?_
  refine ruL_c (n := 24) (n2 := 25) rfl (ru_bot) ?_
  refine ruL_c (n := 25) (n2 := 26) rfl (ru_bot) ?_
  refine ruL_c (n := 26) (n2 := 27) rfl (ru_iload hx hb dX3_lightOf_26) ?_
  refine ruL_c (n := 27) (n2 := 28) rfl (ru_bot) ?_
  refine ruL_c (n := 28) (n2 := 29) rfl (ru_aload_n (k := 0) hx hb dX3_lightOf_28) ?_
  refine ruL_c (n := 29) (n2 := 30) rfl (ru_iload hx hb dX3_lightOf_29) ?_
  refine ruL_c (n := 30) (n2 := 31) rfl (ru_bot) ?_
  refine ruL_c (n := 31) (n2 := 32) rfl (ru_aload_n (k := 3) hx hb dX3_lightOf_31) ?_
  refine ruL_c (n := 32) (n2 := 33) rfl (ru_aload hx hb dX3_lightOf_32) ?_
  refine ruL_c (n := 33) (n2 := 34) rfl (ru_bot) ?_
  refine ruL_c (n := 34) (n2 := 35) rfl (ru_callV hx hb hml hown hts hK hN (by decide) rfl (c_X3_levelOf l D cI cZ cA ad hi) (cwV 3 hts gX3_lightOf_X3_levelOf rfl rfl rfl (by decide +kernel) ⟨Nat.le_of_ble_eq_true rfl, Nat.le_of_ble_eq_true rfl⟩) dX3_lightOf_34 ⟨Nat.zero_le _, Nat.zero_le _⟩) ?_
  refine ruL_c (n := 35) (n2 := 36) rfl (ru_bot) ?_
  refine ruL_c (n := 36) (n2 := 37) rfl (ru_bot) ?_
  refine ruL_c (n := 37) (n2 := 38) rfl (ru_aload_n (k := 0) hx hb dX3_lightOf_37) ?_
  refine ruL_c (n := 38) (n2 := 39) rfl (ru_getR (own := RX3) (j := 3) (T := TX3) hx hb hown hK hts hin3 (by decide) rfl rfl (by decide) rfl hl21 dX3_lightOf_38) ?_
  refine ruL_c (n := 39) (n2 := 40) rfl (ru_bot) ?_
  refine ruL_c (n := 40) (n2 := 41) rfl (ru_bot) ?_
  refine ruL_c (n := 41) (n2 := 42) rfl (ru_iload hx hb dX3_lightOf_41) ?_
  refine ruL_c (n := 42) (n2 := 43) rfl (ru_bot) ?_
  refine ruL_c (n := 43) (n2 := 44) rfl (ru_iald hx hb hK dX3_lightOf_43) ?_
  refine ruL_c (n := 44) (n2 := 45) rfl (ru_imul hx hb dX3_lightOf_44) ?_
  refine ruL_c (n := 45) (n2 := 46) rfl (ru_bipush hx hb dX3_lightOf_45 rfl) ?_
  refine ruL_c (n := 46) (n2 := 47) rfl (ru_bot) ?_
  refine ruL_c (n := 47) (n2 := 48) rfl (ru_idiv hx hb dX3_lightOf_47) ?_
  refine ruL_c (n := 48) (n2 := 49) rfl (ru_iadd hx hb dX3_lightOf_48) ?_
  refine ruL_c (n := 49) (n2 := 50) rfl (ru_istore hx hb dX3_lightOf_49) ?_
  refine ruL_c (n := 50) (n2 := 51) rfl (ru_bot) ?_
  refine ruL_c (n := 51) (n2 := 52) rfl (ru_iinc hx hb dX3_lightOf_51 rfl) ?_
  refine ruL_c (n := 52) (n2 := 53) rfl (ru_bot) ?_
  refine ruL_c (n := 53) (n2 := 54) rfl (ru_bot) ?_
  refine ruL_c (n := 54) (n2 := 55) rfl (ru_goto hx hb dX3_lightOf_54 (by decide)) ?_
  refine ruL_c (n := 55) (n2 := 56) rfl (ru_bot) ?_
  refine ruL_c (n := 56) (n2 := 57) rfl (ru_bot) ?_
  refine ruL_c (n := 57) (n2 := 58) rfl (ru_iload hx hb dX3_lightOf_57) ?_
  refine ruL_c (n := 58) (n2 := 59) rfl (ru_bot) ?_
  refine ruL_c (n := 59) (n2 := 60) rfl (ru_bipush hx hb dX3_lightOf_59 rfl) ?_
  refine ruL_c (n := 60) (n2 := 61) rfl (ru_bot) ?_
  refine ruL_c (n := 61) (n2 := 62) rfl (ru_icmpge hx hb dX3_lightOf_61 (by decide)) ?_
  refine ruL_c (n := 62) (n2 := 63) rfl (ru_bot) ?_
  refine ruL_c (n := 63) (n2 := 64) rfl (ru_bot) ?_
  refine ruL_c (n := 64) (n2 := 65) rfl (ru_iload hx hb dX3_lightOf_64) ?_
  refine ruL_c (n := 65) (n2 := 66) rfl (ru_bot) ?_
  refine ruL_c (n := 66) (n2 := 67) rfl (ru_goto hx hb dX3_lightOf_66 (by decide)) ?_
  refine ruL_c (n := 67) (n2 := 68) rfl (ru_bot) ?_
  refine ruL_c (n := 68) (n2 := 69) rfl (ru_bot) ?_
  refine ruL_c (n := 69) (n2 := 70) rfl (ru_bipush hx hb dX3_lightOf_69 rfl) ?_
  refine ruL_c (n := 70) (n2 := 71) rfl (ru_bot) ?_
  refine ruL_c (n := 71) (n2 := 72) rfl (ru_iret hx hb hK hr hlocks dX3_lightOf_71) ?_
  exact trivial

-- CueTour$Rig.startBurning
def l_X3_startBurning_2 : Nat → Int32 → aM → (Int32 → aM → Option (Int32 × aM)) → Option (Int32 × aM)
  | 0, _, _, _ => none
  | n + 1, v1, σ2, k => if (σ2 4 8) ≤ v1 then k v1 σ2 else if inb v1 20 = true then l_X3_startBurning_2 n (v1 + 1) (mput σ2 25 (ix v1) 0) k else none
def f_X3_startBurning (σ : aM) : Option (Int32 × aM) := l_X3_startBurning_2 lf 0 σ (fun v5 σ6 => some (0, σ6))
def F_X3_startBurning : aF := fun As σ => match As with
  | [] => f_X3_startBurning σ
  | _ => none
def T_X3_startBurning (Qa : Int32 → aM → Prop) : List aI := [I_const 0 1, I_istore 1 1, I_iload 1 1, I_aload 0 1, I_getI 4 8, I_bot, I_bot, I_icmp (fun x y => y ≤ x) 23, I_bot, I_bot, I_aload 0 1, I_getR 4 25, I_bot, I_bot, I_iload 1 1, I_const 0 1, I_iast, I_iinc 1 (1), I_bot, I_bot, I_goto 2, I_bot, I_bot, I_vret Qa]
set_option maxHeartbeats 4000000 in
set_option maxRecDepth 100000 in
theorem t_X3_startBurning_2 {Qa : Int32 → aM → Prop} {K : aS → Prop} (hw : ∀ k x, wp (T_X3_startBurning Qa) k K x → K x) (hf : ∀ pc L i st σ, K (pc, L.set i .null, st, σ) → K (pc, L, st, σ)) (y : Int32 × aM) (k : Int32 → aM → Option (Int32 × aM)) :
    ∀ (n : Nat) (v1 : Int32) (σ2 : aM), l_X3_startBurning_2 n v1 σ2 k = some y → (∀ (w0 : Int32) (τ : aM), k w0 τ = some y → K (23, [.ref 4, .int w0], [], τ)) → K (2, [.ref 4, .int v1], [], σ2) := by
  intro n
  induction n with
  | zero =>
    intro v1 σ2 h hk
    exact absurd h (by simp [l_X3_startBurning_2])
  | succ n ih =>
    intro v1 σ2 h hk
    unfold l_X3_startBurning_2 at h
    rcases ite_cases h with ⟨c3, h⟩ | ⟨c3, h⟩
    · refine hw 4 _ ?_
      show (((σ2 4 8) ≤ v1) → K (23, [.ref 4, .int v1], [], σ2)) ∧ (¬ ((σ2 4 8) ≤ v1) → K (10, [.ref 4, .int v1], [], σ2))
      refine ⟨fun _ => ?_, fun q => absurd c3 q⟩
      exact hk v1 σ2 h
    · refine hw 4 _ ?_
      show (((σ2 4 8) ≤ v1) → K (23, [.ref 4, .int v1], [], σ2)) ∧ (¬ ((σ2 4 8) ≤ v1) → K (10, [.ref 4, .int v1], [], σ2))
      refine ⟨fun q => absurd q c3, fun _ => ?_⟩
      obtain ⟨g4, h⟩ := ite_some h
      refine hw 7 _ ?_
      show kd 25 = 1 ∧ (inb v1 20 = true ∧ (K (2, [.ref 4, .int (v1 + 1)], [], mput σ2 25 (ix v1) 0)))
      refine ⟨rfl, g4, ?_⟩
      exact ih (v1 + 1) (mput σ2 25 (ix v1) 0) h hk

set_option maxHeartbeats 4000000 in
set_option maxRecDepth 100000 in
theorem s_X3_startBurning : runs T_X3_startBurning [.ref 4] 2 F_X3_startBurning := by
  intro Qa K hw hf As σ r σ' h hQ
  unfold F_X3_startBurning at h
  split at h
  · unfold f_X3_startBurning at h
    have hQ : Qa (r, σ').1 (r, σ').2 := hQ
    generalize (r, σ') = y at h hQ
    show K (0, [.ref 4, .null], [], σ)
    refine hw 2 _ ?_
    show K (2, [.ref 4, .int 0], [], σ)
    refine t_X3_startBurning_2 hw hf _ _ lf 0 σ h (fun v5 σ6 h => ?_)
    show K (23, [.ref 4, .int v5], [], σ6)
    obtain rfl := Option.some.inj h
    refine hw 1 _ ?_
    show Qa 0 σ6
    refine hQ
  · cases h
theorem h_X3_startBurning : shp [.ref 4] 2 F_X3_startBurning := by
  intro As σ r σ' h
  unfold F_X3_startBurning at h
  split at h
  · exact ⟨by simp [Value.category], Nat.le_of_ble_eq_true rfl⟩
  · cases h
set_option maxHeartbeats 4000000 in
set_option maxRecDepth 100000 in
theorem c_X3_startBurning (l : Launch) (D : va_G) (cI cZ cA : ClassId) (ad : Nat → Nat) (hi : adI ad) : CtV l yX3_startBurning wsX3_startBurning { frames := 0, cells := 0, slots := 0, locals := 0 } D cI cZ cA ad [.ref 4] F_X3_startBurning := by
  refine mk_V [.ref 4] F_X3_startBurning T_X3_startBurning (by decide +kernel) rfl ?_ h_X3_startBurning s_X3_startBurning
  intro p e s m args below meth c Qa ⟨hx, hb, hml, hown, hts, hr, hlocks, hK, hN⟩
  have hin3 : ∀ w ∈ u_ws RX3 TX3 9, w ∈ wsX3_startBurning := by decide +kernel
  have hl36 : (Cond.fieldLink RX3 36 RX3 (TX3 8).2.1 (TX3 8).2.2.1) ∈ wsX3_startBurning := by decide +kernel
  have hl33 : (Cond.fieldLink RX3 33 RX3 (TX3 7).2.1 (TX3 7).2.2.1) ∈ wsX3_startBurning := by decide +kernel
  refine ruL_c (n := 0) (n2 := 1) rfl (ru_iconst hx hb dX3_startBurning_0 rfl) ?_
  refine ruL_c (n := 1) (n2 := 2) rfl (ru_istore_n (k := 1) hx hb dX3_startBurning_1) ?_
  refine ruL_c (n := 2) (n2 := 3) rfl (ru_iload_n (k := 1) hx hb dX3_startBurning_2) ?_
  refine ruL_c (n := 3) (n2 := 4) rfl (ru_aload_n (k := 0) hx hb dX3_startBurning_3) ?_
  refine ruL_c (n := 4) (n2 := 5) rfl (ru_getI (own := RX3) (j := 8) (T := TX3) hx hb hown hK hts hin3 (by decide) rfl rfl (by decide) rfl hl36 dX3_startBurning_4) ?_
  refine ruL_c (n := 5) (n2 := 6) rfl (ru_bot) ?_
  refine ruL_c (n := 6) (n2 := 7) rfl (ru_bot) ?_
  refine ruL_c (n := 7) (n2 := 8) rfl (ru_icmpge hx hb dX3_startBurning_7 (by decide)) ?_
  refine ruL_c (n := 8) (n2 := 9) rfl (ru_bot) ?_
  refine ruL_c (n := 9) (n2 := 10) rfl (ru_bot) ?_
  refine ruL_c (n := 10) (n2 := 11) rfl (ru_aload_n (k := 0) hx hb dX3_startBurning_10) ?_
  refine ruL_c (n := 11) (n2 := 12) rfl (ru_getR (own := RX3) (j := 7) (T := TX3) hx hb hown hK hts hin3 (by decide) rfl rfl (by decide) rfl hl33 dX3_startBurning_11) ?_
  refine ruL_c (n := 12) (n2 := 13) rfl (ru_bot) ?_
  refine ruL_c (n := 13) (n2 := 14) rfl (ru_bot) ?_
  refine ruL_c (n := 14) (n2 := 15) rfl (ru_iload_n (k := 1) hx hb dX3_startBurning_14) ?_
  refine ruL_c (n := 15) (n2 := 16) rfl (ru_iconst hx hb dX3_startBurning_15 rfl) ?_
  refine ruL_c (n := 16) (n2 := 17) rfl (ru_iast hx hb hK hi dX3_startBurning_16) ?_
  refine ruL_c (n := 17) (n2 := 18) rfl (ru_iinc hx hb dX3_startBurning_17 rfl) ?_
  refine ruL_c (n := 18) (n2 := 19) rfl (ru_bot) ?_
  refine ruL_c (n := 19) (n2 := 20) rfl (ru_bot) ?_
  refine ruL_c (n := 20) (n2 := 21) rfl (ru_goto hx hb dX3_startBurning_20 (by decide)) ?_
  refine ruL_c (n := 21) (n2 := 22) rfl (ru_bot) ?_
  refine ruL_c (n := 22) (n2 := 23) rfl (ru_bot) ?_
  refine ruL_c (n := 23) (n2 := 24) rfl (ru_vret hx hb hK hr hlocks dX3_startBurning_23) ?_
  exact trivial

-- CueTour$Rig.burn
def l_X3_burn_3 (x1 : Int32) (a2 : Nat) (a3 : Nat) : Nat → Int32 → aM → (Int32 → aM → Option (Int32 × aM)) → Option (Int32 × aM)
  | 0, _, _, _ => none
  | n + 1, v4, σ5, k => if (σ5 4 8) ≤ v4 then k v4 σ5 else if inb v4 20 = true then if ¬ (σ5 22 (ix v4)) = x1 then l_X3_burn_3 x1 a2 a3 n (v4 + 1) σ5 k else bnd (f_X3_levelOf v4 a2 a3 σ5) (fun r9 σ10 => if r9 ≤ 0 then l_X3_burn_3 x1 a2 a3 n (v4 + 1) σ10 k else if inb v4 20 = true then if inb v4 20 = true then l_X3_burn_3 x1 a2 a3 n (v4 + 1) (mput σ10 25 (ix v4) ((σ10 25 (ix v4)) + 1)) k else none else none) else none
def f_X3_burn (p0 : Int32) (p1 : Nat) (p2 : Nat) (σ : aM) : Option (Int32 × aM) := l_X3_burn_3 p0 p1 p2 lf 0 σ (fun v15 σ16 => some (0, σ16))
def F_X3_burn : aF := fun As σ => match As with
  | [.int p0, .ref p1, .ref p2] => f_X3_burn p0 p1 p2 σ
  | _ => none
def T_X3_burn (Qa : Int32 → aM → Prop) : List aI := [I_const 0 1, I_istore 4 2, I_bot, I_iload 4 2, I_bot, I_aload 0 1, I_getI 4 8, I_bot, I_bot, I_icmp (fun x y => y ≤ x) 51, I_bot, I_bot, I_aload 0 1, I_getR 4 22, I_bot, I_bot, I_iload 4 2, I_bot, I_iald, I_iload 1 1, I_icmp (fun x y => ¬ x = y) 45, I_bot, I_bot, I_aload 0 1, I_iload 4 2, I_bot, I_aload 2 1, I_aload 3 1, I_callV 4 3 F_X3_levelOf, I_bot, I_bot, I_if (fun x => x ≤ 0) 45, I_bot, I_bot, I_aload 0 1, I_getR 4 25, I_bot, I_bot, I_iload 4 2, I_bot, I_dup2, I_iald, I_const 1 1, I_bin fun x y => x + y, I_iast, I_iinc 4 (1), I_bot, I_bot, I_goto 3, I_bot, I_bot, I_vret Qa]
set_option maxHeartbeats 4000000 in
set_option maxRecDepth 100000 in
theorem t_X3_burn_3 {Qa : Int32 → aM → Prop} {K : aS → Prop} (hw : ∀ k x, wp (T_X3_burn Qa) k K x → K x) (hf : ∀ pc L i st σ, K (pc, L.set i .null, st, σ) → K (pc, L, st, σ)) (x1 : Int32) (a2 : Nat) (a3 : Nat) (y : Int32 × aM) (k : Int32 → aM → Option (Int32 × aM)) :
    ∀ (n : Nat) (v4 : Int32) (σ5 : aM), l_X3_burn_3 x1 a2 a3 n v4 σ5 k = some y → (∀ (w0 : Int32) (τ : aM), k w0 τ = some y → K (51, [.ref 4, .int x1, .ref a2, .ref a3, .int w0], [], τ)) → K (3, [.ref 4, .int x1, .ref a2, .ref a3, .int v4], [], σ5) := by
  intro n
  induction n with
  | zero =>
    intro v4 σ5 h hk
    exact absurd h (by simp [l_X3_burn_3])
  | succ n ih =>
    intro v4 σ5 h hk
    unfold l_X3_burn_3 at h
    rcases ite_cases h with ⟨c6, h⟩ | ⟨c6, h⟩
    · refine hw 4 _ ?_
      show (((σ5 4 8) ≤ v4) → K (51, [.ref 4, .int x1, .ref a2, .ref a3, .int v4], [], σ5)) ∧ (¬ ((σ5 4 8) ≤ v4) → K (12, [.ref 4, .int x1, .ref a2, .ref a3, .int v4], [], σ5))
      refine ⟨fun _ => ?_, fun q => absurd c6 q⟩
      exact hk v4 σ5 h
    · refine hw 4 _ ?_
      show (((σ5 4 8) ≤ v4) → K (51, [.ref 4, .int x1, .ref a2, .ref a3, .int v4], [], σ5)) ∧ (¬ ((σ5 4 8) ≤ v4) → K (12, [.ref 4, .int x1, .ref a2, .ref a3, .int v4], [], σ5))
      refine ⟨fun q => absurd q c6, fun _ => ?_⟩
      obtain ⟨g7, h⟩ := ite_some h
      rcases ite_cases h with ⟨c8, h⟩ | ⟨c8, h⟩
      · refine hw 6 _ ?_
        show kd 22 = 1 ∧ (inb v4 20 = true ∧ (((¬ (σ5 22 (ix v4)) = x1) → K (45, [.ref 4, .int x1, .ref a2, .ref a3, .int v4], [], σ5)) ∧ (¬ (¬ (σ5 22 (ix v4)) = x1) → K (23, [.ref 4, .int x1, .ref a2, .ref a3, .int v4], [], σ5))))
        refine ⟨rfl, g7, ⟨fun _ => ?_, fun q => absurd c8 q⟩⟩
        refine hw 2 _ ?_
        show K (3, [.ref 4, .int x1, .ref a2, .ref a3, .int (v4 + 1)], [], σ5)
        exact ih (v4 + 1) σ5 h hk
      · refine hw 6 _ ?_
        show kd 22 = 1 ∧ (inb v4 20 = true ∧ (((¬ (σ5 22 (ix v4)) = x1) → K (45, [.ref 4, .int x1, .ref a2, .ref a3, .int v4], [], σ5)) ∧ (¬ (¬ (σ5 22 (ix v4)) = x1) → K (23, [.ref 4, .int x1, .ref a2, .ref a3, .int v4], [], σ5))))
        refine ⟨rfl, g7, ⟨fun q => absurd q c8, fun _ => ?_⟩⟩
        obtain ⟨r9, σ10, e11, h⟩ := bnd_some h
        refine hw 5 _ ?_
        show ∃ r9 σ10, f_X3_levelOf v4 a2 a3 σ5 = some (r9, σ10) ∧ K (31, [.ref 4, .int x1, .ref a2, .ref a3, .int v4], [.int r9], σ10)
        refine ⟨r9, σ10, e11, ?_⟩
        rcases ite_cases h with ⟨c12, h⟩ | ⟨c12, h⟩
        · refine hw 1 _ ?_
          show ((r9 ≤ 0) → K (45, [.ref 4, .int x1, .ref a2, .ref a3, .int v4], [], σ10)) ∧ (¬ (r9 ≤ 0) → K (34, [.ref 4, .int x1, .ref a2, .ref a3, .int v4], [], σ10))
          refine ⟨fun _ => ?_, fun q => absurd c12 q⟩
          refine hw 2 _ ?_
          show K (3, [.ref 4, .int x1, .ref a2, .ref a3, .int (v4 + 1)], [], σ10)
          exact ih (v4 + 1) σ10 h hk
        · refine hw 1 _ ?_
          show ((r9 ≤ 0) → K (45, [.ref 4, .int x1, .ref a2, .ref a3, .int v4], [], σ10)) ∧ (¬ (r9 ≤ 0) → K (34, [.ref 4, .int x1, .ref a2, .ref a3, .int v4], [], σ10))
          refine ⟨fun q => absurd q c12, fun _ => ?_⟩
          obtain ⟨g13, h⟩ := ite_some h
          obtain ⟨g14, h⟩ := ite_some h
          refine hw 10 _ ?_
          show kd 25 = 1 ∧ (inb v4 20 = true ∧ (kd 25 = 1 ∧ (inb v4 20 = true ∧ (K (3, [.ref 4, .int x1, .ref a2, .ref a3, .int (v4 + 1)], [], mput σ10 25 (ix v4) ((σ10 25 (ix v4)) + 1))))))
          refine ⟨rfl, g13, rfl, g14, ?_⟩
          exact ih (v4 + 1) (mput σ10 25 (ix v4) ((σ10 25 (ix v4)) + 1)) h hk

set_option maxHeartbeats 4000000 in
set_option maxRecDepth 100000 in
theorem s_X3_burn : runs T_X3_burn [.ref 4] 5 F_X3_burn := by
  intro Qa K hw hf As σ r σ' h hQ
  unfold F_X3_burn at h
  split at h
  · rename_i p0 p1 p2
    unfold f_X3_burn at h
    have hQ : Qa (r, σ').1 (r, σ').2 := hQ
    generalize (r, σ') = y at h hQ
    show K (0, [.ref 4, .int p0, .ref p1, .ref p2, .null], [], σ)
    refine hw 2 _ ?_
    show K (3, [.ref 4, .int p0, .ref p1, .ref p2, .int 0], [], σ)
    refine t_X3_burn_3 hw hf p0 p1 p2 _ _ lf 0 σ h (fun v15 σ16 h => ?_)
    show K (51, [.ref 4, .int p0, .ref p1, .ref p2, .int v15], [], σ16)
    obtain rfl := Option.some.inj h
    refine hw 1 _ ?_
    show Qa 0 σ16
    refine hQ
  · cases h
theorem h_X3_burn : shp [.ref 4] 5 F_X3_burn := by
  intro As σ r σ' h
  unfold F_X3_burn at h
  split at h
  · exact ⟨by simp [Value.category], Nat.le_of_ble_eq_true rfl⟩
  · cases h
set_option maxHeartbeats 4000000 in
set_option maxRecDepth 100000 in
theorem c_X3_burn (l : Launch) (D : va_G) (cI cZ cA : ClassId) (ad : Nat → Nat) (hi : adI ad) : CtV l yX3_burn wsX3_burn { frames := 1, cells := 0, slots := 0, locals := 25 } D cI cZ cA ad [.ref 4] F_X3_burn := by
  refine mk_V [.ref 4] F_X3_burn T_X3_burn (by decide +kernel) rfl ?_ h_X3_burn s_X3_burn
  intro p e s m args below meth c Qa ⟨hx, hb, hml, hown, hts, hr, hlocks, hK, hN⟩
  have hin3 : ∀ w ∈ u_ws RX3 TX3 9, w ∈ wsX3_burn := by decide +kernel
  have hl36 : (Cond.fieldLink RX3 36 RX3 (TX3 8).2.1 (TX3 8).2.2.1) ∈ wsX3_burn := by decide +kernel
  have hl24 : (Cond.fieldLink RX3 24 RX3 (TX3 4).2.1 (TX3 4).2.2.1) ∈ wsX3_burn := by decide +kernel
  have hl33 : (Cond.fieldLink RX3 33 RX3 (TX3 7).2.1 (TX3 7).2.2.1) ∈ wsX3_burn := by decide +kernel
  refine ruL_c (n := 0) (n2 := 1) rfl (ru_iconst hx hb dX3_burn_0 rfl) ?_
  refine ruL_c (n := 1) (n2 := 2) rfl (ru_istore hx hb dX3_burn_1) ?_
  refine ruL_c (n := 2) (n2 := 3) rfl (ru_bot) ?_
  refine ruL_c (n := 3) (n2 := 4) rfl (ru_iload hx hb dX3_burn_3) ?_
  refine ruL_c (n := 4) (n2 := 5) rfl (ru_bot) ?_
  refine ruL_c (n := 5) (n2 := 6) rfl (ru_aload_n (k := 0) hx hb dX3_burn_5) ?_
  refine ruL_c (n := 6) (n2 := 7) rfl (ru_getI (own := RX3) (j := 8) (T := TX3) hx hb hown hK hts hin3 (by decide) rfl rfl (by decide) rfl hl36 dX3_burn_6) ?_
  refine ruL_c (n := 7) (n2 := 8) rfl (ru_bot) ?_
  refine ruL_c (n := 8) (n2 := 9) rfl (ru_bot) ?_
  refine ruL_c (n := 9) (n2 := 10) rfl (ru_icmpge hx hb dX3_burn_9 (by decide)) ?_
  refine ruL_c (n := 10) (n2 := 11) rfl (ru_bot) ?_
  refine ruL_c (n := 11) (n2 := 12) rfl (ru_bot) ?_
  refine ruL_c (n := 12) (n2 := 13) rfl (ru_aload_n (k := 0) hx hb dX3_burn_12) ?_
  refine ruL_c (n := 13) (n2 := 14) rfl (ru_getR (own := RX3) (j := 4) (T := TX3) hx hb hown hK hts hin3 (by decide) rfl rfl (by decide) rfl hl24 dX3_burn_13) ?_
  refine ruL_c (n := 14) (n2 := 15) rfl (ru_bot) ?_
  refine ruL_c (n := 15) (n2 := 16) rfl (ru_bot) ?_
  refine ruL_c (n := 16) (n2 := 17) rfl (ru_iload hx hb dX3_burn_16) ?_
  refine ruL_c (n := 17) (n2 := 18) rfl (ru_bot) ?_
  refine ruL_c (n := 18) (n2 := 19) rfl (ru_iald hx hb hK dX3_burn_18) ?_
  refine ruL_c (n := 19) (n2 := 20) rfl (ru_iload_n (k := 1) hx hb dX3_burn_19) ?_
  refine ruL_c (n := 20) (n2 := 21) rfl (ru_icmpne hx hb dX3_burn_20 (by decide)) ?_
  refine ruL_c (n := 21) (n2 := 22) rfl (ru_bot) ?_
  refine ruL_c (n := 22) (n2 := 23) rfl (ru_bot) ?_
  refine ruL_c (n := 23) (n2 := 24) rfl (ru_aload_n (k := 0) hx hb dX3_burn_23) ?_
  refine ruL_c (n := 24) (n2 := 25) rfl (ru_iload hx hb dX3_burn_24) ?_
  refine ruL_c (n := 25) (n2 := 26) rfl (ru_bot) ?_
  refine ruL_c (n := 26) (n2 := 27) rfl (ru_aload_n (k := 2) hx hb dX3_burn_26) ?_
  refine ruL_c (n := 27) (n2 := 28) rfl (ru_aload_n (k := 3) hx hb dX3_burn_27) ?_
  refine ruL_c (n := 28) (n2 := 29) rfl (ru_callV hx hb hml hown hts hK hN (by decide) rfl (c_X3_levelOf l D cI cZ cA ad hi) (cwV 3 hts gX3_burn_X3_levelOf rfl rfl rfl (by decide +kernel) ⟨Nat.le_of_ble_eq_true rfl, Nat.le_of_ble_eq_true rfl⟩) dX3_burn_28 ⟨Nat.zero_le _, Nat.zero_le _⟩) ?_
  refine ruL_c (n := 29) (n2 := 30) rfl (ru_bot) ?_
  refine ruL_c (n := 30) (n2 := 31) rfl (ru_bot) ?_
  refine ruL_c (n := 31) (n2 := 32) rfl (ru_ifle hx hb dX3_burn_31 (by decide)) ?_
  refine ruL_c (n := 32) (n2 := 33) rfl (ru_bot) ?_
  refine ruL_c (n := 33) (n2 := 34) rfl (ru_bot) ?_
  refine ruL_c (n := 34) (n2 := 35) rfl (ru_aload_n (k := 0) hx hb dX3_burn_34) ?_
  refine ruL_c (n := 35) (n2 := 36) rfl (ru_getR (own := RX3) (j := 7) (T := TX3) hx hb hown hK hts hin3 (by decide) rfl rfl (by decide) rfl hl33 dX3_burn_35) ?_
  refine ruL_c (n := 36) (n2 := 37) rfl (ru_bot) ?_
  refine ruL_c (n := 37) (n2 := 38) rfl (ru_bot) ?_
  refine ruL_c (n := 38) (n2 := 39) rfl (ru_iload hx hb dX3_burn_38) ?_
  refine ruL_c (n := 39) (n2 := 40) rfl (ru_bot) ?_
  refine ruL_c (n := 40) (n2 := 41) rfl (ru_dup2 hx hb dX3_burn_40) ?_
  refine ruL_c (n := 41) (n2 := 42) rfl (ru_iald hx hb hK dX3_burn_41) ?_
  refine ruL_c (n := 42) (n2 := 43) rfl (ru_iconst hx hb dX3_burn_42 rfl) ?_
  refine ruL_c (n := 43) (n2 := 44) rfl (ru_iadd hx hb dX3_burn_43) ?_
  refine ruL_c (n := 44) (n2 := 45) rfl (ru_iast hx hb hK hi dX3_burn_44) ?_
  refine ruL_c (n := 45) (n2 := 46) rfl (ru_iinc hx hb dX3_burn_45 rfl) ?_
  refine ruL_c (n := 46) (n2 := 47) rfl (ru_bot) ?_
  refine ruL_c (n := 47) (n2 := 48) rfl (ru_bot) ?_
  refine ruL_c (n := 48) (n2 := 49) rfl (ru_goto hx hb dX3_burn_48 (by decide)) ?_
  refine ruL_c (n := 49) (n2 := 50) rfl (ru_bot) ?_
  refine ruL_c (n := 50) (n2 := 51) rfl (ru_bot) ?_
  refine ruL_c (n := 51) (n2 := 52) rfl (ru_vret hx hb hK hr hlocks dX3_burn_51) ?_
  exact trivial

-- CueTour$Rig.addBurnt
def l_X3_addBurnt_2 : Nat → Int32 → aM → (Int32 → aM → Option (Int32 × aM)) → Option (Int32 × aM)
  | 0, _, _, _ => none
  | n + 1, v1, σ2, k => if (σ2 4 8) ≤ v1 then k v1 σ2 else if inb v1 20 = true then if inb v1 20 = true then if inb v1 20 = true then l_X3_addBurnt_2 n (v1 + 1) (mput σ2 24 (ix v1) ((σ2 24 (ix v1)) + (σ2 25 (ix v1)))) k else none else none else none
def f_X3_addBurnt (σ : aM) : Option (Int32 × aM) := l_X3_addBurnt_2 lf 0 σ (fun v7 σ8 => some (0, σ8))
def F_X3_addBurnt : aF := fun As σ => match As with
  | [] => f_X3_addBurnt σ
  | _ => none
def T_X3_addBurnt (Qa : Int32 → aM → Prop) : List aI := [I_const 0 1, I_istore 1 1, I_iload 1 1, I_aload 0 1, I_getI 4 8, I_bot, I_bot, I_icmp (fun x y => y ≤ x) 31, I_bot, I_bot, I_aload 0 1, I_getR 4 24, I_bot, I_bot, I_iload 1 1, I_dup2, I_iald, I_aload 0 1, I_getR 4 25, I_bot, I_bot, I_iload 1 1, I_iald, I_bin fun x y => x + y, I_iast, I_iinc 1 (1), I_bot, I_bot, I_goto 2, I_bot, I_bot, I_vret Qa]
set_option maxHeartbeats 4000000 in
set_option maxRecDepth 100000 in
theorem t_X3_addBurnt_2 {Qa : Int32 → aM → Prop} {K : aS → Prop} (hw : ∀ k x, wp (T_X3_addBurnt Qa) k K x → K x) (hf : ∀ pc L i st σ, K (pc, L.set i .null, st, σ) → K (pc, L, st, σ)) (y : Int32 × aM) (k : Int32 → aM → Option (Int32 × aM)) :
    ∀ (n : Nat) (v1 : Int32) (σ2 : aM), l_X3_addBurnt_2 n v1 σ2 k = some y → (∀ (w0 : Int32) (τ : aM), k w0 τ = some y → K (31, [.ref 4, .int w0], [], τ)) → K (2, [.ref 4, .int v1], [], σ2) := by
  intro n
  induction n with
  | zero =>
    intro v1 σ2 h hk
    exact absurd h (by simp [l_X3_addBurnt_2])
  | succ n ih =>
    intro v1 σ2 h hk
    unfold l_X3_addBurnt_2 at h
    rcases ite_cases h with ⟨c3, h⟩ | ⟨c3, h⟩
    · refine hw 4 _ ?_
      show (((σ2 4 8) ≤ v1) → K (31, [.ref 4, .int v1], [], σ2)) ∧ (¬ ((σ2 4 8) ≤ v1) → K (10, [.ref 4, .int v1], [], σ2))
      refine ⟨fun _ => ?_, fun q => absurd c3 q⟩
      exact hk v1 σ2 h
    · refine hw 4 _ ?_
      show (((σ2 4 8) ≤ v1) → K (31, [.ref 4, .int v1], [], σ2)) ∧ (¬ ((σ2 4 8) ≤ v1) → K (10, [.ref 4, .int v1], [], σ2))
      refine ⟨fun q => absurd q c3, fun _ => ?_⟩
      obtain ⟨g4, h⟩ := ite_some h
      obtain ⟨g5, h⟩ := ite_some h
      obtain ⟨g6, h⟩ := ite_some h
      refine hw 13 _ ?_
      show kd 24 = 1 ∧ (inb v1 20 = true ∧ (kd 25 = 1 ∧ (inb v1 20 = true ∧ (kd 24 = 1 ∧ (inb v1 20 = true ∧ (K (2, [.ref 4, .int (v1 + 1)], [], mput σ2 24 (ix v1) ((σ2 24 (ix v1)) + (σ2 25 (ix v1))))))))))
      refine ⟨rfl, g4, rfl, g5, rfl, g6, ?_⟩
      exact ih (v1 + 1) (mput σ2 24 (ix v1) ((σ2 24 (ix v1)) + (σ2 25 (ix v1)))) h hk

set_option maxHeartbeats 4000000 in
set_option maxRecDepth 100000 in
theorem s_X3_addBurnt : runs T_X3_addBurnt [.ref 4] 2 F_X3_addBurnt := by
  intro Qa K hw hf As σ r σ' h hQ
  unfold F_X3_addBurnt at h
  split at h
  · unfold f_X3_addBurnt at h
    have hQ : Qa (r, σ').1 (r, σ').2 := hQ
    generalize (r, σ') = y at h hQ
    show K (0, [.ref 4, .null], [], σ)
    refine hw 2 _ ?_
    show K (2, [.ref 4, .int 0], [], σ)
    refine t_X3_addBurnt_2 hw hf _ _ lf 0 σ h (fun v7 σ8 h => ?_)
    show K (31, [.ref 4, .int v7], [], σ8)
    obtain rfl := Option.some.inj h
    refine hw 1 _ ?_
    show Qa 0 σ8
    refine hQ
  · cases h
theorem h_X3_addBurnt : shp [.ref 4] 2 F_X3_addBurnt := by
  intro As σ r σ' h
  unfold F_X3_addBurnt at h
  split at h
  · exact ⟨by simp [Value.category], Nat.le_of_ble_eq_true rfl⟩
  · cases h
set_option maxHeartbeats 4000000 in
set_option maxRecDepth 100000 in
theorem c_X3_addBurnt (l : Launch) (D : va_G) (cI cZ cA : ClassId) (ad : Nat → Nat) (hi : adI ad) : CtV l yX3_addBurnt wsX3_addBurnt { frames := 0, cells := 0, slots := 0, locals := 0 } D cI cZ cA ad [.ref 4] F_X3_addBurnt := by
  refine mk_V [.ref 4] F_X3_addBurnt T_X3_addBurnt (by decide +kernel) rfl ?_ h_X3_addBurnt s_X3_addBurnt
  intro p e s m args below meth c Qa ⟨hx, hb, hml, hown, hts, hr, hlocks, hK, hN⟩
  have hin3 : ∀ w ∈ u_ws RX3 TX3 9, w ∈ wsX3_addBurnt := by decide +kernel
  have hl36 : (Cond.fieldLink RX3 36 RX3 (TX3 8).2.1 (TX3 8).2.2.1) ∈ wsX3_addBurnt := by decide +kernel
  have hl30 : (Cond.fieldLink RX3 30 RX3 (TX3 6).2.1 (TX3 6).2.2.1) ∈ wsX3_addBurnt := by decide +kernel
  have hl33 : (Cond.fieldLink RX3 33 RX3 (TX3 7).2.1 (TX3 7).2.2.1) ∈ wsX3_addBurnt := by decide +kernel
  refine ruL_c (n := 0) (n2 := 1) rfl (ru_iconst hx hb dX3_addBurnt_0 rfl) ?_
  refine ruL_c (n := 1) (n2 := 2) rfl (ru_istore_n (k := 1) hx hb dX3_addBurnt_1) ?_
  refine ruL_c (n := 2) (n2 := 3) rfl (ru_iload_n (k := 1) hx hb dX3_addBurnt_2) ?_
  refine ruL_c (n := 3) (n2 := 4) rfl (ru_aload_n (k := 0) hx hb dX3_addBurnt_3) ?_
  refine ruL_c (n := 4) (n2 := 5) rfl (ru_getI (own := RX3) (j := 8) (T := TX3) hx hb hown hK hts hin3 (by decide) rfl rfl (by decide) rfl hl36 dX3_addBurnt_4) ?_
  refine ruL_c (n := 5) (n2 := 6) rfl (ru_bot) ?_
  refine ruL_c (n := 6) (n2 := 7) rfl (ru_bot) ?_
  refine ruL_c (n := 7) (n2 := 8) rfl (ru_icmpge hx hb dX3_addBurnt_7 (by decide)) ?_
  refine ruL_c (n := 8) (n2 := 9) rfl (ru_bot) ?_
  refine ruL_c (n := 9) (n2 := 10) rfl (ru_bot) ?_
  refine ruL_c (n := 10) (n2 := 11) rfl (ru_aload_n (k := 0) hx hb dX3_addBurnt_10) ?_
  refine ruL_c (n := 11) (n2 := 12) rfl (ru_getR (own := RX3) (j := 6) (T := TX3) hx hb hown hK hts hin3 (by decide) rfl rfl (by decide) rfl hl30 dX3_addBurnt_11) ?_
  refine ruL_c (n := 12) (n2 := 13) rfl (ru_bot) ?_
  refine ruL_c (n := 13) (n2 := 14) rfl (ru_bot) ?_
  refine ruL_c (n := 14) (n2 := 15) rfl (ru_iload_n (k := 1) hx hb dX3_addBurnt_14) ?_
  refine ruL_c (n := 15) (n2 := 16) rfl (ru_dup2 hx hb dX3_addBurnt_15) ?_
  refine ruL_c (n := 16) (n2 := 17) rfl (ru_iald hx hb hK dX3_addBurnt_16) ?_
  refine ruL_c (n := 17) (n2 := 18) rfl (ru_aload_n (k := 0) hx hb dX3_addBurnt_17) ?_
  refine ruL_c (n := 18) (n2 := 19) rfl (ru_getR (own := RX3) (j := 7) (T := TX3) hx hb hown hK hts hin3 (by decide) rfl rfl (by decide) rfl hl33 dX3_addBurnt_18) ?_
  refine ruL_c (n := 19) (n2 := 20) rfl (ru_bot) ?_
  refine ruL_c (n := 20) (n2 := 21) rfl (ru_bot) ?_
  refine ruL_c (n := 21) (n2 := 22) rfl (ru_iload_n (k := 1) hx hb dX3_addBurnt_21) ?_
  refine ruL_c (n := 22) (n2 := 23) rfl (ru_iald hx hb hK dX3_addBurnt_22) ?_
  refine ruL_c (n := 23) (n2 := 24) rfl (ru_iadd hx hb dX3_addBurnt_23) ?_
  refine ruL_c (n := 24) (n2 := 25) rfl (ru_iast hx hb hK hi dX3_addBurnt_24) ?_
  refine ruL_c (n := 25) (n2 := 26) rfl (ru_iinc hx hb dX3_addBurnt_25 rfl) ?_
  refine ruL_c (n := 26) (n2 := 27) rfl (ru_bot) ?_
  refine ruL_c (n := 27) (n2 := 28) rfl (ru_bot) ?_
  refine ruL_c (n := 28) (n2 := 29) rfl (ru_goto hx hb dX3_addBurnt_28 (by decide)) ?_
  refine ruL_c (n := 29) (n2 := 30) rfl (ru_bot) ?_
  refine ruL_c (n := 30) (n2 := 31) rfl (ru_bot) ?_
  refine ruL_c (n := 31) (n2 := 32) rfl (ru_vret hx hb hK hr hlocks dX3_addBurnt_31) ?_
  exact trivial
end
section
-- CueTour$CueList.append
def l_X1_append_2 : Nat → Int32 → aM → (Int32 → aM → Option (Int32 × aM)) → Option (Int32 × aM)
  | 0, _, _, _ => none
  | n + 1, v1, σ2, k => if 10 ≤ v1 then k v1 σ2 else if inb (σ2 3 4) 20 = true then if inb v1 10 = true then l_X1_append_2 n (v1 + 1) (mput σ2 (88 + ix (σ2 3 4)) (ix v1) ((-1))) k else none else none
def f_X1_append (σ : aM) : Option (Int32 × aM) := l_X1_append_2 lf 0 σ (fun v6 σ7 => some (((σ7 3 4) + 1) - 1, mput σ7 3 4 ((σ7 3 4) + 1)))
def F_X1_append : aF := fun As σ => match As with
  | [] => f_X1_append σ
  | _ => none
def T_X1_append (Qa : Int32 → aM → Prop) : List aI := [I_const 0 1, I_istore 1 1, I_iload 1 1, I_const (10) 2, I_bot, I_icmp (fun x y => y ≤ x) 26, I_bot, I_bot, I_aload 0 1, I_getR 3 54, I_bot, I_bot, I_aload 0 1, I_getI 3 4, I_bot, I_bot, I_aald, I_iload 1 1, I_const (-1) 1, I_iast, I_iinc 1 (1), I_bot, I_bot, I_goto 2, I_bot, I_bot, I_aload 0 1, I_dup, I_getI 3 4, I_bot, I_bot, I_const 1 1, I_bin fun x y => x + y, I_putI 3 4, I_bot, I_bot, I_aload 0 1, I_getI 3 4, I_bot, I_bot, I_const 1 1, I_bin fun x y => x - y, I_iret Qa]
set_option maxHeartbeats 4000000 in
set_option maxRecDepth 100000 in
theorem t_X1_append_2 {Qa : Int32 → aM → Prop} {K : aS → Prop} (hw : ∀ k x, wp (T_X1_append Qa) k K x → K x) (hf : ∀ pc L i st σ, K (pc, L.set i .null, st, σ) → K (pc, L, st, σ)) (y : Int32 × aM) (k : Int32 → aM → Option (Int32 × aM)) :
    ∀ (n : Nat) (v1 : Int32) (σ2 : aM), l_X1_append_2 n v1 σ2 k = some y → (∀ (w0 : Int32) (τ : aM), k w0 τ = some y → K (26, [.ref 3, .int w0], [], τ)) → K (2, [.ref 3, .int v1], [], σ2) := by
  intro n
  induction n with
  | zero =>
    intro v1 σ2 h hk
    exact absurd h (by simp [l_X1_append_2])
  | succ n ih =>
    intro v1 σ2 h hk
    unfold l_X1_append_2 at h
    rcases ite_cases h with ⟨c3, h⟩ | ⟨c3, h⟩
    · refine hw 3 _ ?_
      show ((10 ≤ v1) → K (26, [.ref 3, .int v1], [], σ2)) ∧ (¬ (10 ≤ v1) → K (8, [.ref 3, .int v1], [], σ2))
      refine ⟨fun _ => ?_, fun q => absurd c3 q⟩
      exact hk v1 σ2 h
    · refine hw 3 _ ?_
      show ((10 ≤ v1) → K (26, [.ref 3, .int v1], [], σ2)) ∧ (¬ (10 ≤ v1) → K (8, [.ref 3, .int v1], [], σ2))
      refine ⟨fun q => absurd q c3, fun _ => ?_⟩
      obtain ⟨g4, h⟩ := ite_some h
      obtain ⟨g5, h⟩ := ite_some h
      refine hw 10 _ ?_
      show kd 54 = 3 ∧ (inb (σ2 3 4) 20 = true ∧ (kd (88 + ix (σ2 3 4)) = 1 ∧ (inb v1 (ln (88 + ix (σ2 3 4))) = true ∧ (K (2, [.ref 3, .int (v1 + 1)], [], mput σ2 (88 + ix (σ2 3 4)) (ix v1) ((-1)))))))
      refine ⟨rfl, g4, (row54_kd g4), (by rw [row54_ln g4]; exact g5), ?_⟩
      exact ih (v1 + 1) (mput σ2 (88 + ix (σ2 3 4)) (ix v1) ((-1))) h hk

set_option maxHeartbeats 4000000 in
set_option maxRecDepth 100000 in
theorem s_X1_append : runs T_X1_append [.ref 3] 2 F_X1_append := by
  intro Qa K hw hf As σ r σ' h hQ
  unfold F_X1_append at h
  split at h
  · unfold f_X1_append at h
    have hQ : Qa (r, σ').1 (r, σ').2 := hQ
    generalize (r, σ') = y at h hQ
    show K (0, [.ref 3, .null], [], σ)
    refine hw 2 _ ?_
    show K (2, [.ref 3, .int 0], [], σ)
    refine t_X1_append_2 hw hf _ _ lf 0 σ h (fun v6 σ7 h => ?_)
    show K (26, [.ref 3, .int v6], [], σ7)
    obtain rfl := Option.some.inj h
    refine hw 11 _ ?_
    show Qa (((σ7 3 4) + 1) - 1) (mput σ7 3 4 ((σ7 3 4) + 1))
    refine hQ
  · cases h
theorem h_X1_append : shp [.ref 3] 2 F_X1_append := by
  intro As σ r σ' h
  unfold F_X1_append at h
  split at h
  · exact ⟨by simp [Value.category], Nat.le_of_ble_eq_true rfl⟩
  · cases h
set_option maxHeartbeats 4000000 in
set_option maxRecDepth 100000 in
theorem c_X1_append (l : Launch) (D : va_G) (cI cZ cA : ClassId) (ad : Nat → Nat) (hi : adI ad) : CtI l yX1_append wsX1_append { frames := 0, cells := 0, slots := 0, locals := 0 } D cI cZ cA ad [.ref 3] F_X1_append := by
  refine mk_I [.ref 3] F_X1_append T_X1_append (by decide +kernel) rfl ?_ h_X1_append s_X1_append
  intro p e s m args below meth c Qa ⟨hx, hb, hml, hown, hts, hr, hlocks, hK, hN⟩
  have hin1 : ∀ w ∈ u_ws RX1 TX1 11, w ∈ wsX1_append := by decide +kernel
  have hl23 : (Cond.fieldLink RX1 23 RX1 (TX1 3).2.1 (TX1 3).2.2.1) ∈ wsX1_append := by decide +kernel
  have hl26 : (Cond.fieldLink RX1 26 RX1 (TX1 4).2.1 (TX1 4).2.2.1) ∈ wsX1_append := by decide +kernel
  refine ruL_c (n := 0) (n2 := 1) rfl (ru_iconst hx hb dX1_append_0 rfl) ?_
  refine ruL_c (n := 1) (n2 := 2) rfl (ru_istore_n (k := 1) hx hb dX1_append_1) ?_
  refine ruL_c (n := 2) (n2 := 3) rfl (ru_iload_n (k := 1) hx hb dX1_append_2) ?_
  refine ruL_c (n := 3) (n2 := 4) rfl (ru_bipush hx hb dX1_append_3 rfl) ?_
  refine ruL_c (n := 4) (n2 := 5) rfl (ru_bot) ?_
  refine ruL_c (n := 5) (n2 := 6) rfl (ru_icmpge hx hb dX1_append_5 (by decide)) ?_
  refine ruL_c (n := 6) (n2 := 7) rfl (ru_bot) ?_
  refine ruL_c (n := 7) (n2 := 8) rfl (ru_bot) ?_
  refine ruL_c (n := 8) (n2 := 9) rfl (ru_aload_n (k := 0) hx hb dX1_append_8) ?_
  refine ruL_c (n := 9) (n2 := 10) rfl (ru_getR (own := RX1) (j := 3) (T := TX1) hx hb hown hK hts hin1 (by decide) rfl rfl (by decide) rfl hl23 dX1_append_9) ?_
  refine ruL_c (n := 10) (n2 := 11) rfl (ru_bot) ?_
  refine ruL_c (n := 11) (n2 := 12) rfl (ru_bot) ?_
  refine ruL_c (n := 12) (n2 := 13) rfl (ru_aload_n (k := 0) hx hb dX1_append_12) ?_
  refine ruL_c (n := 13) (n2 := 14) rfl (ru_getI (own := RX1) (j := 4) (T := TX1) hx hb hown hK hts hin1 (by decide) rfl rfl (by decide) rfl hl26 dX1_append_13) ?_
  refine ruL_c (n := 14) (n2 := 15) rfl (ru_bot) ?_
  refine ruL_c (n := 15) (n2 := 16) rfl (ru_bot) ?_
  refine ruL_c (n := 16) (n2 := 17) rfl (ru_aald hx hb hK dX1_append_16) ?_
  refine ruL_c (n := 17) (n2 := 18) rfl (ru_iload_n (k := 1) hx hb dX1_append_17) ?_
  refine ruL_c (n := 18) (n2 := 19) rfl (ru_iconst hx hb dX1_append_18 rfl) ?_
  refine ruL_c (n := 19) (n2 := 20) rfl (ru_iast hx hb hK hi dX1_append_19) ?_
  refine ruL_c (n := 20) (n2 := 21) rfl (ru_iinc hx hb dX1_append_20 rfl) ?_
  refine ruL_c (n := 21) (n2 := 22) rfl (ru_bot) ?_
  refine ruL_c (n := 22) (n2 := 23) rfl (ru_bot) ?_
  refine ruL_c (n := 23) (n2 := 24) rfl (ru_goto hx hb dX1_append_23 (by decide)) ?_
  refine ruL_c (n := 24) (n2 := 25) rfl (ru_bot) ?_
  refine ruL_c (n := 25) (n2 := 26) rfl (ru_bot) ?_
  refine ruL_c (n := 26) (n2 := 27) rfl (ru_aload_n (k := 0) hx hb dX1_append_26) ?_
  refine ruL_c (n := 27) (n2 := 28) rfl (ru_dup hx hb dX1_append_27) ?_
  refine ruL_c (n := 28) (n2 := 29) rfl (ru_getI (own := RX1) (j := 4) (T := TX1) hx hb hown hK hts hin1 (by decide) rfl rfl (by decide) rfl hl26 dX1_append_28) ?_
  refine ruL_c (n := 29) (n2 := 30) rfl (ru_bot) ?_
  refine ruL_c (n := 30) (n2 := 31) rfl (ru_bot) ?_
  refine ruL_c (n := 31) (n2 := 32) rfl (ru_iconst hx hb dX1_append_31 rfl) ?_
  refine ruL_c (n := 32) (n2 := 33) rfl (ru_iadd hx hb dX1_append_32) ?_
  refine ruL_c (n := 33) (n2 := 34) rfl (ru_putI (own := RX1) (j := 4) (T := TX1) hx hb hown hK hi hts hin1 tyX1 tyX1_ok nmX1 (by decide) rfl rfl (by decide) rfl hl26 rfl (by decide +kernel) dX1_append_33) ?_
  refine ruL_c (n := 34) (n2 := 35) rfl (ru_bot) ?_
  refine ruL_c (n := 35) (n2 := 36) rfl (ru_bot) ?_
  refine ruL_c (n := 36) (n2 := 37) rfl (ru_aload_n (k := 0) hx hb dX1_append_36) ?_
  refine ruL_c (n := 37) (n2 := 38) rfl (ru_getI (own := RX1) (j := 4) (T := TX1) hx hb hown hK hts hin1 (by decide) rfl rfl (by decide) rfl hl26 dX1_append_37) ?_
  refine ruL_c (n := 38) (n2 := 39) rfl (ru_bot) ?_
  refine ruL_c (n := 39) (n2 := 40) rfl (ru_bot) ?_
  refine ruL_c (n := 40) (n2 := 41) rfl (ru_iconst hx hb dX1_append_40 rfl) ?_
  refine ruL_c (n := 41) (n2 := 42) rfl (ru_isub hx hb dX1_append_41) ?_
  refine ruL_c (n := 42) (n2 := 43) rfl (ru_iret hx hb hK hr hlocks dX1_append_42) ?_
  exact trivial

-- CueTour$CueList.place
def f_X1_place (p0 : Int32) (p1 : Int32) (p2 : Int32) (p3 : Int32) (σ : aM) : Option (Int32 × aM) := if inb p0 20 = true then if inb p0 20 = true then if inb p0 20 = true then some (0, mput (mput (mput σ 11 (ix p0) p1) 12 (ix p0) p2) 13 (ix p0) p3) else none else none else none
def F_X1_place : aF := fun As σ => match As with
  | [.int p0, .int p1, .int p2, .int p3] => f_X1_place p0 p1 p2 p3 σ
  | _ => none
def T_X1_place (Qa : Int32 → aM → Prop) : List aI := [I_aload 0 1, I_getR 3 11, I_bot, I_bot, I_iload 1 1, I_iload 2 1, I_iast, I_aload 0 1, I_getR 3 12, I_bot, I_bot, I_iload 1 1, I_iload 3 1, I_iast, I_aload 0 1, I_getR 3 13, I_bot, I_bot, I_iload 1 1, I_iload 4 2, I_bot, I_iast, I_vret Qa]
set_option maxHeartbeats 4000000 in
set_option maxRecDepth 100000 in
theorem s_X1_place : runs T_X1_place [.ref 3] 5 F_X1_place := by
  intro Qa K hw hf As σ r σ' h hQ
  unfold F_X1_place at h
  split at h
  · rename_i p0 p1 p2 p3
    unfold f_X1_place at h
    have hQ : Qa (r, σ').1 (r, σ').2 := hQ
    generalize (r, σ') = y at h hQ
    show K (0, [.ref 3, .int p0, .int p1, .int p2, .int p3], [], σ)
    obtain ⟨g1, h⟩ := ite_some h
    obtain ⟨g2, h⟩ := ite_some h
    obtain ⟨g3, h⟩ := ite_some h
    obtain rfl := Option.some.inj h
    refine hw 16 _ ?_
    show kd 11 = 1 ∧ (inb p0 20 = true ∧ (kd 12 = 1 ∧ (inb p0 20 = true ∧ (kd 13 = 1 ∧ (inb p0 20 = true ∧ (Qa 0 (mput (mput (mput σ 11 (ix p0) p1) 12 (ix p0) p2) 13 (ix p0) p3)))))))
    refine ⟨rfl, g1, rfl, g2, rfl, g3, hQ⟩
  · cases h
theorem h_X1_place : shp [.ref 3] 5 F_X1_place := by
  intro As σ r σ' h
  unfold F_X1_place at h
  split at h
  · exact ⟨by simp [Value.category], Nat.le_of_ble_eq_true rfl⟩
  · cases h
set_option maxHeartbeats 4000000 in
set_option maxRecDepth 100000 in
theorem c_X1_place (l : Launch) (D : va_G) (cI cZ cA : ClassId) (ad : Nat → Nat) (hi : adI ad) : CtV l yX1_place wsX1_place { frames := 0, cells := 0, slots := 0, locals := 0 } D cI cZ cA ad [.ref 3] F_X1_place := by
  refine mk_V [.ref 3] F_X1_place T_X1_place (by decide +kernel) rfl ?_ h_X1_place s_X1_place
  intro p e s m args below meth c Qa ⟨hx, hb, hml, hown, hts, hr, hlocks, hK, hN⟩
  have hin1 : ∀ w ∈ u_ws RX1 TX1 11, w ∈ wsX1_place := by decide +kernel
  have hl9 : (Cond.fieldLink RX1 9 RX1 (TX1 0).2.1 (TX1 0).2.2.1) ∈ wsX1_place := by decide +kernel
  have hl15 : (Cond.fieldLink RX1 15 RX1 (TX1 1).2.1 (TX1 1).2.2.1) ∈ wsX1_place := by decide +kernel
  have hl18 : (Cond.fieldLink RX1 18 RX1 (TX1 2).2.1 (TX1 2).2.2.1) ∈ wsX1_place := by decide +kernel
  refine ruL_c (n := 0) (n2 := 1) rfl (ru_aload_n (k := 0) hx hb dX1_place_0) ?_
  refine ruL_c (n := 1) (n2 := 2) rfl (ru_getR (own := RX1) (j := 0) (T := TX1) hx hb hown hK hts hin1 (by decide) rfl rfl (by decide) rfl hl9 dX1_place_1) ?_
  refine ruL_c (n := 2) (n2 := 3) rfl (ru_bot) ?_
  refine ruL_c (n := 3) (n2 := 4) rfl (ru_bot) ?_
  refine ruL_c (n := 4) (n2 := 5) rfl (ru_iload_n (k := 1) hx hb dX1_place_4) ?_
  refine ruL_c (n := 5) (n2 := 6) rfl (ru_iload_n (k := 2) hx hb dX1_place_5) ?_
  refine ruL_c (n := 6) (n2 := 7) rfl (ru_iast hx hb hK hi dX1_place_6) ?_
  refine ruL_c (n := 7) (n2 := 8) rfl (ru_aload_n (k := 0) hx hb dX1_place_7) ?_
  refine ruL_c (n := 8) (n2 := 9) rfl (ru_getR (own := RX1) (j := 1) (T := TX1) hx hb hown hK hts hin1 (by decide) rfl rfl (by decide) rfl hl15 dX1_place_8) ?_
  refine ruL_c (n := 9) (n2 := 10) rfl (ru_bot) ?_
  refine ruL_c (n := 10) (n2 := 11) rfl (ru_bot) ?_
  refine ruL_c (n := 11) (n2 := 12) rfl (ru_iload_n (k := 1) hx hb dX1_place_11) ?_
  refine ruL_c (n := 12) (n2 := 13) rfl (ru_iload_n (k := 3) hx hb dX1_place_12) ?_
  refine ruL_c (n := 13) (n2 := 14) rfl (ru_iast hx hb hK hi dX1_place_13) ?_
  refine ruL_c (n := 14) (n2 := 15) rfl (ru_aload_n (k := 0) hx hb dX1_place_14) ?_
  refine ruL_c (n := 15) (n2 := 16) rfl (ru_getR (own := RX1) (j := 2) (T := TX1) hx hb hown hK hts hin1 (by decide) rfl rfl (by decide) rfl hl18 dX1_place_15) ?_
  refine ruL_c (n := 16) (n2 := 17) rfl (ru_bot) ?_
  refine ruL_c (n := 17) (n2 := 18) rfl (ru_bot) ?_
  refine ruL_c (n := 18) (n2 := 19) rfl (ru_iload_n (k := 1) hx hb dX1_place_18) ?_
  refine ruL_c (n := 19) (n2 := 20) rfl (ru_iload hx hb dX1_place_19) ?_
  refine ruL_c (n := 20) (n2 := 21) rfl (ru_bot) ?_
  refine ruL_c (n := 21) (n2 := 22) rfl (ru_iast hx hb hK hi dX1_place_21) ?_
  refine ruL_c (n := 22) (n2 := 23) rfl (ru_vret hx hb hK hr hlocks dX1_place_22) ?_
  exact trivial

-- CueTour$CueList.comesAhead
def f_X1_comesAhead (p0 : Int32) (p1 : Int32) (σ : aM) : Option (Int32 × aM) := if inb p0 20 = true then if inb p1 20 = true then if (σ 11 (ix p0)) = (σ 11 (ix p1)) then if inb p0 20 = true then if inb p1 20 = true then if (σ 12 (ix p1)) ≤ (σ 12 (ix p0)) then some (0, σ) else some (1, σ) else none else none else if inb p0 20 = true then if inb p1 20 = true then if (σ 11 (ix p1)) ≤ (σ 11 (ix p0)) then some (0, σ) else some (1, σ) else none else none else none else none
def F_X1_comesAhead : aF := fun As σ => match As with
  | [.int p0, .int p1] => f_X1_comesAhead p0 p1 σ
  | _ => none
def T_X1_comesAhead (Qa : Int32 → aM → Prop) : List aI := [I_aload 0 1, I_getR 3 11, I_bot, I_bot, I_iload 1 1, I_iald, I_aload 0 1, I_getR 3 11, I_bot, I_bot, I_iload 2 1, I_iald, I_icmp (fun x y => x = y) 36, I_bot, I_bot, I_aload 0 1, I_getR 3 11, I_bot, I_bot, I_iload 1 1, I_iald, I_aload 0 1, I_getR 3 11, I_bot, I_bot, I_iload 2 1, I_iald, I_icmp (fun x y => y ≤ x) 34, I_bot, I_bot, I_const 1 1, I_goto 35, I_bot, I_bot, I_const 0 1, I_zret Qa, I_aload 0 1, I_getR 3 12, I_bot, I_bot, I_iload 1 1, I_iald, I_aload 0 1, I_getR 3 12, I_bot, I_bot, I_iload 2 1, I_iald, I_icmp (fun x y => y ≤ x) 55, I_bot, I_bot, I_const 1 1, I_goto 56, I_bot, I_bot, I_const 0 1, I_zret Qa]
set_option maxHeartbeats 4000000 in
set_option maxRecDepth 100000 in
theorem s_X1_comesAhead : runs T_X1_comesAhead [.ref 3] 3 F_X1_comesAhead := by
  intro Qa K hw hf As σ r σ' h hQ
  unfold F_X1_comesAhead at h
  split at h
  · rename_i p0 p1
    unfold f_X1_comesAhead at h
    have hQ : Qa (r, σ').1 (r, σ').2 := hQ
    generalize (r, σ') = y at h hQ
    show K (0, [.ref 3, .int p0, .int p1], [], σ)
    obtain ⟨g1, h⟩ := ite_some h
    obtain ⟨g2, h⟩ := ite_some h
    rcases ite_cases h with ⟨c3, h⟩ | ⟨c3, h⟩
    · refine hw 9 _ ?_
      show kd 11 = 1 ∧ (inb p0 20 = true ∧ (kd 11 = 1 ∧ (inb p1 20 = true ∧ ((((σ 11 (ix p0)) = (σ 11 (ix p1))) → K (36, [.ref 3, .int p0, .int p1], [], σ)) ∧ (¬ ((σ 11 (ix p0)) = (σ 11 (ix p1))) → K (15, [.ref 3, .int p0, .int p1], [], σ))))))
      refine ⟨rfl, g1, rfl, g2, ⟨fun _ => ?_, fun q => absurd c3 q⟩⟩
      obtain ⟨g4, h⟩ := ite_some h
      obtain ⟨g5, h⟩ := ite_some h
      rcases ite_cases h with ⟨c6, h⟩ | ⟨c6, h⟩
      · refine hw 9 _ ?_
        show kd 12 = 1 ∧ (inb p0 20 = true ∧ (kd 12 = 1 ∧ (inb p1 20 = true ∧ ((((σ 12 (ix p1)) ≤ (σ 12 (ix p0))) → K (55, [.ref 3, .int p0, .int p1], [], σ)) ∧ (¬ ((σ 12 (ix p1)) ≤ (σ 12 (ix p0))) → K (51, [.ref 3, .int p0, .int p1], [], σ))))))
        refine ⟨rfl, g4, rfl, g5, ⟨fun _ => ?_, fun q => absurd c6 q⟩⟩
        obtain rfl := Option.some.inj h
        refine hw 2 _ ?_
        show (0 = (0:Int32) ∨ 0 = (1:Int32)) ∧ (Qa 0 σ)
        refine ⟨Or.inl rfl, hQ⟩
      · refine hw 9 _ ?_
        show kd 12 = 1 ∧ (inb p0 20 = true ∧ (kd 12 = 1 ∧ (inb p1 20 = true ∧ ((((σ 12 (ix p1)) ≤ (σ 12 (ix p0))) → K (55, [.ref 3, .int p0, .int p1], [], σ)) ∧ (¬ ((σ 12 (ix p1)) ≤ (σ 12 (ix p0))) → K (51, [.ref 3, .int p0, .int p1], [], σ))))))
        refine ⟨rfl, g4, rfl, g5, ⟨fun q => absurd q c6, fun _ => ?_⟩⟩
        obtain rfl := Option.some.inj h
        refine hw 3 _ ?_
        show (1 = (0:Int32) ∨ 1 = (1:Int32)) ∧ (Qa 1 σ)
        refine ⟨Or.inr rfl, hQ⟩
    · refine hw 9 _ ?_
      show kd 11 = 1 ∧ (inb p0 20 = true ∧ (kd 11 = 1 ∧ (inb p1 20 = true ∧ ((((σ 11 (ix p0)) = (σ 11 (ix p1))) → K (36, [.ref 3, .int p0, .int p1], [], σ)) ∧ (¬ ((σ 11 (ix p0)) = (σ 11 (ix p1))) → K (15, [.ref 3, .int p0, .int p1], [], σ))))))
      refine ⟨rfl, g1, rfl, g2, ⟨fun q => absurd q c3, fun _ => ?_⟩⟩
      obtain ⟨g7, h⟩ := ite_some h
      obtain ⟨g8, h⟩ := ite_some h
      rcases ite_cases h with ⟨c9, h⟩ | ⟨c9, h⟩
      · refine hw 9 _ ?_
        show kd 11 = 1 ∧ (inb p0 20 = true ∧ (kd 11 = 1 ∧ (inb p1 20 = true ∧ ((((σ 11 (ix p1)) ≤ (σ 11 (ix p0))) → K (34, [.ref 3, .int p0, .int p1], [], σ)) ∧ (¬ ((σ 11 (ix p1)) ≤ (σ 11 (ix p0))) → K (30, [.ref 3, .int p0, .int p1], [], σ))))))
        refine ⟨rfl, g7, rfl, g8, ⟨fun _ => ?_, fun q => absurd c9 q⟩⟩
        obtain rfl := Option.some.inj h
        refine hw 2 _ ?_
        show (0 = (0:Int32) ∨ 0 = (1:Int32)) ∧ (Qa 0 σ)
        refine ⟨Or.inl rfl, hQ⟩
      · refine hw 9 _ ?_
        show kd 11 = 1 ∧ (inb p0 20 = true ∧ (kd 11 = 1 ∧ (inb p1 20 = true ∧ ((((σ 11 (ix p1)) ≤ (σ 11 (ix p0))) → K (34, [.ref 3, .int p0, .int p1], [], σ)) ∧ (¬ ((σ 11 (ix p1)) ≤ (σ 11 (ix p0))) → K (30, [.ref 3, .int p0, .int p1], [], σ))))))
        refine ⟨rfl, g7, rfl, g8, ⟨fun q => absurd q c9, fun _ => ?_⟩⟩
        obtain rfl := Option.some.inj h
        refine hw 3 _ ?_
        show (1 = (0:Int32) ∨ 1 = (1:Int32)) ∧ (Qa 1 σ)
        refine ⟨Or.inr rfl, hQ⟩
  · cases h
theorem h_X1_comesAhead : shp [.ref 3] 3 F_X1_comesAhead := by
  intro As σ r σ' h
  unfold F_X1_comesAhead at h
  split at h
  · exact ⟨by simp [Value.category], Nat.le_of_ble_eq_true rfl⟩
  · cases h
set_option maxHeartbeats 4000000 in
set_option maxRecDepth 100000 in
theorem c_X1_comesAhead (l : Launch) (D : va_G) (cI cZ cA : ClassId) (ad : Nat → Nat) (hi : adI ad) : CtI l yX1_comesAhead wsX1_comesAhead { frames := 0, cells := 0, slots := 0, locals := 0 } D cI cZ cA ad [.ref 3] F_X1_comesAhead := by
  refine mk_I [.ref 3] F_X1_comesAhead T_X1_comesAhead (by decide +kernel) rfl ?_ h_X1_comesAhead s_X1_comesAhead
  intro p e s m args below meth c Qa ⟨hx, hb, hml, hown, hts, hr, hlocks, hK, hN⟩
  have hin1 : ∀ w ∈ u_ws RX1 TX1 11, w ∈ wsX1_comesAhead := by decide +kernel
  have hl9 : (Cond.fieldLink RX1 9 RX1 (TX1 0).2.1 (TX1 0).2.2.1) ∈ wsX1_comesAhead := by decide +kernel
  have hl15 : (Cond.fieldLink RX1 15 RX1 (TX1 1).2.1 (TX1 1).2.2.1) ∈ wsX1_comesAhead := by decide +kernel
  refine ruL_c (n := 0) (n2 := 1) rfl (ru_aload_n (k := 0) hx hb dX1_comesAhead_0) ?_
  refine ruL_c (n := 1) (n2 := 2) rfl (ru_getR (own := RX1) (j := 0) (T := TX1) hx hb hown hK hts hin1 (by decide) rfl rfl (by decide) rfl hl9 dX1_comesAhead_1) ?_
  refine ruL_c (n := 2) (n2 := 3) rfl (ru_bot) ?_
  refine ruL_c (n := 3) (n2 := 4) rfl (ru_bot) ?_
  refine ruL_c (n := 4) (n2 := 5) rfl (ru_iload_n (k := 1) hx hb dX1_comesAhead_4) ?_
  refine ruL_c (n := 5) (n2 := 6) rfl (ru_iald hx hb hK dX1_comesAhead_5) ?_
  refine ruL_c (n := 6) (n2 := 7) rfl (ru_aload_n (k := 0) hx hb dX1_comesAhead_6) ?_
  refine ruL_c (n := 7) (n2 := 8) rfl (ru_getR (own := RX1) (j := 0) (T := TX1) hx hb hown hK hts hin1 (by decide) rfl rfl (by decide) rfl hl9 dX1_comesAhead_7) ?_
  refine ruL_c (n := 8) (n2 := 9) rfl (ru_bot) ?_
  refine ruL_c (n := 9) (n2 := 10) rfl (ru_bot) ?_
  refine ruL_c (n := 10) (n2 := 11) rfl (ru_iload_n (k := 2) hx hb dX1_comesAhead_10) ?_
  refine ruL_c (n := 11) (n2 := 12) rfl (ru_iald hx hb hK dX1_comesAhead_11) ?_
  refine ruL_c (n := 12) (n2 := 13) rfl (ru_icmpeq hx hb dX1_comesAhead_12 (by decide)) ?_
  refine ruL_c (n := 13) (n2 := 14) rfl (ru_bot) ?_
  refine ruL_c (n := 14) (n2 := 15) rfl (ru_bot) ?_
  refine ruL_c (n := 15) (n2 := 16) rfl (ru_aload_n (k := 0) hx hb dX1_comesAhead_15) ?_
  refine ruL_c (n := 16) (n2 := 17) rfl (ru_getR (own := RX1) (j := 0) (T := TX1) hx hb hown hK hts hin1 (by decide) rfl rfl (by decide) rfl hl9 dX1_comesAhead_16) ?_
  refine ruL_c (n := 17) (n2 := 18) rfl (ru_bot) ?_
  refine ruL_c (n := 18) (n2 := 19) rfl (ru_bot) ?_
  refine ruL_c (n := 19) (n2 := 20) rfl (ru_iload_n (k := 1) hx hb dX1_comesAhead_19) ?_
  refine ruL_c (n := 20) (n2 := 21) rfl (ru_iald hx hb hK dX1_comesAhead_20) ?_
  refine ruL_c (n := 21) (n2 := 22) rfl (ru_aload_n (k := 0) hx hb dX1_comesAhead_21) ?_
  refine ruL_c (n := 22) (n2 := 23) rfl (ru_getR (own := RX1) (j := 0) (T := TX1) hx hb hown hK hts hin1 (by decide) rfl rfl (by decide) rfl hl9 dX1_comesAhead_22) ?_
  refine ruL_c (n := 23) (n2 := 24) rfl (ru_bot) ?_
  refine ruL_c (n := 24) (n2 := 25) rfl (ru_bot) ?_
  refine ruL_c (n := 25) (n2 := 26) rfl (ru_iload_n (k := 2) hx hb dX1_comesAhead_25) ?_
  refine ruL_c (n := 26) (n2 := 27) rfl (ru_iald hx hb hK dX1_comesAhead_26) ?_
  refine ruL_c (n := 27) (n2 := 28) rfl (ru_icmpge hx hb dX1_comesAhead_27 (by decide)) ?_
  refine ruL_c (n := 28) (n2 := 29) rfl (ru_bot) ?_
  refine ruL_c (n := 29) (n2 := 30) rfl (ru_bot) ?_
  refine ruL_c (n := 30) (n2 := 31) rfl (ru_iconst hx hb dX1_comesAhead_30 rfl) ?_
  refine ruL_c (n := 31) (n2 := 32) rfl (ru_goto hx hb dX1_comesAhead_31 (by decide)) ?_
  refine ruL_c (n := 32) (n2 := 33) rfl (ru_bot) ?_
  refine ruL_c (n := 33) (n2 := 34) rfl (ru_bot) ?_
  refine ruL_c (n := 34) (n2 := 35) rfl (ru_iconst hx hb dX1_comesAhead_34 rfl) ?_
  refine ruL_c (n := 35) (n2 := 36) rfl (ru_zret hx hb hK hr hlocks dX1_comesAhead_35) ?_
  refine ruL_c (n := 36) (n2 := 37) rfl (ru_aload_n (k := 0) hx hb dX1_comesAhead_36) ?_
  refine ruL_c (n := 37) (n2 := 38) rfl (ru_getR (own := RX1) (j := 1) (T := TX1) hx hb hown hK hts hin1 (by decide) rfl rfl (by decide) rfl hl15 dX1_comesAhead_37) ?_
  refine ruL_c (n := 38) (n2 := 39) rfl (ru_bot) ?_
  refine ruL_c (n := 39) (n2 := 40) rfl (ru_bot) ?_
  refine ruL_c (n := 40) (n2 := 41) rfl (ru_iload_n (k := 1) hx hb dX1_comesAhead_40) ?_
  refine ruL_c (n := 41) (n2 := 42) rfl (ru_iald hx hb hK dX1_comesAhead_41) ?_
  refine ruL_c (n := 42) (n2 := 43) rfl (ru_aload_n (k := 0) hx hb dX1_comesAhead_42) ?_
  refine ruL_c (n := 43) (n2 := 44) rfl (ru_getR (own := RX1) (j := 1) (T := TX1) hx hb hown hK hts hin1 (by decide) rfl rfl (by decide) rfl hl15 dX1_comesAhead_43) ?_
  refine ruL_c (n := 44) (n2 := 45) rfl (ru_bot) ?_
  refine ruL_c (n := 45) (n2 := 46) rfl (ru_bot) ?_
  refine ruL_c (n := 46) (n2 := 47) rfl (ru_iload_n (k := 2) hx hb dX1_comesAhead_46) ?_
  refine ruL_c (n := 47) (n2 := 48) rfl (ru_iald hx hb hK dX1_comesAhead_47) ?_
  refine ruL_c (n := 48) (n2 := 49) rfl (ru_icmpge hx hb dX1_comesAhead_48 (by decide)) ?_
  refine ruL_c (n := 49) (n2 := 50) rfl (ru_bot) ?_
  refine ruL_c (n := 50) (n2 := 51) rfl (ru_bot) ?_
  refine ruL_c (n := 51) (n2 := 52) rfl (ru_iconst hx hb dX1_comesAhead_51 rfl) ?_
  refine ruL_c (n := 52) (n2 := 53) rfl (ru_goto hx hb dX1_comesAhead_52 (by decide)) ?_
  refine ruL_c (n := 53) (n2 := 54) rfl (ru_bot) ?_
  refine ruL_c (n := 54) (n2 := 55) rfl (ru_bot) ?_
  refine ruL_c (n := 55) (n2 := 56) rfl (ru_iconst hx hb dX1_comesAhead_55 rfl) ?_
  refine ruL_c (n := 56) (n2 := 57) rfl (ru_zret hx hb hK hr hlocks dX1_comesAhead_56) ?_
  exact trivial

-- CueTour$CueList.sortCues
def l_X1_sortCues_12 (x4 : Int32) : Nat → Int32 → aM → (Int32 → aM → Option (Int32 × aM)) → Option (Int32 × aM)
  | 0, _, _, _ => none
  | n + 1, v5, σ6, k => if v5 ≤ 0 then k v5 σ6 else if inb (v5 - 1) 20 = true then bnd (f_X1_comesAhead x4 (σ6 14 (ix (v5 - 1))) σ6) (fun r9 σ10 => if r9 = 0 then k v5 σ10 else if inb (v5 - 1) 20 = true then if inb v5 20 = true then l_X1_sortCues_12 x4 n (v5 + (-1)) (mput σ10 14 (ix v5) (σ10 14 (ix (v5 - 1)))) k else none else none) else none
def l_X1_sortCues_2 : Nat → Int32 → aM → (Int32 → aM → Option (Int32 × aM)) → Option (Int32 × aM)
  | 0, _, _, _ => none
  | n + 1, v1, σ2, k => if (σ2 3 4) ≤ v1 then k v1 σ2 else l_X1_sortCues_12 v1 lf v1 σ2 (fun v15 σ16 => if inb v15 20 = true then l_X1_sortCues_2 n (v1 + 1) (mput σ16 14 (ix v15) v1) k else none)
def f_X1_sortCues (σ : aM) : Option (Int32 × aM) := l_X1_sortCues_2 lf 0 σ (fun v18 σ19 => some (0, σ19))
def F_X1_sortCues : aF := fun As σ => match As with
  | [] => f_X1_sortCues σ
  | _ => none
def T_X1_sortCues (Qa : Int32 → aM → Prop) : List aI := [I_const 0 1, I_istore 1 1, I_iload 1 1, I_aload 0 1, I_getI 3 4, I_bot, I_bot, I_icmp (fun x y => y ≤ x) 65, I_bot, I_bot, I_iload 1 1, I_istore 2 1, I_iload 2 1, I_if (fun x => x ≤ 0) 52, I_bot, I_bot, I_aload 0 1, I_iload 1 1, I_aload 0 1, I_getR 3 14, I_bot, I_bot, I_iload 2 1, I_const 1 1, I_bin fun x y => x - y, I_iald, I_callV 3 2 F_X1_comesAhead, I_bot, I_bot, I_if (fun x => x = 0) 52, I_bot, I_bot, I_aload 0 1, I_getR 3 14, I_bot, I_bot, I_iload 2 1, I_aload 0 1, I_getR 3 14, I_bot, I_bot, I_iload 2 1, I_const 1 1, I_bin fun x y => x - y, I_iald, I_iast, I_iinc 2 (-1), I_bot, I_bot, I_goto 12, I_bot, I_bot, I_aload 0 1, I_getR 3 14, I_bot, I_bot, I_iload 2 1, I_iload 1 1, I_iast, I_iinc 1 (1), I_bot, I_bot, I_goto 2, I_bot, I_bot, I_vret Qa]
set_option maxHeartbeats 4000000 in
set_option maxRecDepth 100000 in
theorem t_X1_sortCues_12 {Qa : Int32 → aM → Prop} {K : aS → Prop} (hw : ∀ k x, wp (T_X1_sortCues Qa) k K x → K x) (hf : ∀ pc L i st σ, K (pc, L.set i .null, st, σ) → K (pc, L, st, σ)) (x4 : Int32) (y : Int32 × aM) (k : Int32 → aM → Option (Int32 × aM)) :
    ∀ (n : Nat) (v5 : Int32) (σ6 : aM), l_X1_sortCues_12 x4 n v5 σ6 k = some y → (∀ (w0 : Int32) (τ : aM), k w0 τ = some y → K (52, [.ref 3, .int x4, .int w0], [], τ)) → K (12, [.ref 3, .int x4, .int v5], [], σ6) := by
  intro n
  induction n with
  | zero =>
    intro v5 σ6 h hk
    exact absurd h (by simp [l_X1_sortCues_12])
  | succ n ih =>
    intro v5 σ6 h hk
    unfold l_X1_sortCues_12 at h
    rcases ite_cases h with ⟨c7, h⟩ | ⟨c7, h⟩
    · refine hw 2 _ ?_
      show ((v5 ≤ 0) → K (52, [.ref 3, .int x4, .int v5], [], σ6)) ∧ (¬ (v5 ≤ 0) → K (16, [.ref 3, .int x4, .int v5], [], σ6))
      refine ⟨fun _ => ?_, fun q => absurd c7 q⟩
      exact hk v5 σ6 h
    · refine hw 2 _ ?_
      show ((v5 ≤ 0) → K (52, [.ref 3, .int x4, .int v5], [], σ6)) ∧ (¬ (v5 ≤ 0) → K (16, [.ref 3, .int x4, .int v5], [], σ6))
      refine ⟨fun q => absurd q c7, fun _ => ?_⟩
      obtain ⟨g8, h⟩ := ite_some h
      obtain ⟨r9, σ10, e11, h⟩ := bnd_some h
      refine hw 9 _ ?_
      show kd 14 = 1 ∧ (inb (v5 - 1) 20 = true ∧ (∃ r9 σ10, f_X1_comesAhead x4 (σ6 14 (ix (v5 - 1))) σ6 = some (r9, σ10) ∧ K (29, [.ref 3, .int x4, .int v5], [.int r9], σ10)))
      refine ⟨rfl, g8, ⟨r9, σ10, e11, ?_⟩⟩
      rcases ite_cases h with ⟨c12, h⟩ | ⟨c12, h⟩
      · refine hw 1 _ ?_
        show ((r9 = 0) → K (52, [.ref 3, .int x4, .int v5], [], σ10)) ∧ (¬ (r9 = 0) → K (32, [.ref 3, .int x4, .int v5], [], σ10))
        refine ⟨fun _ => ?_, fun q => absurd c12 q⟩
        exact hk v5 σ10 h
      · refine hw 1 _ ?_
        show ((r9 = 0) → K (52, [.ref 3, .int x4, .int v5], [], σ10)) ∧ (¬ (r9 = 0) → K (32, [.ref 3, .int x4, .int v5], [], σ10))
        refine ⟨fun q => absurd q c12, fun _ => ?_⟩
        obtain ⟨g13, h⟩ := ite_some h
        obtain ⟨g14, h⟩ := ite_some h
        refine hw 12 _ ?_
        show kd 14 = 1 ∧ (inb (v5 - 1) 20 = true ∧ (kd 14 = 1 ∧ (inb v5 20 = true ∧ (K (12, [.ref 3, .int x4, .int (v5 + (-1))], [], mput σ10 14 (ix v5) (σ10 14 (ix (v5 - 1))))))))
        refine ⟨rfl, g13, rfl, g14, ?_⟩
        exact ih (v5 + (-1)) (mput σ10 14 (ix v5) (σ10 14 (ix (v5 - 1)))) h hk

set_option maxHeartbeats 4000000 in
set_option maxRecDepth 100000 in
theorem t_X1_sortCues_2 {Qa : Int32 → aM → Prop} {K : aS → Prop} (hw : ∀ k x, wp (T_X1_sortCues Qa) k K x → K x) (hf : ∀ pc L i st σ, K (pc, L.set i .null, st, σ) → K (pc, L, st, σ)) (y : Int32 × aM) (k : Int32 → aM → Option (Int32 × aM)) :
    ∀ (n : Nat) (v1 : Int32) (σ2 : aM), l_X1_sortCues_2 n v1 σ2 k = some y → (∀ (w0 : Int32) (τ : aM), k w0 τ = some y → K (65, [.ref 3, .int w0, .null], [], τ)) → K (2, [.ref 3, .int v1, .null], [], σ2) := by
  intro n
  induction n with
  | zero =>
    intro v1 σ2 h hk
    exact absurd h (by simp [l_X1_sortCues_2])
  | succ n ih =>
    intro v1 σ2 h hk
    unfold l_X1_sortCues_2 at h
    rcases ite_cases h with ⟨c3, h⟩ | ⟨c3, h⟩
    · refine hw 4 _ ?_
      show (((σ2 3 4) ≤ v1) → K (65, [.ref 3, .int v1, .null], [], σ2)) ∧ (¬ ((σ2 3 4) ≤ v1) → K (10, [.ref 3, .int v1, .null], [], σ2))
      refine ⟨fun _ => ?_, fun q => absurd c3 q⟩
      exact hk v1 σ2 h
    · refine hw 4 _ ?_
      show (((σ2 3 4) ≤ v1) → K (65, [.ref 3, .int v1, .null], [], σ2)) ∧ (¬ ((σ2 3 4) ≤ v1) → K (10, [.ref 3, .int v1, .null], [], σ2))
      refine ⟨fun q => absurd q c3, fun _ => ?_⟩
      refine hw 2 _ ?_
      show K (12, [.ref 3, .int v1, .int v1], [], σ2)
      refine t_X1_sortCues_12 hw hf v1 _ _ lf v1 σ2 h (fun v15 σ16 h => ?_)
      show K (52, [.ref 3, .int v1, .int v15], [], σ16)
      obtain ⟨g17, h⟩ := ite_some h
      refine hw 7 _ ?_
      show kd 14 = 1 ∧ (inb v15 20 = true ∧ (K (2, [.ref 3, .int (v1 + 1), .int v15], [], mput σ16 14 (ix v15) v1)))
      refine ⟨rfl, g17, ?_⟩
      refine hf _ _ 2 _ _ ?_
      show K (2, [.ref 3, .int (v1 + 1), .null], [], mput σ16 14 (ix v15) v1)
      exact ih (v1 + 1) (mput σ16 14 (ix v15) v1) h hk

set_option maxHeartbeats 4000000 in
set_option maxRecDepth 100000 in
theorem s_X1_sortCues : runs T_X1_sortCues [.ref 3] 3 F_X1_sortCues := by
  intro Qa K hw hf As σ r σ' h hQ
  unfold F_X1_sortCues at h
  split at h
  · unfold f_X1_sortCues at h
    have hQ : Qa (r, σ').1 (r, σ').2 := hQ
    generalize (r, σ') = y at h hQ
    show K (0, [.ref 3, .null, .null], [], σ)
    refine hw 2 _ ?_
    show K (2, [.ref 3, .int 0, .null], [], σ)
    refine t_X1_sortCues_2 hw hf _ _ lf 0 σ h (fun v18 σ19 h => ?_)
    show K (65, [.ref 3, .int v18, .null], [], σ19)
    obtain rfl := Option.some.inj h
    refine hw 1 _ ?_
    show Qa 0 σ19
    refine hQ
  · cases h
theorem h_X1_sortCues : shp [.ref 3] 3 F_X1_sortCues := by
  intro As σ r σ' h
  unfold F_X1_sortCues at h
  split at h
  · exact ⟨by simp [Value.category], Nat.le_of_ble_eq_true rfl⟩
  · cases h
set_option maxHeartbeats 4000000 in
set_option maxRecDepth 100000 in
theorem c_X1_sortCues (l : Launch) (D : va_G) (cI cZ cA : ClassId) (ad : Nat → Nat) (hi : adI ad) : CtV l yX1_sortCues wsX1_sortCues { frames := 1, cells := 0, slots := 0, locals := 22 } D cI cZ cA ad [.ref 3] F_X1_sortCues := by
  refine mk_V [.ref 3] F_X1_sortCues T_X1_sortCues (by decide +kernel) rfl ?_ h_X1_sortCues s_X1_sortCues
  intro p e s m args below meth c Qa ⟨hx, hb, hml, hown, hts, hr, hlocks, hK, hN⟩
  have hin1 : ∀ w ∈ u_ws RX1 TX1 11, w ∈ wsX1_sortCues := by decide +kernel
  have hl26 : (Cond.fieldLink RX1 26 RX1 (TX1 4).2.1 (TX1 4).2.2.1) ∈ wsX1_sortCues := by decide +kernel
  have hl30 : (Cond.fieldLink RX1 30 RX1 (TX1 5).2.1 (TX1 5).2.2.1) ∈ wsX1_sortCues := by decide +kernel
  refine ruL_c (n := 0) (n2 := 1) rfl (ru_iconst hx hb dX1_sortCues_0 rfl) ?_
  refine ruL_c (n := 1) (n2 := 2) rfl (ru_istore_n (k := 1) hx hb dX1_sortCues_1) ?_
  refine ruL_c (n := 2) (n2 := 3) rfl (ru_iload_n (k := 1) hx hb dX1_sortCues_2) ?_
  refine ruL_c (n := 3) (n2 := 4) rfl (ru_aload_n (k := 0) hx hb dX1_sortCues_3) ?_
  refine ruL_c (n := 4) (n2 := 5) rfl (ru_getI (own := RX1) (j := 4) (T := TX1) hx hb hown hK hts hin1 (by decide) rfl rfl (by decide) rfl hl26 dX1_sortCues_4) ?_
  refine ruL_c (n := 5) (n2 := 6) rfl (ru_bot) ?_
  refine ruL_c (n := 6) (n2 := 7) rfl (ru_bot) ?_
  refine ruL_c (n := 7) (n2 := 8) rfl (ru_icmpge hx hb dX1_sortCues_7 (by decide)) ?_
  refine ruL_c (n := 8) (n2 := 9) rfl (ru_bot) ?_
  refine ruL_c (n := 9) (n2 := 10) rfl (ru_bot) ?_
  refine ruL_c (n := 10) (n2 := 11) rfl (ru_iload_n (k := 1) hx hb dX1_sortCues_10) ?_
  refine ruL_c (n := 11) (n2 := 12) rfl (ru_istore_n (k := 2) hx hb dX1_sortCues_11) ?_
  refine ruL_c (n := 12) (n2 := 13) rfl (ru_iload_n (k := 2) hx hb dX1_sortCues_12) ?_
  refine ruL_c (n := 13) (n2 := 14) rfl (ru_ifle hx hb dX1_sortCues_13 (by decide)) ?_
  refine ruL_c (n := 14) (n2 := 15) rfl (ru_bot) ?_
  refine ruL_c (n := 15) (n2 := 16) rfl (ru_bot) ?_
  refine ruL_c (n := 16) (n2 := 17) rfl (ru_aload_n (k := 0) hx hb dX1_sortCues_16) ?_
  refine ruL_c (n := 17) (n2 := 18) rfl (ru_iload_n (k := 1) hx hb dX1_sortCues_17) ?_
  refine ruL_c (n := 18) (n2 := 19) rfl (ru_aload_n (k := 0) hx hb dX1_sortCues_18) ?_
  refine ruL_c (n := 19) (n2 := 20) rfl (ru_getR (own := RX1) (j := 5) (T := TX1) hx hb hown hK hts hin1 (by decide) rfl rfl (by decide) rfl hl30 dX1_sortCues_19) ?_
  refine ruL_c (n := 20) (n2 := 21) rfl (ru_bot) ?_
  refine ruL_c (n := 21) (n2 := 22) rfl (ru_bot) ?_
  refine ruL_c (n := 22) (n2 := 23) rfl (ru_iload_n (k := 2) hx hb dX1_sortCues_22) ?_
  refine ruL_c (n := 23) (n2 := 24) rfl (ru_iconst hx hb dX1_sortCues_23 rfl) ?_
  refine ruL_c (n := 24) (n2 := 25) rfl (ru_isub hx hb dX1_sortCues_24) ?_
  refine ruL_c (n := 25) (n2 := 26) rfl (ru_iald hx hb hK dX1_sortCues_25) ?_
  refine ruL_c (n := 26) (n2 := 27) rfl (ru_callV hx hb hml hown hts hK hN (by decide) rfl (c_X1_comesAhead l D cI cZ cA ad hi) (cwV 2 hts gX1_sortCues_X1_comesAhead rfl rfl rfl (by decide +kernel) ⟨Nat.le_of_ble_eq_true rfl, Nat.le_of_ble_eq_true rfl⟩) dX1_sortCues_26 ⟨Nat.zero_le _, Nat.zero_le _⟩) ?_
  refine ruL_c (n := 27) (n2 := 28) rfl (ru_bot) ?_
  refine ruL_c (n := 28) (n2 := 29) rfl (ru_bot) ?_
  refine ruL_c (n := 29) (n2 := 30) rfl (ru_ifeq hx hb dX1_sortCues_29 (by decide)) ?_
  refine ruL_c (n := 30) (n2 := 31) rfl (ru_bot) ?_
  refine ruL_c (n := 31) (n2 := 32) rfl (ru_bot) ?_
  refine ruL_c (n := 32) (n2 := 33) rfl (ru_aload_n (k := 0) hx hb dX1_sortCues_32) ?_
  refine ruL_c (n := 33) (n2 := 34) rfl (ru_getR (own := RX1) (j := 5) (T := TX1) hx hb hown hK hts hin1 (by decide) rfl rfl (by decide) rfl hl30 dX1_sortCues_33) ?_
  refine ruL_c (n := 34) (n2 := 35) rfl (ru_bot) ?_
  refine ruL_c (n := 35) (n2 := 36) rfl (ru_bot) ?_
  refine ruL_c (n := 36) (n2 := 37) rfl (ru_iload_n (k := 2) hx hb dX1_sortCues_36) ?_
  refine ruL_c (n := 37) (n2 := 38) rfl (ru_aload_n (k := 0) hx hb dX1_sortCues_37) ?_
  refine ruL_c (n := 38) (n2 := 39) rfl (ru_getR (own := RX1) (j := 5) (T := TX1) hx hb hown hK hts hin1 (by decide) rfl rfl (by decide) rfl hl30 dX1_sortCues_38) ?_
  refine ruL_c (n := 39) (n2 := 40) rfl (ru_bot) ?_
  refine ruL_c (n := 40) (n2 := 41) rfl (ru_bot) ?_
  refine ruL_c (n := 41) (n2 := 42) rfl (ru_iload_n (k := 2) hx hb dX1_sortCues_41) ?_
  refine ruL_c (n := 42) (n2 := 43) rfl (ru_iconst hx hb dX1_sortCues_42 rfl) ?_
  refine ruL_c (n := 43) (n2 := 44) rfl (ru_isub hx hb dX1_sortCues_43) ?_
  refine ruL_c (n := 44) (n2 := 45) rfl (ru_iald hx hb hK dX1_sortCues_44) ?_
  refine ruL_c (n := 45) (n2 := 46) rfl (ru_iast hx hb hK hi dX1_sortCues_45) ?_
  refine ruL_c (n := 46) (n2 := 47) rfl (ru_iinc hx hb dX1_sortCues_46 rfl) ?_
  refine ruL_c (n := 47) (n2 := 48) rfl (ru_bot) ?_
  refine ruL_c (n := 48) (n2 := 49) rfl (ru_bot) ?_
  refine ruL_c (n := 49) (n2 := 50) rfl (ru_goto hx hb dX1_sortCues_49 (by decide)) ?_
  refine ruL_c (n := 50) (n2 := 51) rfl (ru_bot) ?_
  refine ruL_c (n := 51) (n2 := 52) rfl (ru_bot) ?_
  refine ruL_c (n := 52) (n2 := 53) rfl (ru_aload_n (k := 0) hx hb dX1_sortCues_52) ?_
  refine ruL_c (n := 53) (n2 := 54) rfl (ru_getR (own := RX1) (j := 5) (T := TX1) hx hb hown hK hts hin1 (by decide) rfl rfl (by decide) rfl hl30 dX1_sortCues_53) ?_
  refine ruL_c (n := 54) (n2 := 55) rfl (ru_bot) ?_
  refine ruL_c (n := 55) (n2 := 56) rfl (ru_bot) ?_
  refine ruL_c (n := 56) (n2 := 57) rfl (ru_iload_n (k := 2) hx hb dX1_sortCues_56) ?_
  refine ruL_c (n := 57) (n2 := 58) rfl (ru_iload_n (k := 1) hx hb dX1_sortCues_57) ?_
  refine ruL_c (n := 58) (n2 := 59) rfl (ru_iast hx hb hK hi dX1_sortCues_58) ?_
  refine ruL_c (n := 59) (n2 := 60) rfl (ru_iinc hx hb dX1_sortCues_59 rfl) ?_
  refine ruL_c (n := 60) (n2 := 61) rfl (ru_bot) ?_
  refine ruL_c (n := 61) (n2 := 62) rfl (ru_bot) ?_
  refine ruL_c (n := 62) (n2 := 63) rfl (ru_goto hx hb dX1_sortCues_62 (by decide)) ?_
  refine ruL_c (n := 63) (n2 := 64) rfl (ru_bot) ?_
  refine ruL_c (n := 64) (n2 := 65) rfl (ru_bot) ?_
  refine ruL_c (n := 65) (n2 := 66) rfl (ru_vret hx hb hK hr hlocks dX1_sortCues_65) ?_
  exact trivial

-- CueTour$CueList.setTimes
def l_X1_setTimes_2 : Nat → Int32 → aM → (Int32 → aM → Option (Int32 × aM)) → Option (Int32 × aM)
  | 0, _, _, _ => none
  | n + 1, v1, σ2, k => if (σ2 3 4) ≤ v1 then k v1 σ2 else if inb v1 20 = true then if inb (σ2 11 (ix v1)) 30 = true then if (σ2 8 (ix (σ2 11 (ix v1)))) = 0 then bnd (f_X4_secondsAhead (σ2 11 (ix v1)) σ2) (fun r7 σ8 => if inb v1 20 = true then if inb v1 20 = true then l_X1_setTimes_2 n (v1 + 1) (mput σ8 15 (ix v1) (r7 + (σ8 12 (ix v1)))) k else none else none) else if inb v1 20 = true then l_X1_setTimes_2 n (v1 + 1) (mput σ2 15 (ix v1) ((-1))) k else none else none else none
def f_X1_setTimes (σ : aM) : Option (Int32 × aM) := l_X1_setTimes_2 lf 0 σ (fun v13 σ14 => some (0, σ14))
def F_X1_setTimes : aF := fun As σ => match As with
  | [.ref 1] => f_X1_setTimes σ
  | _ => none
def T_X1_setTimes (Qa : Int32 → aM → Prop) : List aI := [I_const 0 1, I_istore 2 1, I_iload 2 1, I_aload 0 1, I_getI 3 4, I_bot, I_bot, I_icmp (fun x y => y ≤ x) 54, I_bot, I_bot, I_aload 0 1, I_getR 3 11, I_bot, I_bot, I_iload 2 1, I_iald, I_istore 3 1, I_aload 0 1, I_getR 3 15, I_bot, I_bot, I_iload 2 1, I_aload 1 1, I_getR 1 8, I_bot, I_bot, I_iload 3 1, I_zald, I_if (fun x => x = 0) 35, I_bot, I_bot, I_const (-1) 1, I_goto 47, I_bot, I_bot, I_aload 1 1, I_iload 3 1, I_callV 1 1 F_X4_secondsAhead, I_bot, I_bot, I_aload 0 1, I_getR 3 12, I_bot, I_bot, I_iload 2 1, I_iald, I_bin fun x y => x + y, I_iast, I_iinc 2 (1), I_bot, I_bot, I_goto 2, I_bot, I_bot, I_vret Qa]
set_option maxHeartbeats 4000000 in
set_option maxRecDepth 100000 in
theorem t_X1_setTimes_2 {Qa : Int32 → aM → Prop} {K : aS → Prop} (hw : ∀ k x, wp (T_X1_setTimes Qa) k K x → K x) (hf : ∀ pc L i st σ, K (pc, L.set i .null, st, σ) → K (pc, L, st, σ)) (y : Int32 × aM) (k : Int32 → aM → Option (Int32 × aM)) :
    ∀ (n : Nat) (v1 : Int32) (σ2 : aM), l_X1_setTimes_2 n v1 σ2 k = some y → (∀ (w0 : Int32) (τ : aM), k w0 τ = some y → K (54, [.ref 3, .ref 1, .int w0, .null], [], τ)) → K (2, [.ref 3, .ref 1, .int v1, .null], [], σ2) := by
  intro n
  induction n with
  | zero =>
    intro v1 σ2 h hk
    exact absurd h (by simp [l_X1_setTimes_2])
  | succ n ih =>
    intro v1 σ2 h hk
    unfold l_X1_setTimes_2 at h
    rcases ite_cases h with ⟨c3, h⟩ | ⟨c3, h⟩
    · refine hw 4 _ ?_
      show (((σ2 3 4) ≤ v1) → K (54, [.ref 3, .ref 1, .int v1, .null], [], σ2)) ∧ (¬ ((σ2 3 4) ≤ v1) → K (10, [.ref 3, .ref 1, .int v1, .null], [], σ2))
      refine ⟨fun _ => ?_, fun q => absurd c3 q⟩
      exact hk v1 σ2 h
    · refine hw 4 _ ?_
      show (((σ2 3 4) ≤ v1) → K (54, [.ref 3, .ref 1, .int v1, .null], [], σ2)) ∧ (¬ ((σ2 3 4) ≤ v1) → K (10, [.ref 3, .ref 1, .int v1, .null], [], σ2))
      refine ⟨fun q => absurd q c3, fun _ => ?_⟩
      obtain ⟨g4, h⟩ := ite_some h
      obtain ⟨g5, h⟩ := ite_some h
      rcases ite_cases h with ⟨c6, h⟩ | ⟨c6, h⟩
      · refine hw 13 _ ?_
        show kd 11 = 1 ∧ (inb v1 20 = true ∧ (kd 8 = 2 ∧ (inb (σ2 11 (ix v1)) 30 = true ∧ ((((σ2 8 (ix (σ2 11 (ix v1)))) = 0) → K (35, [.ref 3, .ref 1, .int v1, .int (σ2 11 (ix v1))], [.int v1, .ref 15], σ2)) ∧ (¬ ((σ2 8 (ix (σ2 11 (ix v1)))) = 0) → K (31, [.ref 3, .ref 1, .int v1, .int (σ2 11 (ix v1))], [.int v1, .ref 15], σ2))))))
        refine ⟨rfl, g4, rfl, g5, ⟨fun _ => ?_, fun q => absurd c6 q⟩⟩
        obtain ⟨r7, σ8, e9, h⟩ := bnd_some h
        refine hw 3 _ ?_
        show ∃ r7 σ8, f_X4_secondsAhead (σ2 11 (ix v1)) σ2 = some (r7, σ8) ∧ K (40, [.ref 3, .ref 1, .int v1, .int (σ2 11 (ix v1))], [.int r7, .int v1, .ref 15], σ8)
        refine ⟨r7, σ8, e9, ?_⟩
        obtain ⟨g10, h⟩ := ite_some h
        obtain ⟨g11, h⟩ := ite_some h
        refine hw 8 _ ?_
        show kd 12 = 1 ∧ (inb v1 20 = true ∧ (kd 15 = 1 ∧ (inb v1 20 = true ∧ (K (2, [.ref 3, .ref 1, .int (v1 + 1), .int (σ2 11 (ix v1))], [], mput σ8 15 (ix v1) (r7 + (σ8 12 (ix v1))))))))
        refine ⟨rfl, g10, rfl, g11, ?_⟩
        refine hf _ _ 3 _ _ ?_
        show K (2, [.ref 3, .ref 1, .int (v1 + 1), .null], [], mput σ8 15 (ix v1) (r7 + (σ8 12 (ix v1))))
        exact ih (v1 + 1) (mput σ8 15 (ix v1) (r7 + (σ8 12 (ix v1)))) h hk
      · refine hw 13 _ ?_
        show kd 11 = 1 ∧ (inb v1 20 = true ∧ (kd 8 = 2 ∧ (inb (σ2 11 (ix v1)) 30 = true ∧ ((((σ2 8 (ix (σ2 11 (ix v1)))) = 0) → K (35, [.ref 3, .ref 1, .int v1, .int (σ2 11 (ix v1))], [.int v1, .ref 15], σ2)) ∧ (¬ ((σ2 8 (ix (σ2 11 (ix v1)))) = 0) → K (31, [.ref 3, .ref 1, .int v1, .int (σ2 11 (ix v1))], [.int v1, .ref 15], σ2))))))
        refine ⟨rfl, g4, rfl, g5, ⟨fun q => absurd q c6, fun _ => ?_⟩⟩
        obtain ⟨g12, h⟩ := ite_some h
        refine hw 5 _ ?_
        show kd 15 = 1 ∧ (inb v1 20 = true ∧ (K (2, [.ref 3, .ref 1, .int (v1 + 1), .int (σ2 11 (ix v1))], [], mput σ2 15 (ix v1) ((-1)))))
        refine ⟨rfl, g12, ?_⟩
        refine hf _ _ 3 _ _ ?_
        show K (2, [.ref 3, .ref 1, .int (v1 + 1), .null], [], mput σ2 15 (ix v1) ((-1)))
        exact ih (v1 + 1) (mput σ2 15 (ix v1) ((-1))) h hk

set_option maxHeartbeats 4000000 in
set_option maxRecDepth 100000 in
theorem s_X1_setTimes : runs T_X1_setTimes [.ref 3] 4 F_X1_setTimes := by
  intro Qa K hw hf As σ r σ' h hQ
  unfold F_X1_setTimes at h
  split at h
  · unfold f_X1_setTimes at h
    have hQ : Qa (r, σ').1 (r, σ').2 := hQ
    generalize (r, σ') = y at h hQ
    show K (0, [.ref 3, .ref 1, .null, .null], [], σ)
    refine hw 2 _ ?_
    show K (2, [.ref 3, .ref 1, .int 0, .null], [], σ)
    refine t_X1_setTimes_2 hw hf _ _ lf 0 σ h (fun v13 σ14 h => ?_)
    show K (54, [.ref 3, .ref 1, .int v13, .null], [], σ14)
    obtain rfl := Option.some.inj h
    refine hw 1 _ ?_
    show Qa 0 σ14
    refine hQ
  · cases h
theorem h_X1_setTimes : shp [.ref 3] 4 F_X1_setTimes := by
  intro As σ r σ' h
  unfold F_X1_setTimes at h
  split at h
  · exact ⟨by simp [Value.category], Nat.le_of_ble_eq_true rfl⟩
  · cases h
set_option maxHeartbeats 4000000 in
set_option maxRecDepth 100000 in
theorem c_X1_setTimes (l : Launch) (D : va_G) (cI cZ cA : ClassId) (ad : Nat → Nat) (hi : adI ad) : CtV l yX1_setTimes wsX1_setTimes { frames := 1, cells := 0, slots := 0, locals := 23 } D cI cZ cA ad [.ref 3] F_X1_setTimes := by
  refine mk_V [.ref 3] F_X1_setTimes T_X1_setTimes (by decide +kernel) rfl ?_ h_X1_setTimes s_X1_setTimes
  intro p e s m args below meth c Qa ⟨hx, hb, hml, hown, hts, hr, hlocks, hK, hN⟩
  have hin1 : ∀ w ∈ u_ws RX1 TX1 11, w ∈ wsX1_setTimes := by decide +kernel
  have hl26 : (Cond.fieldLink RX1 26 RX1 (TX1 4).2.1 (TX1 4).2.2.1) ∈ wsX1_setTimes := by decide +kernel
  have hl9 : (Cond.fieldLink RX1 9 RX1 (TX1 0).2.1 (TX1 0).2.2.1) ∈ wsX1_setTimes := by decide +kernel
  have hl33 : (Cond.fieldLink RX1 33 RX1 (TX1 6).2.1 (TX1 6).2.2.1) ∈ wsX1_setTimes := by decide +kernel
  have hin4 : ∀ w ∈ u_ws RX4 TX4 4, w ∈ wsX1_setTimes := by decide +kernel
  have hl65 : (Cond.fieldLinkNest RX1 65 RX4 (TX4 1).2.1 (TX4 1).2.2.1 "CueTour") ∈ nwL := by decide +kernel
  have hl15 : (Cond.fieldLink RX1 15 RX1 (TX1 1).2.1 (TX1 1).2.2.1) ∈ wsX1_setTimes := by decide +kernel
  refine ruL_c (n := 0) (n2 := 1) rfl (ru_iconst hx hb dX1_setTimes_0 rfl) ?_
  refine ruL_c (n := 1) (n2 := 2) rfl (ru_istore_n (k := 2) hx hb dX1_setTimes_1) ?_
  refine ruL_c (n := 2) (n2 := 3) rfl (ru_iload_n (k := 2) hx hb dX1_setTimes_2) ?_
  refine ruL_c (n := 3) (n2 := 4) rfl (ru_aload_n (k := 0) hx hb dX1_setTimes_3) ?_
  refine ruL_c (n := 4) (n2 := 5) rfl (ru_getI (own := RX1) (j := 4) (T := TX1) hx hb hown hK hts hin1 (by decide) rfl rfl (by decide) rfl hl26 dX1_setTimes_4) ?_
  refine ruL_c (n := 5) (n2 := 6) rfl (ru_bot) ?_
  refine ruL_c (n := 6) (n2 := 7) rfl (ru_bot) ?_
  refine ruL_c (n := 7) (n2 := 8) rfl (ru_icmpge hx hb dX1_setTimes_7 (by decide)) ?_
  refine ruL_c (n := 8) (n2 := 9) rfl (ru_bot) ?_
  refine ruL_c (n := 9) (n2 := 10) rfl (ru_bot) ?_
  refine ruL_c (n := 10) (n2 := 11) rfl (ru_aload_n (k := 0) hx hb dX1_setTimes_10) ?_
  refine ruL_c (n := 11) (n2 := 12) rfl (ru_getR (own := RX1) (j := 0) (T := TX1) hx hb hown hK hts hin1 (by decide) rfl rfl (by decide) rfl hl9 dX1_setTimes_11) ?_
  refine ruL_c (n := 12) (n2 := 13) rfl (ru_bot) ?_
  refine ruL_c (n := 13) (n2 := 14) rfl (ru_bot) ?_
  refine ruL_c (n := 14) (n2 := 15) rfl (ru_iload_n (k := 2) hx hb dX1_setTimes_14) ?_
  refine ruL_c (n := 15) (n2 := 16) rfl (ru_iald hx hb hK dX1_setTimes_15) ?_
  refine ruL_c (n := 16) (n2 := 17) rfl (ru_istore_n (k := 3) hx hb dX1_setTimes_16) ?_
  refine ruL_c (n := 17) (n2 := 18) rfl (ru_aload_n (k := 0) hx hb dX1_setTimes_17) ?_
  refine ruL_c (n := 18) (n2 := 19) rfl (ru_getR (own := RX1) (j := 6) (T := TX1) hx hb hown hK hts hin1 (by decide) rfl rfl (by decide) rfl hl33 dX1_setTimes_18) ?_
  refine ruL_c (n := 19) (n2 := 20) rfl (ru_bot) ?_
  refine ruL_c (n := 20) (n2 := 21) rfl (ru_bot) ?_
  refine ruL_c (n := 21) (n2 := 22) rfl (ru_iload_n (k := 2) hx hb dX1_setTimes_21) ?_
  refine ruL_c (n := 22) (n2 := 23) rfl (ru_aload_n (k := 1) hx hb dX1_setTimes_22) ?_
  refine ruL_c (n := 23) (n2 := 24) rfl (ru_getRN (own := RX1) (j := 1) (T := TX4) hx hb hown hK hN hts hin4 (by decide) rfl rfl (by decide) rfl hl65 dX1_setTimes_23) ?_
  refine ruL_c (n := 24) (n2 := 25) rfl (ru_bot) ?_
  refine ruL_c (n := 25) (n2 := 26) rfl (ru_bot) ?_
  refine ruL_c (n := 26) (n2 := 27) rfl (ru_iload_n (k := 3) hx hb dX1_setTimes_26) ?_
  refine ruL_c (n := 27) (n2 := 28) rfl (ru_zald hx hb hK dX1_setTimes_27) ?_
  refine ruL_c (n := 28) (n2 := 29) rfl (ru_ifeq hx hb dX1_setTimes_28 (by decide)) ?_
  refine ruL_c (n := 29) (n2 := 30) rfl (ru_bot) ?_
  refine ruL_c (n := 30) (n2 := 31) rfl (ru_bot) ?_
  refine ruL_c (n := 31) (n2 := 32) rfl (ru_iconst hx hb dX1_setTimes_31 rfl) ?_
  refine ruL_c (n := 32) (n2 := 33) rfl (ru_goto hx hb dX1_setTimes_32 (by decide)) ?_
  refine ruL_c (n := 33) (n2 := 34) rfl (ru_bot) ?_
  refine ruL_c (n := 34) (n2 := 35) rfl (ru_bot) ?_
  refine ruL_c (n := 35) (n2 := 36) rfl (ru_aload_n (k := 1) hx hb dX1_setTimes_35) ?_
  refine ruL_c (n := 36) (n2 := 37) rfl (ru_iload_n (k := 3) hx hb dX1_setTimes_36) ?_
  refine ruL_c (n := 37) (n2 := 38) rfl (ru_callV hx hb hml hown hts hK hN (by decide) rfl (c_X4_secondsAhead l D cI cZ cA ad hi) (cwV 1 hts gX1_setTimes_X4_secondsAhead rfl rfl rfl (by decide +kernel) ⟨Nat.le_of_ble_eq_true rfl, Nat.le_of_ble_eq_true rfl⟩) dX1_setTimes_37 ⟨Nat.zero_le _, Nat.zero_le _⟩) ?_
  refine ruL_c (n := 38) (n2 := 39) rfl (ru_bot) ?_
  refine ruL_c (n := 39) (n2 := 40) rfl (ru_bot) ?_
  refine ruL_c (n := 40) (n2 := 41) rfl (ru_aload_n (k := 0) hx hb dX1_setTimes_40) ?_
  refine ruL_c (n := 41) (n2 := 42) rfl (ru_getR (own := RX1) (j := 1) (T := TX1) hx hb hown hK hts hin1 (by decide) rfl rfl (by decide) rfl hl15 dX1_setTimes_41) ?_
  refine ruL_c (n := 42) (n2 := 43) rfl (ru_bot) ?_
  refine ruL_c (n := 43) (n2 := 44) rfl (ru_bot) ?_
  refine ruL_c (n := 44) (n2 := 45) rfl (ru_iload_n (k := 2) hx hb dX1_setTimes_44) ?_
  refine ruL_c (n := 45) (n2 := 46) rfl (ru_iald hx hb hK dX1_setTimes_45) ?_
  refine ruL_c (n := 46) (n2 := 47) rfl (ru_iadd hx hb dX1_setTimes_46) ?_
  refine ruL_c (n := 47) (n2 := 48) rfl (ru_iast hx hb hK hi dX1_setTimes_47) ?_
  refine ruL_c (n := 48) (n2 := 49) rfl (ru_iinc hx hb dX1_setTimes_48 rfl) ?_
  refine ruL_c (n := 49) (n2 := 50) rfl (ru_bot) ?_
  refine ruL_c (n := 50) (n2 := 51) rfl (ru_bot) ?_
  refine ruL_c (n := 51) (n2 := 52) rfl (ru_goto hx hb dX1_setTimes_51 (by decide)) ?_
  refine ruL_c (n := 52) (n2 := 53) rfl (ru_bot) ?_
  refine ruL_c (n := 53) (n2 := 54) rfl (ru_bot) ?_
  refine ruL_c (n := 54) (n2 := 55) rfl (ru_vret hx hb hK hr hlocks dX1_setTimes_54) ?_
  exact trivial

-- CueTour$CueList.forget
def l_X1_forget_2 (x1 : Int32) : Nat → Int32 → aM → (Int32 → aM → Option (Int32 × aM)) → Option (Int32 × aM)
  | 0, _, _, _ => none
  | n + 1, v2, σ3, k => if 10 ≤ v2 then k v2 σ3 else if inb x1 20 = true then if inb v2 10 = true then l_X1_forget_2 x1 n (v2 + 1) (mput σ3 (108 + ix x1) (ix v2) ((-1))) k else none else none
def f_X1_forget (p0 : Int32) (σ : aM) : Option (Int32 × aM) := l_X1_forget_2 p0 lf 0 σ (fun v7 σ8 => some (0, σ8))
def F_X1_forget : aF := fun As σ => match As with
  | [.int p0] => f_X1_forget p0 σ
  | _ => none
def T_X1_forget (Qa : Int32 → aM → Prop) : List aI := [I_const 0 1, I_istore 2 1, I_iload 2 1, I_const (10) 2, I_bot, I_icmp (fun x y => y ≤ x) 23, I_bot, I_bot, I_aload 0 1, I_getR 3 55, I_bot, I_bot, I_iload 1 1, I_aald, I_iload 2 1, I_const (-1) 1, I_iast, I_iinc 2 (1), I_bot, I_bot, I_goto 2, I_bot, I_bot, I_vret Qa]
set_option maxHeartbeats 4000000 in
set_option maxRecDepth 100000 in
theorem t_X1_forget_2 {Qa : Int32 → aM → Prop} {K : aS → Prop} (hw : ∀ k x, wp (T_X1_forget Qa) k K x → K x) (hf : ∀ pc L i st σ, K (pc, L.set i .null, st, σ) → K (pc, L, st, σ)) (x1 : Int32) (y : Int32 × aM) (k : Int32 → aM → Option (Int32 × aM)) :
    ∀ (n : Nat) (v2 : Int32) (σ3 : aM), l_X1_forget_2 x1 n v2 σ3 k = some y → (∀ (w0 : Int32) (τ : aM), k w0 τ = some y → K (23, [.ref 3, .int x1, .int w0], [], τ)) → K (2, [.ref 3, .int x1, .int v2], [], σ3) := by
  intro n
  induction n with
  | zero =>
    intro v2 σ3 h hk
    exact absurd h (by simp [l_X1_forget_2])
  | succ n ih =>
    intro v2 σ3 h hk
    unfold l_X1_forget_2 at h
    rcases ite_cases h with ⟨c4, h⟩ | ⟨c4, h⟩
    · refine hw 3 _ ?_
      show ((10 ≤ v2) → K (23, [.ref 3, .int x1, .int v2], [], σ3)) ∧ (¬ (10 ≤ v2) → K (8, [.ref 3, .int x1, .int v2], [], σ3))
      refine ⟨fun _ => ?_, fun q => absurd c4 q⟩
      exact hk v2 σ3 h
    · refine hw 3 _ ?_
      show ((10 ≤ v2) → K (23, [.ref 3, .int x1, .int v2], [], σ3)) ∧ (¬ (10 ≤ v2) → K (8, [.ref 3, .int x1, .int v2], [], σ3))
      refine ⟨fun q => absurd q c4, fun _ => ?_⟩
      obtain ⟨g5, h⟩ := ite_some h
      obtain ⟨g6, h⟩ := ite_some h
      refine hw 9 _ ?_
      show kd 55 = 3 ∧ (inb x1 20 = true ∧ (kd (108 + ix x1) = 1 ∧ (inb v2 (ln (108 + ix x1)) = true ∧ (K (2, [.ref 3, .int x1, .int (v2 + 1)], [], mput σ3 (108 + ix x1) (ix v2) ((-1)))))))
      refine ⟨rfl, g5, (row55_kd g5), (by rw [row55_ln g5]; exact g6), ?_⟩
      exact ih (v2 + 1) (mput σ3 (108 + ix x1) (ix v2) ((-1))) h hk

set_option maxHeartbeats 4000000 in
set_option maxRecDepth 100000 in
theorem s_X1_forget : runs T_X1_forget [.ref 3] 3 F_X1_forget := by
  intro Qa K hw hf As σ r σ' h hQ
  unfold F_X1_forget at h
  split at h
  · rename_i p0
    unfold f_X1_forget at h
    have hQ : Qa (r, σ').1 (r, σ').2 := hQ
    generalize (r, σ') = y at h hQ
    show K (0, [.ref 3, .int p0, .null], [], σ)
    refine hw 2 _ ?_
    show K (2, [.ref 3, .int p0, .int 0], [], σ)
    refine t_X1_forget_2 hw hf p0 _ _ lf 0 σ h (fun v7 σ8 h => ?_)
    show K (23, [.ref 3, .int p0, .int v7], [], σ8)
    obtain rfl := Option.some.inj h
    refine hw 1 _ ?_
    show Qa 0 σ8
    refine hQ
  · cases h
theorem h_X1_forget : shp [.ref 3] 3 F_X1_forget := by
  intro As σ r σ' h
  unfold F_X1_forget at h
  split at h
  · exact ⟨by simp [Value.category], Nat.le_of_ble_eq_true rfl⟩
  · cases h
set_option maxHeartbeats 4000000 in
set_option maxRecDepth 100000 in
theorem c_X1_forget (l : Launch) (D : va_G) (cI cZ cA : ClassId) (ad : Nat → Nat) (hi : adI ad) : CtV l yX1_forget wsX1_forget { frames := 0, cells := 0, slots := 0, locals := 0 } D cI cZ cA ad [.ref 3] F_X1_forget := by
  refine mk_V [.ref 3] F_X1_forget T_X1_forget (by decide +kernel) rfl ?_ h_X1_forget s_X1_forget
  intro p e s m args below meth c Qa ⟨hx, hb, hml, hown, hts, hr, hlocks, hK, hN⟩
  have hin1 : ∀ w ∈ u_ws RX1 TX1 11, w ∈ wsX1_forget := by decide +kernel
  have hl39 : (Cond.fieldLink RX1 39 RX1 (TX1 8).2.1 (TX1 8).2.2.1) ∈ wsX1_forget := by decide +kernel
  refine ruL_c (n := 0) (n2 := 1) rfl (ru_iconst hx hb dX1_forget_0 rfl) ?_
  refine ruL_c (n := 1) (n2 := 2) rfl (ru_istore_n (k := 2) hx hb dX1_forget_1) ?_
  refine ruL_c (n := 2) (n2 := 3) rfl (ru_iload_n (k := 2) hx hb dX1_forget_2) ?_
  refine ruL_c (n := 3) (n2 := 4) rfl (ru_bipush hx hb dX1_forget_3 rfl) ?_
  refine ruL_c (n := 4) (n2 := 5) rfl (ru_bot) ?_
  refine ruL_c (n := 5) (n2 := 6) rfl (ru_icmpge hx hb dX1_forget_5 (by decide)) ?_
  refine ruL_c (n := 6) (n2 := 7) rfl (ru_bot) ?_
  refine ruL_c (n := 7) (n2 := 8) rfl (ru_bot) ?_
  refine ruL_c (n := 8) (n2 := 9) rfl (ru_aload_n (k := 0) hx hb dX1_forget_8) ?_
  refine ruL_c (n := 9) (n2 := 10) rfl (ru_getR (own := RX1) (j := 8) (T := TX1) hx hb hown hK hts hin1 (by decide) rfl rfl (by decide) rfl hl39 dX1_forget_9) ?_
  refine ruL_c (n := 10) (n2 := 11) rfl (ru_bot) ?_
  refine ruL_c (n := 11) (n2 := 12) rfl (ru_bot) ?_
  refine ruL_c (n := 12) (n2 := 13) rfl (ru_iload_n (k := 1) hx hb dX1_forget_12) ?_
  refine ruL_c (n := 13) (n2 := 14) rfl (ru_aald hx hb hK dX1_forget_13) ?_
  refine ruL_c (n := 14) (n2 := 15) rfl (ru_iload_n (k := 2) hx hb dX1_forget_14) ?_
  refine ruL_c (n := 15) (n2 := 16) rfl (ru_iconst hx hb dX1_forget_15 rfl) ?_
  refine ruL_c (n := 16) (n2 := 17) rfl (ru_iast hx hb hK hi dX1_forget_16) ?_
  refine ruL_c (n := 17) (n2 := 18) rfl (ru_iinc hx hb dX1_forget_17 rfl) ?_
  refine ruL_c (n := 18) (n2 := 19) rfl (ru_bot) ?_
  refine ruL_c (n := 19) (n2 := 20) rfl (ru_bot) ?_
  refine ruL_c (n := 20) (n2 := 21) rfl (ru_goto hx hb dX1_forget_20 (by decide)) ?_
  refine ruL_c (n := 21) (n2 := 22) rfl (ru_bot) ?_
  refine ruL_c (n := 22) (n2 := 23) rfl (ru_bot) ?_
  refine ruL_c (n := 23) (n2 := 24) rfl (ru_vret hx hb hK hr hlocks dX1_forget_23) ?_
  exact trivial

-- CueTour$CueList.fillIn
def l_X1_fillIn_2 (x1 : Int32) (x2 : Int32) : Nat → Int32 → aM → (Int32 → aM → Option (Int32 × aM)) → Option (Int32 × aM)
  | 0, _, _, _ => none
  | n + 1, v3, σ4, k => if 10 ≤ v3 then k v3 σ4 else if inb x1 20 = true then if inb v3 10 = true then if ¬ (σ4 (108 + ix x1) (ix v3)) = ((-1)) then l_X1_fillIn_2 x1 x2 n (v3 + 1) σ4 k else if inb x1 20 = true then if inb x2 20 = true then if inb v3 10 = true then if inb v3 10 = true then l_X1_fillIn_2 x1 x2 n (v3 + 1) (mput σ4 (108 + ix x1) (ix v3) (σ4 (88 + ix x2) (ix v3))) k else none else none else none else none else none else none
def f_X1_fillIn (p0 : Int32) (p1 : Int32) (σ : aM) : Option (Int32 × aM) := l_X1_fillIn_2 p0 p1 lf 0 σ (fun v13 σ14 => some (0, σ14))
def F_X1_fillIn : aF := fun As σ => match As with
  | [.int p0, .int p1] => f_X1_fillIn p0 p1 σ
  | _ => none
def T_X1_fillIn (Qa : Int32 → aM → Prop) : List aI := [I_const 0 1, I_istore 3 1, I_iload 3 1, I_const (10) 2, I_bot, I_icmp (fun x y => y ≤ x) 42, I_bot, I_bot, I_aload 0 1, I_getR 3 55, I_bot, I_bot, I_iload 1 1, I_aald, I_iload 3 1, I_iald, I_const (-1) 1, I_icmp (fun x y => ¬ x = y) 36, I_bot, I_bot, I_aload 0 1, I_getR 3 55, I_bot, I_bot, I_iload 1 1, I_aald, I_iload 3 1, I_aload 0 1, I_getR 3 54, I_bot, I_bot, I_iload 2 1, I_aald, I_iload 3 1, I_iald, I_iast, I_iinc 3 (1), I_bot, I_bot, I_goto 2, I_bot, I_bot, I_vret Qa]
set_option maxHeartbeats 4000000 in
set_option maxRecDepth 100000 in
theorem t_X1_fillIn_2 {Qa : Int32 → aM → Prop} {K : aS → Prop} (hw : ∀ k x, wp (T_X1_fillIn Qa) k K x → K x) (hf : ∀ pc L i st σ, K (pc, L.set i .null, st, σ) → K (pc, L, st, σ)) (x1 : Int32) (x2 : Int32) (y : Int32 × aM) (k : Int32 → aM → Option (Int32 × aM)) :
    ∀ (n : Nat) (v3 : Int32) (σ4 : aM), l_X1_fillIn_2 x1 x2 n v3 σ4 k = some y → (∀ (w0 : Int32) (τ : aM), k w0 τ = some y → K (42, [.ref 3, .int x1, .int x2, .int w0], [], τ)) → K (2, [.ref 3, .int x1, .int x2, .int v3], [], σ4) := by
  intro n
  induction n with
  | zero =>
    intro v3 σ4 h hk
    exact absurd h (by simp [l_X1_fillIn_2])
  | succ n ih =>
    intro v3 σ4 h hk
    unfold l_X1_fillIn_2 at h
    rcases ite_cases h with ⟨c5, h⟩ | ⟨c5, h⟩
    · refine hw 3 _ ?_
      show ((10 ≤ v3) → K (42, [.ref 3, .int x1, .int x2, .int v3], [], σ4)) ∧ (¬ (10 ≤ v3) → K (8, [.ref 3, .int x1, .int x2, .int v3], [], σ4))
      refine ⟨fun _ => ?_, fun q => absurd c5 q⟩
      exact hk v3 σ4 h
    · refine hw 3 _ ?_
      show ((10 ≤ v3) → K (42, [.ref 3, .int x1, .int x2, .int v3], [], σ4)) ∧ (¬ (10 ≤ v3) → K (8, [.ref 3, .int x1, .int x2, .int v3], [], σ4))
      refine ⟨fun q => absurd q c5, fun _ => ?_⟩
      obtain ⟨g6, h⟩ := ite_some h
      obtain ⟨g7, h⟩ := ite_some h
      rcases ite_cases h with ⟨c8, h⟩ | ⟨c8, h⟩
      · refine hw 8 _ ?_
        show kd 55 = 3 ∧ (inb x1 20 = true ∧ (kd (108 + ix x1) = 1 ∧ (inb v3 (ln (108 + ix x1)) = true ∧ (((¬ (σ4 (108 + ix x1) (ix v3)) = ((-1))) → K (36, [.ref 3, .int x1, .int x2, .int v3], [], σ4)) ∧ (¬ (¬ (σ4 (108 + ix x1) (ix v3)) = ((-1))) → K (20, [.ref 3, .int x1, .int x2, .int v3], [], σ4))))))
        refine ⟨rfl, g6, (row55_kd g6), (by rw [row55_ln g6]; exact g7), ⟨fun _ => ?_, fun q => absurd c8 q⟩⟩
        refine hw 2 _ ?_
        show K (2, [.ref 3, .int x1, .int x2, .int (v3 + 1)], [], σ4)
        exact ih (v3 + 1) σ4 h hk
      · refine hw 8 _ ?_
        show kd 55 = 3 ∧ (inb x1 20 = true ∧ (kd (108 + ix x1) = 1 ∧ (inb v3 (ln (108 + ix x1)) = true ∧ (((¬ (σ4 (108 + ix x1) (ix v3)) = ((-1))) → K (36, [.ref 3, .int x1, .int x2, .int v3], [], σ4)) ∧ (¬ (¬ (σ4 (108 + ix x1) (ix v3)) = ((-1))) → K (20, [.ref 3, .int x1, .int x2, .int v3], [], σ4))))))
        refine ⟨rfl, g6, (row55_kd g6), (by rw [row55_ln g6]; exact g7), ⟨fun q => absurd q c8, fun _ => ?_⟩⟩
        obtain ⟨g9, h⟩ := ite_some h
        obtain ⟨g10, h⟩ := ite_some h
        obtain ⟨g11, h⟩ := ite_some h
        obtain ⟨g12, h⟩ := ite_some h
        refine hw 14 _ ?_
        show kd 55 = 3 ∧ (inb x1 20 = true ∧ (kd 54 = 3 ∧ (inb x2 20 = true ∧ (kd (88 + ix x2) = 1 ∧ (inb v3 (ln (88 + ix x2)) = true ∧ (kd (108 + ix x1) = 1 ∧ (inb v3 (ln (108 + ix x1)) = true ∧ (K (2, [.ref 3, .int x1, .int x2, .int (v3 + 1)], [], mput σ4 (108 + ix x1) (ix v3) (σ4 (88 + ix x2) (ix v3)))))))))))
        refine ⟨rfl, g9, rfl, g10, (row54_kd g10), (by rw [row54_ln g10]; exact g11), (row55_kd g9), (by rw [row55_ln g9]; exact g12), ?_⟩
        exact ih (v3 + 1) (mput σ4 (108 + ix x1) (ix v3) (σ4 (88 + ix x2) (ix v3))) h hk

set_option maxHeartbeats 4000000 in
set_option maxRecDepth 100000 in
theorem s_X1_fillIn : runs T_X1_fillIn [.ref 3] 4 F_X1_fillIn := by
  intro Qa K hw hf As σ r σ' h hQ
  unfold F_X1_fillIn at h
  split at h
  · rename_i p0 p1
    unfold f_X1_fillIn at h
    have hQ : Qa (r, σ').1 (r, σ').2 := hQ
    generalize (r, σ') = y at h hQ
    show K (0, [.ref 3, .int p0, .int p1, .null], [], σ)
    refine hw 2 _ ?_
    show K (2, [.ref 3, .int p0, .int p1, .int 0], [], σ)
    refine t_X1_fillIn_2 hw hf p0 p1 _ _ lf 0 σ h (fun v13 σ14 h => ?_)
    show K (42, [.ref 3, .int p0, .int p1, .int v13], [], σ14)
    obtain rfl := Option.some.inj h
    refine hw 1 _ ?_
    show Qa 0 σ14
    refine hQ
  · cases h
theorem h_X1_fillIn : shp [.ref 3] 4 F_X1_fillIn := by
  intro As σ r σ' h
  unfold F_X1_fillIn at h
  split at h
  · exact ⟨by simp [Value.category], Nat.le_of_ble_eq_true rfl⟩
  · cases h
set_option maxHeartbeats 4000000 in
set_option maxRecDepth 100000 in
theorem c_X1_fillIn (l : Launch) (D : va_G) (cI cZ cA : ClassId) (ad : Nat → Nat) (hi : adI ad) : CtV l yX1_fillIn wsX1_fillIn { frames := 0, cells := 0, slots := 0, locals := 0 } D cI cZ cA ad [.ref 3] F_X1_fillIn := by
  refine mk_V [.ref 3] F_X1_fillIn T_X1_fillIn (by decide +kernel) rfl ?_ h_X1_fillIn s_X1_fillIn
  intro p e s m args below meth c Qa ⟨hx, hb, hml, hown, hts, hr, hlocks, hK, hN⟩
  have hin1 : ∀ w ∈ u_ws RX1 TX1 11, w ∈ wsX1_fillIn := by decide +kernel
  have hl39 : (Cond.fieldLink RX1 39 RX1 (TX1 8).2.1 (TX1 8).2.2.1) ∈ wsX1_fillIn := by decide +kernel
  have hl23 : (Cond.fieldLink RX1 23 RX1 (TX1 3).2.1 (TX1 3).2.2.1) ∈ wsX1_fillIn := by decide +kernel
  refine ruL_c (n := 0) (n2 := 1) rfl (ru_iconst hx hb dX1_fillIn_0 rfl) ?_
  refine ruL_c (n := 1) (n2 := 2) rfl (ru_istore_n (k := 3) hx hb dX1_fillIn_1) ?_
  refine ruL_c (n := 2) (n2 := 3) rfl (ru_iload_n (k := 3) hx hb dX1_fillIn_2) ?_
  refine ruL_c (n := 3) (n2 := 4) rfl (ru_bipush hx hb dX1_fillIn_3 rfl) ?_
  refine ruL_c (n := 4) (n2 := 5) rfl (ru_bot) ?_
  refine ruL_c (n := 5) (n2 := 6) rfl (ru_icmpge hx hb dX1_fillIn_5 (by decide)) ?_
  refine ruL_c (n := 6) (n2 := 7) rfl (ru_bot) ?_
  refine ruL_c (n := 7) (n2 := 8) rfl (ru_bot) ?_
  refine ruL_c (n := 8) (n2 := 9) rfl (ru_aload_n (k := 0) hx hb dX1_fillIn_8) ?_
  refine ruL_c (n := 9) (n2 := 10) rfl (ru_getR (own := RX1) (j := 8) (T := TX1) hx hb hown hK hts hin1 (by decide) rfl rfl (by decide) rfl hl39 dX1_fillIn_9) ?_
  refine ruL_c (n := 10) (n2 := 11) rfl (ru_bot) ?_
  refine ruL_c (n := 11) (n2 := 12) rfl (ru_bot) ?_
  refine ruL_c (n := 12) (n2 := 13) rfl (ru_iload_n (k := 1) hx hb dX1_fillIn_12) ?_
  refine ruL_c (n := 13) (n2 := 14) rfl (ru_aald hx hb hK dX1_fillIn_13) ?_
  refine ruL_c (n := 14) (n2 := 15) rfl (ru_iload_n (k := 3) hx hb dX1_fillIn_14) ?_
  refine ruL_c (n := 15) (n2 := 16) rfl (ru_iald hx hb hK dX1_fillIn_15) ?_
  refine ruL_c (n := 16) (n2 := 17) rfl (ru_iconst hx hb dX1_fillIn_16 rfl) ?_
  refine ruL_c (n := 17) (n2 := 18) rfl (ru_icmpne hx hb dX1_fillIn_17 (by decide)) ?_
  refine ruL_c (n := 18) (n2 := 19) rfl (ru_bot) ?_
  refine ruL_c (n := 19) (n2 := 20) rfl (ru_bot) ?_
  refine ruL_c (n := 20) (n2 := 21) rfl (ru_aload_n (k := 0) hx hb dX1_fillIn_20) ?_
  refine ruL_c (n := 21) (n2 := 22) rfl (ru_getR (own := RX1) (j := 8) (T := TX1) hx hb hown hK hts hin1 (by decide) rfl rfl (by decide) rfl hl39 dX1_fillIn_21) ?_
  refine ruL_c (n := 22) (n2 := 23) rfl (ru_bot) ?_
  refine ruL_c (n := 23) (n2 := 24) rfl (ru_bot) ?_
  refine ruL_c (n := 24) (n2 := 25) rfl (ru_iload_n (k := 1) hx hb dX1_fillIn_24) ?_
  refine ruL_c (n := 25) (n2 := 26) rfl (ru_aald hx hb hK dX1_fillIn_25) ?_
  refine ruL_c (n := 26) (n2 := 27) rfl (ru_iload_n (k := 3) hx hb dX1_fillIn_26) ?_
  refine ruL_c (n := 27) (n2 := 28) rfl (ru_aload_n (k := 0) hx hb dX1_fillIn_27) ?_
  refine ruL_c (n := 28) (n2 := 29) rfl (ru_getR (own := RX1) (j := 3) (T := TX1) hx hb hown hK hts hin1 (by decide) rfl rfl (by decide) rfl hl23 dX1_fillIn_28) ?_
  refine ruL_c (n := 29) (n2 := 30) rfl (ru_bot) ?_
  refine ruL_c (n := 30) (n2 := 31) rfl (ru_bot) ?_
  refine ruL_c (n := 31) (n2 := 32) rfl (ru_iload_n (k := 2) hx hb dX1_fillIn_31) ?_
  refine ruL_c (n := 32) (n2 := 33) rfl (ru_aald hx hb hK dX1_fillIn_32) ?_
  refine ruL_c (n := 33) (n2 := 34) rfl (ru_iload_n (k := 3) hx hb dX1_fillIn_33) ?_
  refine ruL_c (n := 34) (n2 := 35) rfl (ru_iald hx hb hK dX1_fillIn_34) ?_
  refine ruL_c (n := 35) (n2 := 36) rfl (ru_iast hx hb hK hi dX1_fillIn_35) ?_
  refine ruL_c (n := 36) (n2 := 37) rfl (ru_iinc hx hb dX1_fillIn_36 rfl) ?_
  refine ruL_c (n := 37) (n2 := 38) rfl (ru_bot) ?_
  refine ruL_c (n := 38) (n2 := 39) rfl (ru_bot) ?_
  refine ruL_c (n := 39) (n2 := 40) rfl (ru_goto hx hb dX1_fillIn_39 (by decide)) ?_
  refine ruL_c (n := 40) (n2 := 41) rfl (ru_bot) ?_
  refine ruL_c (n := 41) (n2 := 42) rfl (ru_bot) ?_
  refine ruL_c (n := 42) (n2 := 43) rfl (ru_vret hx hb hK hr hlocks dX1_fillIn_42) ?_
  exact trivial

-- CueTour$CueList.fold
def l_X1_fold_9 : Nat → Int32 → Int32 → aM → (Int32 → Int32 → aM → Option (Int32 × aM)) → Option (Int32 × aM)
  | 0, _, _, _, _ => none
  | n + 1, v1, v2, σ3, k => if v2 < 0 then k v1 v2 σ3 else if inb v2 20 = true then bnd (f_X1_forget (σ3 14 (ix v2)) σ3) (fun r6 σ7 => if inb (σ3 14 (ix v2)) 20 = true then if (σ7 15 (ix (σ3 14 (ix v2)))) = ((-1)) then if inb (σ3 14 (ix v2)) 20 = true then if v1 = ((-1)) then l_X1_fold_9 n v1 (v2 + (-1)) (mput σ7 16 (ix (σ3 14 (ix v2))) v1) k else bnd (f_X1_fillIn v1 (σ3 14 (ix v2)) (mput σ7 16 (ix (σ3 14 (ix v2))) v1)) (fun r13 σ14 => l_X1_fold_9 n v1 (v2 + (-1)) σ14 k) else none else if inb (σ3 14 (ix v2)) 20 = true then if (σ3 14 (ix v2)) = ((-1)) then l_X1_fold_9 n (σ3 14 (ix v2)) (v2 + (-1)) (mput σ7 16 (ix (σ3 14 (ix v2))) (σ3 14 (ix v2))) k else bnd (f_X1_fillIn (σ3 14 (ix v2)) (σ3 14 (ix v2)) (mput σ7 16 (ix (σ3 14 (ix v2))) (σ3 14 (ix v2)))) (fun r18 σ19 => l_X1_fold_9 n (σ3 14 (ix v2)) (v2 + (-1)) σ19 k) else none else none) else none
def f_X1_fold (σ : aM) : Option (Int32 × aM) := l_X1_fold_9 lf ((-1)) ((σ 3 4) - 1) σ (fun v21 v22 σ23 => some (0, σ23))
def F_X1_fold : aF := fun As σ => match As with
  | [] => f_X1_fold σ
  | _ => none
def T_X1_fold (Qa : Int32 → aM → Prop) : List aI := [I_const (-1) 1, I_istore 1 1, I_aload 0 1, I_getI 3 4, I_bot, I_bot, I_const 1 1, I_bin fun x y => x - y, I_istore 2 1, I_iload 2 1, I_if (fun x => x < 0) 61, I_bot, I_bot, I_aload 0 1, I_getR 3 14, I_bot, I_bot, I_iload 2 1, I_iald, I_istore 3 1, I_aload 0 1, I_iload 3 1, I_callVv 3 1 F_X1_forget, I_bot, I_bot, I_aload 0 1, I_getR 3 15, I_bot, I_bot, I_iload 3 1, I_iald, I_const (-1) 1, I_icmp (fun x y => x = y) 37, I_bot, I_bot, I_iload 3 1, I_istore 1 1, I_aload 0 1, I_getR 3 16, I_bot, I_bot, I_iload 3 1, I_iload 1 1, I_iast, I_iload 1 1, I_const (-1) 1, I_icmp (fun x y => x = y) 55, I_bot, I_bot, I_aload 0 1, I_iload 1 1, I_iload 3 1, I_callVv 3 2 F_X1_fillIn, I_bot, I_bot, I_iinc 2 (-1), I_bot, I_bot, I_goto 9, I_bot, I_bot, I_vret Qa]
set_option maxHeartbeats 4000000 in
set_option maxRecDepth 100000 in
theorem t_X1_fold_9 {Qa : Int32 → aM → Prop} {K : aS → Prop} (hw : ∀ k x, wp (T_X1_fold Qa) k K x → K x) (hf : ∀ pc L i st σ, K (pc, L.set i .null, st, σ) → K (pc, L, st, σ)) (y : Int32 × aM) (k : Int32 → Int32 → aM → Option (Int32 × aM)) :
    ∀ (n : Nat) (v1 : Int32) (v2 : Int32) (σ3 : aM), l_X1_fold_9 n v1 v2 σ3 k = some y → (∀ (w0 : Int32) (w1 : Int32) (τ : aM), k w0 w1 τ = some y → K (61, [.ref 3, .int w0, .int w1, .null], [], τ)) → K (9, [.ref 3, .int v1, .int v2, .null], [], σ3) := by
  intro n
  induction n with
  | zero =>
    intro v1 v2 σ3 h hk
    exact absurd h (by simp [l_X1_fold_9])
  | succ n ih =>
    intro v1 v2 σ3 h hk
    unfold l_X1_fold_9 at h
    rcases ite_cases h with ⟨c4, h⟩ | ⟨c4, h⟩
    · refine hw 2 _ ?_
      show ((v2 < 0) → K (61, [.ref 3, .int v1, .int v2, .null], [], σ3)) ∧ (¬ (v2 < 0) → K (13, [.ref 3, .int v1, .int v2, .null], [], σ3))
      refine ⟨fun _ => ?_, fun q => absurd c4 q⟩
      exact hk v1 v2 σ3 h
    · refine hw 2 _ ?_
      show ((v2 < 0) → K (61, [.ref 3, .int v1, .int v2, .null], [], σ3)) ∧ (¬ (v2 < 0) → K (13, [.ref 3, .int v1, .int v2, .null], [], σ3))
      refine ⟨fun q => absurd q c4, fun _ => ?_⟩
      obtain ⟨g5, h⟩ := ite_some h
      obtain ⟨r6, σ7, e8, h⟩ := bnd_some h
      refine hw 8 _ ?_
      show kd 14 = 1 ∧ (inb v2 20 = true ∧ (∃ r6 σ7, f_X1_forget (σ3 14 (ix v2)) σ3 = some (r6, σ7) ∧ K (25, [.ref 3, .int v1, .int v2, .int (σ3 14 (ix v2))], [], σ7)))
      refine ⟨rfl, g5, ⟨r6, σ7, e8, ?_⟩⟩
      obtain ⟨g9, h⟩ := ite_some h
      rcases ite_cases h with ⟨c10, h⟩ | ⟨c10, h⟩
      · refine hw 6 _ ?_
        show kd 15 = 1 ∧ (inb (σ3 14 (ix v2)) 20 = true ∧ ((((σ7 15 (ix (σ3 14 (ix v2)))) = ((-1))) → K (37, [.ref 3, .int v1, .int v2, .int (σ3 14 (ix v2))], [], σ7)) ∧ (¬ ((σ7 15 (ix (σ3 14 (ix v2)))) = ((-1))) → K (35, [.ref 3, .int v1, .int v2, .int (σ3 14 (ix v2))], [], σ7))))
        refine ⟨rfl, g9, ⟨fun _ => ?_, fun q => absurd c10 q⟩⟩
        obtain ⟨g11, h⟩ := ite_some h
        rcases ite_cases h with ⟨c12, h⟩ | ⟨c12, h⟩
        · refine hw 8 _ ?_
          show kd 16 = 1 ∧ (inb (σ3 14 (ix v2)) 20 = true ∧ (((v1 = ((-1))) → K (55, [.ref 3, .int v1, .int v2, .int (σ3 14 (ix v2))], [], mput σ7 16 (ix (σ3 14 (ix v2))) v1)) ∧ (¬ (v1 = ((-1))) → K (49, [.ref 3, .int v1, .int v2, .int (σ3 14 (ix v2))], [], mput σ7 16 (ix (σ3 14 (ix v2))) v1))))
          refine ⟨rfl, g11, ⟨fun _ => ?_, fun q => absurd c12 q⟩⟩
          refine hw 2 _ ?_
          show K (9, [.ref 3, .int v1, .int (v2 + (-1)), .int (σ3 14 (ix v2))], [], mput σ7 16 (ix (σ3 14 (ix v2))) v1)
          refine hf _ _ 3 _ _ ?_
          show K (9, [.ref 3, .int v1, .int (v2 + (-1)), .null], [], mput σ7 16 (ix (σ3 14 (ix v2))) v1)
          exact ih v1 (v2 + (-1)) (mput σ7 16 (ix (σ3 14 (ix v2))) v1) h hk
        · refine hw 8 _ ?_
          show kd 16 = 1 ∧ (inb (σ3 14 (ix v2)) 20 = true ∧ (((v1 = ((-1))) → K (55, [.ref 3, .int v1, .int v2, .int (σ3 14 (ix v2))], [], mput σ7 16 (ix (σ3 14 (ix v2))) v1)) ∧ (¬ (v1 = ((-1))) → K (49, [.ref 3, .int v1, .int v2, .int (σ3 14 (ix v2))], [], mput σ7 16 (ix (σ3 14 (ix v2))) v1))))
          refine ⟨rfl, g11, ⟨fun q => absurd q c12, fun _ => ?_⟩⟩
          obtain ⟨r13, σ14, e15, h⟩ := bnd_some h
          refine hw 4 _ ?_
          show ∃ r13 σ14, f_X1_fillIn v1 (σ3 14 (ix v2)) (mput σ7 16 (ix (σ3 14 (ix v2))) v1) = some (r13, σ14) ∧ K (55, [.ref 3, .int v1, .int v2, .int (σ3 14 (ix v2))], [], σ14)
          refine ⟨r13, σ14, e15, ?_⟩
          refine hw 2 _ ?_
          show K (9, [.ref 3, .int v1, .int (v2 + (-1)), .int (σ3 14 (ix v2))], [], σ14)
          refine hf _ _ 3 _ _ ?_
          show K (9, [.ref 3, .int v1, .int (v2 + (-1)), .null], [], σ14)
          exact ih v1 (v2 + (-1)) σ14 h hk
      · refine hw 6 _ ?_
        show kd 15 = 1 ∧ (inb (σ3 14 (ix v2)) 20 = true ∧ ((((σ7 15 (ix (σ3 14 (ix v2)))) = ((-1))) → K (37, [.ref 3, .int v1, .int v2, .int (σ3 14 (ix v2))], [], σ7)) ∧ (¬ ((σ7 15 (ix (σ3 14 (ix v2)))) = ((-1))) → K (35, [.ref 3, .int v1, .int v2, .int (σ3 14 (ix v2))], [], σ7))))
        refine ⟨rfl, g9, ⟨fun q => absurd q c10, fun _ => ?_⟩⟩
        obtain ⟨g16, h⟩ := ite_some h
        rcases ite_cases h with ⟨c17, h⟩ | ⟨c17, h⟩
        · refine hw 10 _ ?_
          show kd 16 = 1 ∧ (inb (σ3 14 (ix v2)) 20 = true ∧ ((((σ3 14 (ix v2)) = ((-1))) → K (55, [.ref 3, .int (σ3 14 (ix v2)), .int v2, .int (σ3 14 (ix v2))], [], mput σ7 16 (ix (σ3 14 (ix v2))) (σ3 14 (ix v2)))) ∧ (¬ ((σ3 14 (ix v2)) = ((-1))) → K (49, [.ref 3, .int (σ3 14 (ix v2)), .int v2, .int (σ3 14 (ix v2))], [], mput σ7 16 (ix (σ3 14 (ix v2))) (σ3 14 (ix v2))))))
          refine ⟨rfl, g16, ⟨fun _ => ?_, fun q => absurd c17 q⟩⟩
          refine hw 2 _ ?_
          show K (9, [.ref 3, .int (σ3 14 (ix v2)), .int (v2 + (-1)), .int (σ3 14 (ix v2))], [], mput σ7 16 (ix (σ3 14 (ix v2))) (σ3 14 (ix v2)))
          refine hf _ _ 3 _ _ ?_
          show K (9, [.ref 3, .int (σ3 14 (ix v2)), .int (v2 + (-1)), .null], [], mput σ7 16 (ix (σ3 14 (ix v2))) (σ3 14 (ix v2)))
          exact ih (σ3 14 (ix v2)) (v2 + (-1)) (mput σ7 16 (ix (σ3 14 (ix v2))) (σ3 14 (ix v2))) h hk
        · refine hw 10 _ ?_
          show kd 16 = 1 ∧ (inb (σ3 14 (ix v2)) 20 = true ∧ ((((σ3 14 (ix v2)) = ((-1))) → K (55, [.ref 3, .int (σ3 14 (ix v2)), .int v2, .int (σ3 14 (ix v2))], [], mput σ7 16 (ix (σ3 14 (ix v2))) (σ3 14 (ix v2)))) ∧ (¬ ((σ3 14 (ix v2)) = ((-1))) → K (49, [.ref 3, .int (σ3 14 (ix v2)), .int v2, .int (σ3 14 (ix v2))], [], mput σ7 16 (ix (σ3 14 (ix v2))) (σ3 14 (ix v2))))))
          refine ⟨rfl, g16, ⟨fun q => absurd q c17, fun _ => ?_⟩⟩
          obtain ⟨r18, σ19, e20, h⟩ := bnd_some h
          refine hw 4 _ ?_
          show ∃ r18 σ19, f_X1_fillIn (σ3 14 (ix v2)) (σ3 14 (ix v2)) (mput σ7 16 (ix (σ3 14 (ix v2))) (σ3 14 (ix v2))) = some (r18, σ19) ∧ K (55, [.ref 3, .int (σ3 14 (ix v2)), .int v2, .int (σ3 14 (ix v2))], [], σ19)
          refine ⟨r18, σ19, e20, ?_⟩
          refine hw 2 _ ?_
          show K (9, [.ref 3, .int (σ3 14 (ix v2)), .int (v2 + (-1)), .int (σ3 14 (ix v2))], [], σ19)
          refine hf _ _ 3 _ _ ?_
          show K (9, [.ref 3, .int (σ3 14 (ix v2)), .int (v2 + (-1)), .null], [], σ19)
          exact ih (σ3 14 (ix v2)) (v2 + (-1)) σ19 h hk

set_option maxHeartbeats 4000000 in
set_option maxRecDepth 100000 in
theorem s_X1_fold : runs T_X1_fold [.ref 3] 4 F_X1_fold := by
  intro Qa K hw hf As σ r σ' h hQ
  unfold F_X1_fold at h
  split at h
  · unfold f_X1_fold at h
    have hQ : Qa (r, σ').1 (r, σ').2 := hQ
    generalize (r, σ') = y at h hQ
    show K (0, [.ref 3, .null, .null, .null], [], σ)
    refine hw 7 _ ?_
    show K (9, [.ref 3, .int ((-1)), .int ((σ 3 4) - 1), .null], [], σ)
    refine t_X1_fold_9 hw hf _ _ lf ((-1)) ((σ 3 4) - 1) σ h (fun v21 v22 σ23 h => ?_)
    show K (61, [.ref 3, .int v21, .int v22, .null], [], σ23)
    obtain rfl := Option.some.inj h
    refine hw 1 _ ?_
    show Qa 0 σ23
    refine hQ
  · cases h
theorem h_X1_fold : shp [.ref 3] 4 F_X1_fold := by
  intro As σ r σ' h
  unfold F_X1_fold at h
  split at h
  · exact ⟨by simp [Value.category], Nat.le_of_ble_eq_true rfl⟩
  · cases h
set_option maxHeartbeats 4000000 in
set_option maxRecDepth 100000 in
theorem c_X1_fold (l : Launch) (D : va_G) (cI cZ cA : ClassId) (ad : Nat → Nat) (hi : adI ad) : CtV l yX1_fold wsX1_fold { frames := 1, cells := 0, slots := 0, locals := 23 } D cI cZ cA ad [.ref 3] F_X1_fold := by
  refine mk_V [.ref 3] F_X1_fold T_X1_fold (by decide +kernel) rfl ?_ h_X1_fold s_X1_fold
  intro p e s m args below meth c Qa ⟨hx, hb, hml, hown, hts, hr, hlocks, hK, hN⟩
  have hin1 : ∀ w ∈ u_ws RX1 TX1 11, w ∈ wsX1_fold := by decide +kernel
  have hl26 : (Cond.fieldLink RX1 26 RX1 (TX1 4).2.1 (TX1 4).2.2.1) ∈ wsX1_fold := by decide +kernel
  have hl30 : (Cond.fieldLink RX1 30 RX1 (TX1 5).2.1 (TX1 5).2.2.1) ∈ wsX1_fold := by decide +kernel
  have hl33 : (Cond.fieldLink RX1 33 RX1 (TX1 6).2.1 (TX1 6).2.2.1) ∈ wsX1_fold := by decide +kernel
  have hl36 : (Cond.fieldLink RX1 36 RX1 (TX1 7).2.1 (TX1 7).2.2.1) ∈ wsX1_fold := by decide +kernel
  refine ruL_c (n := 0) (n2 := 1) rfl (ru_iconst hx hb dX1_fold_0 rfl) ?_
  refine ruL_c (n := 1) (n2 := 2) rfl (ru_istore_n (k := 1) hx hb dX1_fold_1) ?_
  refine ruL_c (n := 2) (n2 := 3) rfl (ru_aload_n (k := 0) hx hb dX1_fold_2) ?_
  refine ruL_c (n := 3) (n2 := 4) rfl (ru_getI (own := RX1) (j := 4) (T := TX1) hx hb hown hK hts hin1 (by decide) rfl rfl (by decide) rfl hl26 dX1_fold_3) ?_
  refine ruL_c (n := 4) (n2 := 5) rfl (ru_bot) ?_
  refine ruL_c (n := 5) (n2 := 6) rfl (ru_bot) ?_
  refine ruL_c (n := 6) (n2 := 7) rfl (ru_iconst hx hb dX1_fold_6 rfl) ?_
  refine ruL_c (n := 7) (n2 := 8) rfl (ru_isub hx hb dX1_fold_7) ?_
  refine ruL_c (n := 8) (n2 := 9) rfl (ru_istore_n (k := 2) hx hb dX1_fold_8) ?_
  refine ruL_c (n := 9) (n2 := 10) rfl (ru_iload_n (k := 2) hx hb dX1_fold_9) ?_
  refine ruL_c (n := 10) (n2 := 11) rfl (ru_iflt hx hb dX1_fold_10 (by decide)) ?_
  refine ruL_c (n := 11) (n2 := 12) rfl (ru_bot) ?_
  refine ruL_c (n := 12) (n2 := 13) rfl (ru_bot) ?_
  refine ruL_c (n := 13) (n2 := 14) rfl (ru_aload_n (k := 0) hx hb dX1_fold_13) ?_
  refine ruL_c (n := 14) (n2 := 15) rfl (ru_getR (own := RX1) (j := 5) (T := TX1) hx hb hown hK hts hin1 (by decide) rfl rfl (by decide) rfl hl30 dX1_fold_14) ?_
  refine ruL_c (n := 15) (n2 := 16) rfl (ru_bot) ?_
  refine ruL_c (n := 16) (n2 := 17) rfl (ru_bot) ?_
  refine ruL_c (n := 17) (n2 := 18) rfl (ru_iload_n (k := 2) hx hb dX1_fold_17) ?_
  refine ruL_c (n := 18) (n2 := 19) rfl (ru_iald hx hb hK dX1_fold_18) ?_
  refine ruL_c (n := 19) (n2 := 20) rfl (ru_istore_n (k := 3) hx hb dX1_fold_19) ?_
  refine ruL_c (n := 20) (n2 := 21) rfl (ru_aload_n (k := 0) hx hb dX1_fold_20) ?_
  refine ruL_c (n := 21) (n2 := 22) rfl (ru_iload_n (k := 3) hx hb dX1_fold_21) ?_
  refine ruL_c (n := 22) (n2 := 23) rfl (ru_callVv hx hb hml hown hts hK hN (by decide) rfl (c_X1_forget l D cI cZ cA ad hi) (cwV 1 hts gX1_fold_X1_forget rfl rfl rfl (by decide +kernel) ⟨Nat.le_of_ble_eq_true rfl, Nat.le_of_ble_eq_true rfl⟩) dX1_fold_22 ⟨Nat.zero_le _, Nat.zero_le _⟩) ?_
  refine ruL_c (n := 23) (n2 := 24) rfl (ru_bot) ?_
  refine ruL_c (n := 24) (n2 := 25) rfl (ru_bot) ?_
  refine ruL_c (n := 25) (n2 := 26) rfl (ru_aload_n (k := 0) hx hb dX1_fold_25) ?_
  refine ruL_c (n := 26) (n2 := 27) rfl (ru_getR (own := RX1) (j := 6) (T := TX1) hx hb hown hK hts hin1 (by decide) rfl rfl (by decide) rfl hl33 dX1_fold_26) ?_
  refine ruL_c (n := 27) (n2 := 28) rfl (ru_bot) ?_
  refine ruL_c (n := 28) (n2 := 29) rfl (ru_bot) ?_
  refine ruL_c (n := 29) (n2 := 30) rfl (ru_iload_n (k := 3) hx hb dX1_fold_29) ?_
  refine ruL_c (n := 30) (n2 := 31) rfl (ru_iald hx hb hK dX1_fold_30) ?_
  refine ruL_c (n := 31) (n2 := 32) rfl (ru_iconst hx hb dX1_fold_31 rfl) ?_
  refine ruL_c (n := 32) (n2 := 33) rfl (ru_icmpeq hx hb dX1_fold_32 (by decide)) ?_
  refine ruL_c (n := 33) (n2 := 34) rfl (ru_bot) ?_
  refine ruL_c (n := 34) (n2 := 35) rfl (ru_bot) ?_
  refine ruL_c (n := 35) (n2 := 36) rfl (ru_iload_n (k := 3) hx hb dX1_fold_35) ?_
  refine ruL_c (n := 36) (n2 := 37) rfl (ru_istore_n (k := 1) hx hb dX1_fold_36) ?_
  refine ruL_c (n := 37) (n2 := 38) rfl (ru_aload_n (k := 0) hx hb dX1_fold_37) ?_
  refine ruL_c (n := 38) (n2 := 39) rfl (ru_getR (own := RX1) (j := 7) (T := TX1) hx hb hown hK hts hin1 (by decide) rfl rfl (by decide) rfl hl36 dX1_fold_38) ?_
  refine ruL_c (n := 39) (n2 := 40) rfl (ru_bot) ?_
  refine ruL_c (n := 40) (n2 := 41) rfl (ru_bot) ?_
  refine ruL_c (n := 41) (n2 := 42) rfl (ru_iload_n (k := 3) hx hb dX1_fold_41) ?_
  refine ruL_c (n := 42) (n2 := 43) rfl (ru_iload_n (k := 1) hx hb dX1_fold_42) ?_
  refine ruL_c (n := 43) (n2 := 44) rfl (ru_iast hx hb hK hi dX1_fold_43) ?_
  refine ruL_c (n := 44) (n2 := 45) rfl (ru_iload_n (k := 1) hx hb dX1_fold_44) ?_
  refine ruL_c (n := 45) (n2 := 46) rfl (ru_iconst hx hb dX1_fold_45 rfl) ?_
  refine ruL_c (n := 46) (n2 := 47) rfl (ru_icmpeq hx hb dX1_fold_46 (by decide)) ?_
  refine ruL_c (n := 47) (n2 := 48) rfl (ru_bot) ?_
  refine ruL_c (n := 48) (n2 := 49) rfl (ru_bot) ?_
  refine ruL_c (n := 49) (n2 := 50) rfl (ru_aload_n (k := 0) hx hb dX1_fold_49) ?_
  refine ruL_c (n := 50) (n2 := 51) rfl (ru_iload_n (k := 1) hx hb dX1_fold_50) ?_
  refine ruL_c (n := 51) (n2 := 52) rfl (ru_iload_n (k := 3) hx hb dX1_fold_51) ?_
  refine ruL_c (n := 52) (n2 := 53) rfl (ru_callVv hx hb hml hown hts hK hN (by decide) rfl (c_X1_fillIn l D cI cZ cA ad hi) (cwV 2 hts gX1_fold_X1_fillIn rfl rfl rfl (by decide +kernel) ⟨Nat.le_of_ble_eq_true rfl, Nat.le_of_ble_eq_true rfl⟩) dX1_fold_52 ⟨Nat.zero_le _, Nat.zero_le _⟩) ?_
  refine ruL_c (n := 53) (n2 := 54) rfl (ru_bot) ?_
  refine ruL_c (n := 54) (n2 := 55) rfl (ru_bot) ?_
  refine ruL_c (n := 55) (n2 := 56) rfl (ru_iinc hx hb dX1_fold_55 rfl) ?_
  refine ruL_c (n := 56) (n2 := 57) rfl (ru_bot) ?_
  refine ruL_c (n := 57) (n2 := 58) rfl (ru_bot) ?_
  refine ruL_c (n := 58) (n2 := 59) rfl (ru_goto hx hb dX1_fold_58 (by decide)) ?_
  refine ruL_c (n := 59) (n2 := 60) rfl (ru_bot) ?_
  refine ruL_c (n := 60) (n2 := 61) rfl (ru_bot) ?_
  refine ruL_c (n := 61) (n2 := 62) rfl (ru_vret hx hb hK hr hlocks dX1_fold_61) ?_
  exact trivial

-- CueTour$CueList.insertPlay
def l_X1_insertPlay_5 (x1 : Int32) : Nat → Int32 → aM → (Int32 → aM → Option (Int32 × aM)) → Option (Int32 × aM)
  | 0, _, _, _ => none
  | n + 1, v2, σ3, k => if v2 ≤ 0 then k v2 σ3 else if inb (v2 - 1) 20 = true then if inb (σ3 17 (ix (v2 - 1))) 20 = true then if inb x1 20 = true then if (σ3 15 (ix (σ3 17 (ix (v2 - 1))))) ≤ (σ3 15 (ix x1)) then k v2 σ3 else if inb (v2 - 1) 20 = true then if inb v2 20 = true then l_X1_insertPlay_5 x1 n (v2 + (-1)) (mput σ3 17 (ix v2) (σ3 17 (ix (v2 - 1)))) k else none else none else none else none else none
def f_X1_insertPlay (p0 : Int32) (σ : aM) : Option (Int32 × aM) := l_X1_insertPlay_5 p0 lf (σ 3 10) σ (fun v11 σ12 => if inb v11 20 = true then some (0, mput (mput σ12 17 (ix v11) p0) 3 10 ((σ12 3 10) + 1)) else none)
def F_X1_insertPlay : aF := fun As σ => match As with
  | [.int p0] => f_X1_insertPlay p0 σ
  | _ => none
def T_X1_insertPlay (Qa : Int32 → aM → Prop) : List aI := [I_aload 0 1, I_getI 3 10, I_bot, I_bot, I_istore 2 1, I_iload 2 1, I_if (fun x => x ≤ 0) 51, I_bot, I_bot, I_aload 0 1, I_getR 3 15, I_bot, I_bot, I_aload 0 1, I_getR 3 17, I_bot, I_bot, I_iload 2 1, I_const 1 1, I_bin fun x y => x - y, I_iald, I_iald, I_aload 0 1, I_getR 3 15, I_bot, I_bot, I_iload 1 1, I_iald, I_icmp (fun x y => x ≤ y) 51, I_bot, I_bot, I_aload 0 1, I_getR 3 17, I_bot, I_bot, I_iload 2 1, I_aload 0 1, I_getR 3 17, I_bot, I_bot, I_iload 2 1, I_const 1 1, I_bin fun x y => x - y, I_iald, I_iast, I_iinc 2 (-1), I_bot, I_bot, I_goto 5, I_bot, I_bot, I_aload 0 1, I_getR 3 17, I_bot, I_bot, I_iload 2 1, I_iload 1 1, I_iast, I_aload 0 1, I_dup, I_getI 3 10, I_bot, I_bot, I_const 1 1, I_bin fun x y => x + y, I_putI 3 10, I_bot, I_bot, I_vret Qa]
set_option maxHeartbeats 4000000 in
set_option maxRecDepth 100000 in
theorem t_X1_insertPlay_5 {Qa : Int32 → aM → Prop} {K : aS → Prop} (hw : ∀ k x, wp (T_X1_insertPlay Qa) k K x → K x) (hf : ∀ pc L i st σ, K (pc, L.set i .null, st, σ) → K (pc, L, st, σ)) (x1 : Int32) (y : Int32 × aM) (k : Int32 → aM → Option (Int32 × aM)) :
    ∀ (n : Nat) (v2 : Int32) (σ3 : aM), l_X1_insertPlay_5 x1 n v2 σ3 k = some y → (∀ (w0 : Int32) (τ : aM), k w0 τ = some y → K (51, [.ref 3, .int x1, .int w0], [], τ)) → K (5, [.ref 3, .int x1, .int v2], [], σ3) := by
  intro n
  induction n with
  | zero =>
    intro v2 σ3 h hk
    exact absurd h (by simp [l_X1_insertPlay_5])
  | succ n ih =>
    intro v2 σ3 h hk
    unfold l_X1_insertPlay_5 at h
    rcases ite_cases h with ⟨c4, h⟩ | ⟨c4, h⟩
    · refine hw 2 _ ?_
      show ((v2 ≤ 0) → K (51, [.ref 3, .int x1, .int v2], [], σ3)) ∧ (¬ (v2 ≤ 0) → K (9, [.ref 3, .int x1, .int v2], [], σ3))
      refine ⟨fun _ => ?_, fun q => absurd c4 q⟩
      exact hk v2 σ3 h
    · refine hw 2 _ ?_
      show ((v2 ≤ 0) → K (51, [.ref 3, .int x1, .int v2], [], σ3)) ∧ (¬ (v2 ≤ 0) → K (9, [.ref 3, .int x1, .int v2], [], σ3))
      refine ⟨fun q => absurd q c4, fun _ => ?_⟩
      obtain ⟨g5, h⟩ := ite_some h
      obtain ⟨g6, h⟩ := ite_some h
      obtain ⟨g7, h⟩ := ite_some h
      rcases ite_cases h with ⟨c8, h⟩ | ⟨c8, h⟩
      · refine hw 14 _ ?_
        show kd 17 = 1 ∧ (inb (v2 - 1) 20 = true ∧ (kd 15 = 1 ∧ (inb (σ3 17 (ix (v2 - 1))) 20 = true ∧ (kd 15 = 1 ∧ (inb x1 20 = true ∧ ((((σ3 15 (ix (σ3 17 (ix (v2 - 1))))) ≤ (σ3 15 (ix x1))) → K (51, [.ref 3, .int x1, .int v2], [], σ3)) ∧ (¬ ((σ3 15 (ix (σ3 17 (ix (v2 - 1))))) ≤ (σ3 15 (ix x1))) → K (31, [.ref 3, .int x1, .int v2], [], σ3))))))))
        refine ⟨rfl, g5, rfl, g6, rfl, g7, ⟨fun _ => ?_, fun q => absurd c8 q⟩⟩
        exact hk v2 σ3 h
      · refine hw 14 _ ?_
        show kd 17 = 1 ∧ (inb (v2 - 1) 20 = true ∧ (kd 15 = 1 ∧ (inb (σ3 17 (ix (v2 - 1))) 20 = true ∧ (kd 15 = 1 ∧ (inb x1 20 = true ∧ ((((σ3 15 (ix (σ3 17 (ix (v2 - 1))))) ≤ (σ3 15 (ix x1))) → K (51, [.ref 3, .int x1, .int v2], [], σ3)) ∧ (¬ ((σ3 15 (ix (σ3 17 (ix (v2 - 1))))) ≤ (σ3 15 (ix x1))) → K (31, [.ref 3, .int x1, .int v2], [], σ3))))))))
        refine ⟨rfl, g5, rfl, g6, rfl, g7, ⟨fun q => absurd q c8, fun _ => ?_⟩⟩
        obtain ⟨g9, h⟩ := ite_some h
        obtain ⟨g10, h⟩ := ite_some h
        refine hw 12 _ ?_
        show kd 17 = 1 ∧ (inb (v2 - 1) 20 = true ∧ (kd 17 = 1 ∧ (inb v2 20 = true ∧ (K (5, [.ref 3, .int x1, .int (v2 + (-1))], [], mput σ3 17 (ix v2) (σ3 17 (ix (v2 - 1))))))))
        refine ⟨rfl, g9, rfl, g10, ?_⟩
        exact ih (v2 + (-1)) (mput σ3 17 (ix v2) (σ3 17 (ix (v2 - 1)))) h hk

set_option maxHeartbeats 4000000 in
set_option maxRecDepth 100000 in
theorem s_X1_insertPlay : runs T_X1_insertPlay [.ref 3] 3 F_X1_insertPlay := by
  intro Qa K hw hf As σ r σ' h hQ
  unfold F_X1_insertPlay at h
  split at h
  · rename_i p0
    unfold f_X1_insertPlay at h
    have hQ : Qa (r, σ').1 (r, σ').2 := hQ
    generalize (r, σ') = y at h hQ
    show K (0, [.ref 3, .int p0, .null], [], σ)
    refine hw 3 _ ?_
    show K (5, [.ref 3, .int p0, .int (σ 3 10)], [], σ)
    refine t_X1_insertPlay_5 hw hf p0 _ _ lf (σ 3 10) σ h (fun v11 σ12 h => ?_)
    show K (51, [.ref 3, .int p0, .int v11], [], σ12)
    obtain ⟨g13, h⟩ := ite_some h
    obtain rfl := Option.some.inj h
    refine hw 12 _ ?_
    show kd 17 = 1 ∧ (inb v11 20 = true ∧ (Qa 0 (mput (mput σ12 17 (ix v11) p0) 3 10 ((σ12 3 10) + 1))))
    refine ⟨rfl, g13, hQ⟩
  · cases h
theorem h_X1_insertPlay : shp [.ref 3] 3 F_X1_insertPlay := by
  intro As σ r σ' h
  unfold F_X1_insertPlay at h
  split at h
  · exact ⟨by simp [Value.category], Nat.le_of_ble_eq_true rfl⟩
  · cases h
set_option maxHeartbeats 4000000 in
set_option maxRecDepth 100000 in
theorem c_X1_insertPlay (l : Launch) (D : va_G) (cI cZ cA : ClassId) (ad : Nat → Nat) (hi : adI ad) : CtV l yX1_insertPlay wsX1_insertPlay { frames := 0, cells := 0, slots := 0, locals := 0 } D cI cZ cA ad [.ref 3] F_X1_insertPlay := by
  refine mk_V [.ref 3] F_X1_insertPlay T_X1_insertPlay (by decide +kernel) rfl ?_ h_X1_insertPlay s_X1_insertPlay
  intro p e s m args below meth c Qa ⟨hx, hb, hml, hown, hts, hr, hlocks, hK, hN⟩
  have hin1 : ∀ w ∈ u_ws RX1 TX1 11, w ∈ wsX1_insertPlay := by decide +kernel
  have hl45 : (Cond.fieldLink RX1 45 RX1 (TX1 10).2.1 (TX1 10).2.2.1) ∈ wsX1_insertPlay := by decide +kernel
  have hl33 : (Cond.fieldLink RX1 33 RX1 (TX1 6).2.1 (TX1 6).2.2.1) ∈ wsX1_insertPlay := by decide +kernel
  have hl42 : (Cond.fieldLink RX1 42 RX1 (TX1 9).2.1 (TX1 9).2.2.1) ∈ wsX1_insertPlay := by decide +kernel
  refine ruL_c (n := 0) (n2 := 1) rfl (ru_aload_n (k := 0) hx hb dX1_insertPlay_0) ?_
  refine ruL_c (n := 1) (n2 := 2) rfl (ru_getI (own := RX1) (j := 10) (T := TX1) hx hb hown hK hts hin1 (by decide) rfl rfl (by decide) rfl hl45 dX1_insertPlay_1) ?_
  refine ruL_c (n := 2) (n2 := 3) rfl (ru_bot) ?_
  refine ruL_c (n := 3) (n2 := 4) rfl (ru_bot) ?_
  refine ruL_c (n := 4) (n2 := 5) rfl (ru_istore_n (k := 2) hx hb dX1_insertPlay_4) ?_
  refine ruL_c (n := 5) (n2 := 6) rfl (ru_iload_n (k := 2) hx hb dX1_insertPlay_5) ?_
  refine ruL_c (n := 6) (n2 := 7) rfl (ru_ifle hx hb dX1_insertPlay_6 (by decide)) ?_
  refine ruL_c (n := 7) (n2 := 8) rfl (ru_bot) ?_
  refine ruL_c (n := 8) (n2 := 9) rfl (ru_bot) ?_
  refine ruL_c (n := 9) (n2 := 10) rfl (ru_aload_n (k := 0) hx hb dX1_insertPlay_9) ?_
  refine ruL_c (n := 10) (n2 := 11) rfl (ru_getR (own := RX1) (j := 6) (T := TX1) hx hb hown hK hts hin1 (by decide) rfl rfl (by decide) rfl hl33 dX1_insertPlay_10) ?_
  refine ruL_c (n := 11) (n2 := 12) rfl (ru_bot) ?_
  refine ruL_c (n := 12) (n2 := 13) rfl (ru_bot) ?_
  refine ruL_c (n := 13) (n2 := 14) rfl (ru_aload_n (k := 0) hx hb dX1_insertPlay_13) ?_
  refine ruL_c (n := 14) (n2 := 15) rfl (ru_getR (own := RX1) (j := 9) (T := TX1) hx hb hown hK hts hin1 (by decide) rfl rfl (by decide) rfl hl42 dX1_insertPlay_14) ?_
  refine ruL_c (n := 15) (n2 := 16) rfl (ru_bot) ?_
  refine ruL_c (n := 16) (n2 := 17) rfl (ru_bot) ?_
  refine ruL_c (n := 17) (n2 := 18) rfl (ru_iload_n (k := 2) hx hb dX1_insertPlay_17) ?_
  refine ruL_c (n := 18) (n2 := 19) rfl (ru_iconst hx hb dX1_insertPlay_18 rfl) ?_
  refine ruL_c (n := 19) (n2 := 20) rfl (ru_isub hx hb dX1_insertPlay_19) ?_
  refine ruL_c (n := 20) (n2 := 21) rfl (ru_iald hx hb hK dX1_insertPlay_20) ?_
  refine ruL_c (n := 21) (n2 := 22) rfl (ru_iald hx hb hK dX1_insertPlay_21) ?_
  refine ruL_c (n := 22) (n2 := 23) rfl (ru_aload_n (k := 0) hx hb dX1_insertPlay_22) ?_
  refine ruL_c (n := 23) (n2 := 24) rfl (ru_getR (own := RX1) (j := 6) (T := TX1) hx hb hown hK hts hin1 (by decide) rfl rfl (by decide) rfl hl33 dX1_insertPlay_23) ?_
  refine ruL_c (n := 24) (n2 := 25) rfl (ru_bot) ?_
  refine ruL_c (n := 25) (n2 := 26) rfl (ru_bot) ?_
  refine ruL_c (n := 26) (n2 := 27) rfl (ru_iload_n (k := 1) hx hb dX1_insertPlay_26) ?_
  refine ruL_c (n := 27) (n2 := 28) rfl (ru_iald hx hb hK dX1_insertPlay_27) ?_
  refine ruL_c (n := 28) (n2 := 29) rfl (ru_icmple hx hb dX1_insertPlay_28 (by decide)) ?_
  refine ruL_c (n := 29) (n2 := 30) rfl (ru_bot) ?_
  refine ruL_c (n := 30) (n2 := 31) rfl (ru_bot) ?_
  refine ruL_c (n := 31) (n2 := 32) rfl (ru_aload_n (k := 0) hx hb dX1_insertPlay_31) ?_
  refine ruL_c (n := 32) (n2 := 33) rfl (ru_getR (own := RX1) (j := 9) (T := TX1) hx hb hown hK hts hin1 (by decide) rfl rfl (by decide) rfl hl42 dX1_insertPlay_32) ?_
  refine ruL_c (n := 33) (n2 := 34) rfl (ru_bot) ?_
  refine ruL_c (n := 34) (n2 := 35) rfl (ru_bot) ?_
  refine ruL_c (n := 35) (n2 := 36) rfl (ru_iload_n (k := 2) hx hb dX1_insertPlay_35) ?_
  refine ruL_c (n := 36) (n2 := 37) rfl (ru_aload_n (k := 0) hx hb dX1_insertPlay_36) ?_
  refine ruL_c (n := 37) (n2 := 38) rfl (ru_getR (own := RX1) (j := 9) (T := TX1) hx hb hown hK hts hin1 (by decide) rfl rfl (by decide) rfl hl42 dX1_insertPlay_37) ?_
  refine ruL_c (n := 38) (n2 := 39) rfl (ru_bot) ?_
  refine ruL_c (n := 39) (n2 := 40) rfl (ru_bot) ?_
  refine ruL_c (n := 40) (n2 := 41) rfl (ru_iload_n (k := 2) hx hb dX1_insertPlay_40) ?_
  refine ruL_c (n := 41) (n2 := 42) rfl (ru_iconst hx hb dX1_insertPlay_41 rfl) ?_
  refine ruL_c (n := 42) (n2 := 43) rfl (ru_isub hx hb dX1_insertPlay_42) ?_
  refine ruL_c (n := 43) (n2 := 44) rfl (ru_iald hx hb hK dX1_insertPlay_43) ?_
  refine ruL_c (n := 44) (n2 := 45) rfl (ru_iast hx hb hK hi dX1_insertPlay_44) ?_
  refine ruL_c (n := 45) (n2 := 46) rfl (ru_iinc hx hb dX1_insertPlay_45 rfl) ?_
  refine ruL_c (n := 46) (n2 := 47) rfl (ru_bot) ?_
  refine ruL_c (n := 47) (n2 := 48) rfl (ru_bot) ?_
  refine ruL_c (n := 48) (n2 := 49) rfl (ru_goto hx hb dX1_insertPlay_48 (by decide)) ?_
  refine ruL_c (n := 49) (n2 := 50) rfl (ru_bot) ?_
  refine ruL_c (n := 50) (n2 := 51) rfl (ru_bot) ?_
  refine ruL_c (n := 51) (n2 := 52) rfl (ru_aload_n (k := 0) hx hb dX1_insertPlay_51) ?_
  refine ruL_c (n := 52) (n2 := 53) rfl (ru_getR (own := RX1) (j := 9) (T := TX1) hx hb hown hK hts hin1 (by decide) rfl rfl (by decide) rfl hl42 dX1_insertPlay_52) ?_
  refine ruL_c (n := 53) (n2 := 54) rfl (ru_bot) ?_
  refine ruL_c (n := 54) (n2 := 55) rfl (ru_bot) ?_
  refine ruL_c (n := 55) (n2 := 56) rfl (ru_iload_n (k := 2) hx hb dX1_insertPlay_55) ?_
  refine ruL_c (n := 56) (n2 := 57) rfl (ru_iload_n (k := 1) hx hb dX1_insertPlay_56) ?_
  refine ruL_c (n := 57) (n2 := 58) rfl (ru_iast hx hb hK hi dX1_insertPlay_57) ?_
  refine ruL_c (n := 58) (n2 := 59) rfl (ru_aload_n (k := 0) hx hb dX1_insertPlay_58) ?_
  refine ruL_c (n := 59) (n2 := 60) rfl (ru_dup hx hb dX1_insertPlay_59) ?_
  refine ruL_c (n := 60) (n2 := 61) rfl (ru_getI (own := RX1) (j := 10) (T := TX1) hx hb hown hK hts hin1 (by decide) rfl rfl (by decide) rfl hl45 dX1_insertPlay_60) ?_
  refine ruL_c (n := 61) (n2 := 62) rfl (ru_bot) ?_
  refine ruL_c (n := 62) (n2 := 63) rfl (ru_bot) ?_
  refine ruL_c (n := 63) (n2 := 64) rfl (ru_iconst hx hb dX1_insertPlay_63 rfl) ?_
  refine ruL_c (n := 64) (n2 := 65) rfl (ru_iadd hx hb dX1_insertPlay_64) ?_
  refine ruL_c (n := 65) (n2 := 66) rfl (ru_putI (own := RX1) (j := 10) (T := TX1) hx hb hown hK hi hts hin1 tyX1 tyX1_ok nmX1 (by decide) rfl rfl (by decide) rfl hl45 rfl (by decide +kernel) dX1_insertPlay_65) ?_
  refine ruL_c (n := 66) (n2 := 67) rfl (ru_bot) ?_
  refine ruL_c (n := 67) (n2 := 68) rfl (ru_bot) ?_
  refine ruL_c (n := 68) (n2 := 69) rfl (ru_vret hx hb hK hr hlocks dX1_insertPlay_68) ?_
  exact trivial

-- CueTour$CueList.sortPlays
def l_X1_sortPlays_7 : Nat → Int32 → aM → (Int32 → aM → Option (Int32 × aM)) → Option (Int32 × aM)
  | 0, _, _, _ => none
  | n + 1, v1, σ2, k => if (σ2 3 4) ≤ v1 then k v1 σ2 else if inb v1 20 = true then if inb (σ2 14 (ix v1)) 20 = true then if (σ2 15 (ix (σ2 14 (ix v1)))) = ((-1)) then l_X1_sortPlays_7 n (v1 + 1) σ2 k else if inb v1 20 = true then bnd (f_X1_insertPlay (σ2 14 (ix v1)) σ2) (fun r8 σ9 => l_X1_sortPlays_7 n (v1 + 1) σ9 k) else none else none else none
def f_X1_sortPlays (σ : aM) : Option (Int32 × aM) := l_X1_sortPlays_7 lf 0 (mput σ 3 10 0) (fun v11 σ12 => some (0, σ12))
def F_X1_sortPlays : aF := fun As σ => match As with
  | [] => f_X1_sortPlays σ
  | _ => none
def T_X1_sortPlays (Qa : Int32 → aM → Prop) : List aI := [I_aload 0 1, I_const 0 1, I_putI 3 10, I_bot, I_bot, I_const 0 1, I_istore 1 1, I_iload 1 1, I_aload 0 1, I_getI 3 4, I_bot, I_bot, I_icmp (fun x y => y ≤ x) 46, I_bot, I_bot, I_aload 0 1, I_getR 3 15, I_bot, I_bot, I_aload 0 1, I_getR 3 14, I_bot, I_bot, I_iload 1 1, I_iald, I_iald, I_const (-1) 1, I_icmp (fun x y => x = y) 40, I_bot, I_bot, I_aload 0 1, I_aload 0 1, I_getR 3 14, I_bot, I_bot, I_iload 1 1, I_iald, I_callVv 3 1 F_X1_insertPlay, I_bot, I_bot, I_iinc 1 (1), I_bot, I_bot, I_goto 7, I_bot, I_bot, I_vret Qa]
set_option maxHeartbeats 4000000 in
set_option maxRecDepth 100000 in
theorem t_X1_sortPlays_7 {Qa : Int32 → aM → Prop} {K : aS → Prop} (hw : ∀ k x, wp (T_X1_sortPlays Qa) k K x → K x) (hf : ∀ pc L i st σ, K (pc, L.set i .null, st, σ) → K (pc, L, st, σ)) (y : Int32 × aM) (k : Int32 → aM → Option (Int32 × aM)) :
    ∀ (n : Nat) (v1 : Int32) (σ2 : aM), l_X1_sortPlays_7 n v1 σ2 k = some y → (∀ (w0 : Int32) (τ : aM), k w0 τ = some y → K (46, [.ref 3, .int w0], [], τ)) → K (7, [.ref 3, .int v1], [], σ2) := by
  intro n
  induction n with
  | zero =>
    intro v1 σ2 h hk
    exact absurd h (by simp [l_X1_sortPlays_7])
  | succ n ih =>
    intro v1 σ2 h hk
    unfold l_X1_sortPlays_7 at h
    rcases ite_cases h with ⟨c3, h⟩ | ⟨c3, h⟩
    · refine hw 4 _ ?_
      show (((σ2 3 4) ≤ v1) → K (46, [.ref 3, .int v1], [], σ2)) ∧ (¬ ((σ2 3 4) ≤ v1) → K (15, [.ref 3, .int v1], [], σ2))
      refine ⟨fun _ => ?_, fun q => absurd c3 q⟩
      exact hk v1 σ2 h
    · refine hw 4 _ ?_
      show (((σ2 3 4) ≤ v1) → K (46, [.ref 3, .int v1], [], σ2)) ∧ (¬ ((σ2 3 4) ≤ v1) → K (15, [.ref 3, .int v1], [], σ2))
      refine ⟨fun q => absurd q c3, fun _ => ?_⟩
      obtain ⟨g4, h⟩ := ite_some h
      obtain ⟨g5, h⟩ := ite_some h
      rcases ite_cases h with ⟨c6, h⟩ | ⟨c6, h⟩
      · refine hw 9 _ ?_
        show kd 14 = 1 ∧ (inb v1 20 = true ∧ (kd 15 = 1 ∧ (inb (σ2 14 (ix v1)) 20 = true ∧ ((((σ2 15 (ix (σ2 14 (ix v1)))) = ((-1))) → K (40, [.ref 3, .int v1], [], σ2)) ∧ (¬ ((σ2 15 (ix (σ2 14 (ix v1)))) = ((-1))) → K (30, [.ref 3, .int v1], [], σ2))))))
        refine ⟨rfl, g4, rfl, g5, ⟨fun _ => ?_, fun q => absurd c6 q⟩⟩
        refine hw 2 _ ?_
        show K (7, [.ref 3, .int (v1 + 1)], [], σ2)
        exact ih (v1 + 1) σ2 h hk
      · refine hw 9 _ ?_
        show kd 14 = 1 ∧ (inb v1 20 = true ∧ (kd 15 = 1 ∧ (inb (σ2 14 (ix v1)) 20 = true ∧ ((((σ2 15 (ix (σ2 14 (ix v1)))) = ((-1))) → K (40, [.ref 3, .int v1], [], σ2)) ∧ (¬ ((σ2 15 (ix (σ2 14 (ix v1)))) = ((-1))) → K (30, [.ref 3, .int v1], [], σ2))))))
        refine ⟨rfl, g4, rfl, g5, ⟨fun q => absurd q c6, fun _ => ?_⟩⟩
        obtain ⟨g7, h⟩ := ite_some h
        obtain ⟨r8, σ9, e10, h⟩ := bnd_some h
        refine hw 6 _ ?_
        show kd 14 = 1 ∧ (inb v1 20 = true ∧ (∃ r8 σ9, f_X1_insertPlay (σ2 14 (ix v1)) σ2 = some (r8, σ9) ∧ K (40, [.ref 3, .int v1], [], σ9)))
        refine ⟨rfl, g7, ⟨r8, σ9, e10, ?_⟩⟩
        refine hw 2 _ ?_
        show K (7, [.ref 3, .int (v1 + 1)], [], σ9)
        exact ih (v1 + 1) σ9 h hk

set_option maxHeartbeats 4000000 in
set_option maxRecDepth 100000 in
theorem s_X1_sortPlays : runs T_X1_sortPlays [.ref 3] 2 F_X1_sortPlays := by
  intro Qa K hw hf As σ r σ' h hQ
  unfold F_X1_sortPlays at h
  split at h
  · unfold f_X1_sortPlays at h
    have hQ : Qa (r, σ').1 (r, σ').2 := hQ
    generalize (r, σ') = y at h hQ
    show K (0, [.ref 3, .null], [], σ)
    refine hw 5 _ ?_
    show K (7, [.ref 3, .int 0], [], mput σ 3 10 0)
    refine t_X1_sortPlays_7 hw hf _ _ lf 0 (mput σ 3 10 0) h (fun v11 σ12 h => ?_)
    show K (46, [.ref 3, .int v11], [], σ12)
    obtain rfl := Option.some.inj h
    refine hw 1 _ ?_
    show Qa 0 σ12
    refine hQ
  · cases h
theorem h_X1_sortPlays : shp [.ref 3] 2 F_X1_sortPlays := by
  intro As σ r σ' h
  unfold F_X1_sortPlays at h
  split at h
  · exact ⟨by simp [Value.category], Nat.le_of_ble_eq_true rfl⟩
  · cases h
set_option maxHeartbeats 4000000 in
set_option maxRecDepth 100000 in
theorem c_X1_sortPlays (l : Launch) (D : va_G) (cI cZ cA : ClassId) (ad : Nat → Nat) (hi : adI ad) : CtV l yX1_sortPlays wsX1_sortPlays { frames := 1, cells := 0, slots := 0, locals := 22 } D cI cZ cA ad [.ref 3] F_X1_sortPlays := by
  refine mk_V [.ref 3] F_X1_sortPlays T_X1_sortPlays (by decide +kernel) rfl ?_ h_X1_sortPlays s_X1_sortPlays
  intro p e s m args below meth c Qa ⟨hx, hb, hml, hown, hts, hr, hlocks, hK, hN⟩
  have hin1 : ∀ w ∈ u_ws RX1 TX1 11, w ∈ wsX1_sortPlays := by decide +kernel
  have hl45 : (Cond.fieldLink RX1 45 RX1 (TX1 10).2.1 (TX1 10).2.2.1) ∈ wsX1_sortPlays := by decide +kernel
  have hl26 : (Cond.fieldLink RX1 26 RX1 (TX1 4).2.1 (TX1 4).2.2.1) ∈ wsX1_sortPlays := by decide +kernel
  have hl33 : (Cond.fieldLink RX1 33 RX1 (TX1 6).2.1 (TX1 6).2.2.1) ∈ wsX1_sortPlays := by decide +kernel
  have hl30 : (Cond.fieldLink RX1 30 RX1 (TX1 5).2.1 (TX1 5).2.2.1) ∈ wsX1_sortPlays := by decide +kernel
  refine ruL_c (n := 0) (n2 := 1) rfl (ru_aload_n (k := 0) hx hb dX1_sortPlays_0) ?_
  refine ruL_c (n := 1) (n2 := 2) rfl (ru_iconst hx hb dX1_sortPlays_1 rfl) ?_
  refine ruL_c (n := 2) (n2 := 3) rfl (ru_putI (own := RX1) (j := 10) (T := TX1) hx hb hown hK hi hts hin1 tyX1 tyX1_ok nmX1 (by decide) rfl rfl (by decide) rfl hl45 rfl (by decide +kernel) dX1_sortPlays_2) ?_
  refine ruL_c (n := 3) (n2 := 4) rfl (ru_bot) ?_
  refine ruL_c (n := 4) (n2 := 5) rfl (ru_bot) ?_
  refine ruL_c (n := 5) (n2 := 6) rfl (ru_iconst hx hb dX1_sortPlays_5 rfl) ?_
  refine ruL_c (n := 6) (n2 := 7) rfl (ru_istore_n (k := 1) hx hb dX1_sortPlays_6) ?_
  refine ruL_c (n := 7) (n2 := 8) rfl (ru_iload_n (k := 1) hx hb dX1_sortPlays_7) ?_
  refine ruL_c (n := 8) (n2 := 9) rfl (ru_aload_n (k := 0) hx hb dX1_sortPlays_8) ?_
  refine ruL_c (n := 9) (n2 := 10) rfl (ru_getI (own := RX1) (j := 4) (T := TX1) hx hb hown hK hts hin1 (by decide) rfl rfl (by decide) rfl hl26 dX1_sortPlays_9) ?_
  refine ruL_c (n := 10) (n2 := 11) rfl (ru_bot) ?_
  refine ruL_c (n := 11) (n2 := 12) rfl (ru_bot) ?_
  refine ruL_c (n := 12) (n2 := 13) rfl (ru_icmpge hx hb dX1_sortPlays_12 (by decide)) ?_
  refine ruL_c (n := 13) (n2 := 14) rfl (ru_bot) ?_
  refine ruL_c (n := 14) (n2 := 15) rfl (ru_bot) ?_
  refine ruL_c (n := 15) (n2 := 16) rfl (ru_aload_n (k := 0) hx hb dX1_sortPlays_15) ?_
  refine ruL_c (n := 16) (n2 := 17) rfl (ru_getR (own := RX1) (j := 6) (T := TX1) hx hb hown hK hts hin1 (by decide) rfl rfl (by decide) rfl hl33 dX1_sortPlays_16) ?_
  refine ruL_c (n := 17) (n2 := 18) rfl (ru_bot) ?_
  refine ruL_c (n := 18) (n2 := 19) rfl (ru_bot) ?_
  refine ruL_c (n := 19) (n2 := 20) rfl (ru_aload_n (k := 0) hx hb dX1_sortPlays_19) ?_
  refine ruL_c (n := 20) (n2 := 21) rfl (ru_getR (own := RX1) (j := 5) (T := TX1) hx hb hown hK hts hin1 (by decide) rfl rfl (by decide) rfl hl30 dX1_sortPlays_20) ?_
  refine ruL_c (n := 21) (n2 := 22) rfl (ru_bot) ?_
  refine ruL_c (n := 22) (n2 := 23) rfl (ru_bot) ?_
  refine ruL_c (n := 23) (n2 := 24) rfl (ru_iload_n (k := 1) hx hb dX1_sortPlays_23) ?_
  refine ruL_c (n := 24) (n2 := 25) rfl (ru_iald hx hb hK dX1_sortPlays_24) ?_
  refine ruL_c (n := 25) (n2 := 26) rfl (ru_iald hx hb hK dX1_sortPlays_25) ?_
  refine ruL_c (n := 26) (n2 := 27) rfl (ru_iconst hx hb dX1_sortPlays_26 rfl) ?_
  refine ruL_c (n := 27) (n2 := 28) rfl (ru_icmpeq hx hb dX1_sortPlays_27 (by decide)) ?_
  refine ruL_c (n := 28) (n2 := 29) rfl (ru_bot) ?_
  refine ruL_c (n := 29) (n2 := 30) rfl (ru_bot) ?_
  refine ruL_c (n := 30) (n2 := 31) rfl (ru_aload_n (k := 0) hx hb dX1_sortPlays_30) ?_
  refine ruL_c (n := 31) (n2 := 32) rfl (ru_aload_n (k := 0) hx hb dX1_sortPlays_31) ?_
  refine ruL_c (n := 32) (n2 := 33) rfl (ru_getR (own := RX1) (j := 5) (T := TX1) hx hb hown hK hts hin1 (by decide) rfl rfl (by decide) rfl hl30 dX1_sortPlays_32) ?_
  refine ruL_c (n := 33) (n2 := 34) rfl (ru_bot) ?_
  refine ruL_c (n := 34) (n2 := 35) rfl (ru_bot) ?_
  refine ruL_c (n := 35) (n2 := 36) rfl (ru_iload_n (k := 1) hx hb dX1_sortPlays_35) ?_
  refine ruL_c (n := 36) (n2 := 37) rfl (ru_iald hx hb hK dX1_sortPlays_36) ?_
  refine ruL_c (n := 37) (n2 := 38) rfl (ru_callVv hx hb hml hown hts hK hN (by decide) rfl (c_X1_insertPlay l D cI cZ cA ad hi) (cwV 1 hts gX1_sortPlays_X1_insertPlay rfl rfl rfl (by decide +kernel) ⟨Nat.le_of_ble_eq_true rfl, Nat.le_of_ble_eq_true rfl⟩) dX1_sortPlays_37 ⟨Nat.zero_le _, Nat.zero_le _⟩) ?_
  refine ruL_c (n := 38) (n2 := 39) rfl (ru_bot) ?_
  refine ruL_c (n := 39) (n2 := 40) rfl (ru_bot) ?_
  refine ruL_c (n := 40) (n2 := 41) rfl (ru_iinc hx hb dX1_sortPlays_40 rfl) ?_
  refine ruL_c (n := 41) (n2 := 42) rfl (ru_bot) ?_
  refine ruL_c (n := 42) (n2 := 43) rfl (ru_bot) ?_
  refine ruL_c (n := 43) (n2 := 44) rfl (ru_goto hx hb dX1_sortPlays_43 (by decide)) ?_
  refine ruL_c (n := 44) (n2 := 45) rfl (ru_bot) ?_
  refine ruL_c (n := 45) (n2 := 46) rfl (ru_bot) ?_
  refine ruL_c (n := 46) (n2 := 47) rfl (ru_vret hx hb hK hr hlocks dX1_sortPlays_46) ?_
  exact trivial

-- CueTour$CueList.arrange
def f_X1_arrange (σ : aM) : Option (Int32 × aM) := bnd (f_X1_sortCues σ) (fun r1 σ2 => bnd (f_X1_setTimes σ2) (fun r4 σ5 => bnd (f_X1_fold σ5) (fun r7 σ8 => bnd (f_X1_sortPlays σ8) (fun r10 σ11 => some (0, σ11)))))
def F_X1_arrange : aF := fun As σ => match As with
  | [.ref 1] => f_X1_arrange σ
  | _ => none
def T_X1_arrange (Qa : Int32 → aM → Prop) : List aI := [I_aload 0 1, I_callVv 3 0 F_X1_sortCues, I_bot, I_bot, I_aload 0 1, I_aload 1 1, I_callVv 3 1 F_X1_setTimes, I_bot, I_bot, I_aload 0 1, I_callVv 3 0 F_X1_fold, I_bot, I_bot, I_aload 0 1, I_callVv 3 0 F_X1_sortPlays, I_bot, I_bot, I_vret Qa]
set_option maxHeartbeats 4000000 in
set_option maxRecDepth 100000 in
theorem s_X1_arrange : runs T_X1_arrange [.ref 3] 2 F_X1_arrange := by
  intro Qa K hw hf As σ r σ' h hQ
  unfold F_X1_arrange at h
  split at h
  · unfold f_X1_arrange at h
    have hQ : Qa (r, σ').1 (r, σ').2 := hQ
    generalize (r, σ') = y at h hQ
    show K (0, [.ref 3, .ref 1], [], σ)
    obtain ⟨r1, σ2, e3, h⟩ := bnd_some h
    refine hw 2 _ ?_
    show ∃ r1 σ2, f_X1_sortCues σ = some (r1, σ2) ∧ K (4, [.ref 3, .ref 1], [], σ2)
    refine ⟨r1, σ2, e3, ?_⟩
    obtain ⟨r4, σ5, e6, h⟩ := bnd_some h
    refine hw 3 _ ?_
    show ∃ r4 σ5, f_X1_setTimes σ2 = some (r4, σ5) ∧ K (9, [.ref 3, .ref 1], [], σ5)
    refine ⟨r4, σ5, e6, ?_⟩
    obtain ⟨r7, σ8, e9, h⟩ := bnd_some h
    refine hw 2 _ ?_
    show ∃ r7 σ8, f_X1_fold σ5 = some (r7, σ8) ∧ K (13, [.ref 3, .ref 1], [], σ8)
    refine ⟨r7, σ8, e9, ?_⟩
    obtain ⟨r10, σ11, e12, h⟩ := bnd_some h
    refine hw 2 _ ?_
    show ∃ r10 σ11, f_X1_sortPlays σ8 = some (r10, σ11) ∧ K (17, [.ref 3, .ref 1], [], σ11)
    refine ⟨r10, σ11, e12, ?_⟩
    obtain rfl := Option.some.inj h
    refine hw 1 _ ?_
    show Qa 0 σ11
    refine hQ
  · cases h
theorem h_X1_arrange : shp [.ref 3] 2 F_X1_arrange := by
  intro As σ r σ' h
  unfold F_X1_arrange at h
  split at h
  · exact ⟨by simp [Value.category], Nat.le_of_ble_eq_true rfl⟩
  · cases h
set_option maxHeartbeats 4000000 in
set_option maxRecDepth 100000 in
theorem c_X1_arrange (l : Launch) (D : va_G) (cI cZ cA : ClassId) (ad : Nat → Nat) (hi : adI ad) : CtV l yX1_arrange wsX1_arrange { frames := 2, cells := 0, slots := 0, locals := 46 } D cI cZ cA ad [.ref 3] F_X1_arrange := by
  refine mk_V [.ref 3] F_X1_arrange T_X1_arrange (by decide +kernel) rfl ?_ h_X1_arrange s_X1_arrange
  intro p e s m args below meth c Qa ⟨hx, hb, hml, hown, hts, hr, hlocks, hK, hN⟩
  refine ruL_c (n := 0) (n2 := 1) rfl (ru_aload_n (k := 0) hx hb dX1_arrange_0) ?_
  refine ruL_c (n := 1) (n2 := 2) rfl (ru_callVv hx hb hml hown hts hK hN (by decide) rfl (c_X1_sortCues l D cI cZ cA ad hi) (cwV 0 hts gX1_arrange_X1_sortCues rfl rfl rfl (by decide +kernel) ⟨Nat.le_of_ble_eq_true rfl, Nat.le_of_ble_eq_true rfl⟩) dX1_arrange_1 ⟨Nat.zero_le _, Nat.zero_le _⟩) ?_
  refine ruL_c (n := 2) (n2 := 3) rfl (ru_bot) ?_
  refine ruL_c (n := 3) (n2 := 4) rfl (ru_bot) ?_
  refine ruL_c (n := 4) (n2 := 5) rfl (ru_aload_n (k := 0) hx hb dX1_arrange_4) ?_
  refine ruL_c (n := 5) (n2 := 6) rfl (ru_aload_n (k := 1) hx hb dX1_arrange_5) ?_
  refine ruL_c (n := 6) (n2 := 7) rfl (ru_callVv hx hb hml hown hts hK hN (by decide) rfl (c_X1_setTimes l D cI cZ cA ad hi) (cwV 1 hts gX1_arrange_X1_setTimes rfl rfl rfl (by decide +kernel) ⟨Nat.le_of_ble_eq_true rfl, Nat.le_of_ble_eq_true rfl⟩) dX1_arrange_6 ⟨Nat.zero_le _, Nat.zero_le _⟩) ?_
  refine ruL_c (n := 7) (n2 := 8) rfl (ru_bot) ?_
  refine ruL_c (n := 8) (n2 := 9) rfl (ru_bot) ?_
  refine ruL_c (n := 9) (n2 := 10) rfl (ru_aload_n (k := 0) hx hb dX1_arrange_9) ?_
  refine ruL_c (n := 10) (n2 := 11) rfl (ru_callVv hx hb hml hown hts hK hN (by decide) rfl (c_X1_fold l D cI cZ cA ad hi) (cwV 0 hts gX1_arrange_X1_fold rfl rfl rfl (by decide +kernel) ⟨Nat.le_of_ble_eq_true rfl, Nat.le_of_ble_eq_true rfl⟩) dX1_arrange_10 ⟨Nat.zero_le _, Nat.zero_le _⟩) ?_
  refine ruL_c (n := 11) (n2 := 12) rfl (ru_bot) ?_
  refine ruL_c (n := 12) (n2 := 13) rfl (ru_bot) ?_
  refine ruL_c (n := 13) (n2 := 14) rfl (ru_aload_n (k := 0) hx hb dX1_arrange_13) ?_
  refine ruL_c (n := 14) (n2 := 15) rfl (ru_callVv hx hb hml hown hts hK hN (by decide) rfl (c_X1_sortPlays l D cI cZ cA ad hi) (cwV 0 hts gX1_arrange_X1_sortPlays rfl rfl rfl (by decide +kernel) ⟨Nat.le_of_ble_eq_true rfl, Nat.le_of_ble_eq_true rfl⟩) dX1_arrange_14 ⟨Nat.zero_le _, Nat.zero_le _⟩) ?_
  refine ruL_c (n := 15) (n2 := 16) rfl (ru_bot) ?_
  refine ruL_c (n := 16) (n2 := 17) rfl (ru_bot) ?_
  refine ruL_c (n := 17) (n2 := 18) rfl (ru_vret hx hb hK hr hlocks dX1_arrange_17) ?_
  exact trivial

-- CueTour$CueList.levelBehind
def f_X1_levelBehind (p0 : Int32) (p1 : Int32) (p2 : Int32) (p3 : Int32) (σ : aM) : Option (Int32 × aM) := if p1 ≤ 0 then some (p3, σ) else if p0 < p1 then if ¬ p1 = 0 then some (p2 + (((p3 - p2) * p0) / p1), σ) else none else some (p3, σ)
def F_X1_levelBehind : aF := fun As σ => match As with
  | [.int p0, .int p1, .int p2, .int p3] => f_X1_levelBehind p0 p1 p2 p3 σ
  | _ => none
def T_X1_levelBehind (Qa : Int32 → aM → Prop) : List aI := [I_iload 1 1, I_if (fun x => x ≤ 0) 9, I_bot, I_bot, I_iload 0 1, I_iload 1 1, I_icmp (fun x y => x < y) 11, I_bot, I_bot, I_iload 3 1, I_iret Qa, I_iload 2 1, I_iload 3 1, I_iload 2 1, I_bin fun x y => x - y, I_iload 0 1, I_bin fun x y => x * y, I_iload 1 1, I_div fun x y => x / y, I_bin fun x y => x + y, I_iret Qa]
set_option maxHeartbeats 4000000 in
set_option maxRecDepth 100000 in
theorem s_X1_levelBehind : runs T_X1_levelBehind [] 4 F_X1_levelBehind := by
  intro Qa K hw hf As σ r σ' h hQ
  unfold F_X1_levelBehind at h
  split at h
  · rename_i p0 p1 p2 p3
    unfold f_X1_levelBehind at h
    have hQ : Qa (r, σ').1 (r, σ').2 := hQ
    generalize (r, σ') = y at h hQ
    show K (0, [.int p0, .int p1, .int p2, .int p3], [], σ)
    rcases ite_cases h with ⟨c1, h⟩ | ⟨c1, h⟩
    · refine hw 2 _ ?_
      show ((p1 ≤ 0) → K (9, [.int p0, .int p1, .int p2, .int p3], [], σ)) ∧ (¬ (p1 ≤ 0) → K (4, [.int p0, .int p1, .int p2, .int p3], [], σ))
      refine ⟨fun _ => ?_, fun q => absurd c1 q⟩
      obtain rfl := Option.some.inj h
      refine hw 2 _ ?_
      show Qa p3 σ
      refine hQ
    · refine hw 2 _ ?_
      show ((p1 ≤ 0) → K (9, [.int p0, .int p1, .int p2, .int p3], [], σ)) ∧ (¬ (p1 ≤ 0) → K (4, [.int p0, .int p1, .int p2, .int p3], [], σ))
      refine ⟨fun q => absurd q c1, fun _ => ?_⟩
      rcases ite_cases h with ⟨c2, h⟩ | ⟨c2, h⟩
      · refine hw 3 _ ?_
        show ((p0 < p1) → K (11, [.int p0, .int p1, .int p2, .int p3], [], σ)) ∧ (¬ (p0 < p1) → K (9, [.int p0, .int p1, .int p2, .int p3], [], σ))
        refine ⟨fun _ => ?_, fun q => absurd c2 q⟩
        obtain ⟨g3, h⟩ := ite_some h
        obtain rfl := Option.some.inj h
        refine hw 10 _ ?_
        show ¬ p1 = 0 ∧ (Qa (p2 + (((p3 - p2) * p0) / p1)) σ)
        refine ⟨g3, hQ⟩
      · refine hw 3 _ ?_
        show ((p0 < p1) → K (11, [.int p0, .int p1, .int p2, .int p3], [], σ)) ∧ (¬ (p0 < p1) → K (9, [.int p0, .int p1, .int p2, .int p3], [], σ))
        refine ⟨fun q => absurd q c2, fun _ => ?_⟩
        obtain rfl := Option.some.inj h
        refine hw 2 _ ?_
        show Qa p3 σ
        refine hQ
  · cases h
theorem h_X1_levelBehind : shp [] 4 F_X1_levelBehind := by
  intro As σ r σ' h
  unfold F_X1_levelBehind at h
  split at h
  · exact ⟨by simp [Value.category], Nat.le_of_ble_eq_true rfl⟩
  · cases h
set_option maxHeartbeats 4000000 in
set_option maxRecDepth 100000 in
theorem c_X1_levelBehind (l : Launch) (D : va_G) (cI cZ cA : ClassId) (ad : Nat → Nat) (hi : adI ad) : CtI l yX1_levelBehind wsX1_levelBehind { frames := 0, cells := 0, slots := 0, locals := 0 } D cI cZ cA ad [] F_X1_levelBehind := by
  refine mk_I [] F_X1_levelBehind T_X1_levelBehind (by decide +kernel) rfl ?_ h_X1_levelBehind s_X1_levelBehind
  intro p e s m args below meth c Qa ⟨hx, hb, hml, hown, hts, hr, hlocks, hK, hN⟩
  refine ruL_c (n := 0) (n2 := 1) rfl (ru_iload_n (k := 1) hx hb dX1_levelBehind_0) ?_
  refine ruL_c (n := 1) (n2 := 2) rfl (ru_ifle hx hb dX1_levelBehind_1 (by decide)) ?_
  refine ruL_c (n := 2) (n2 := 3) rfl (ru_bot) ?_
  refine ruL_c (n := 3) (n2 := 4) rfl (ru_bot) ?_
  refine ruL_c (n := 4) (n2 := 5) rfl (ru_iload_n (k := 0) hx hb dX1_levelBehind_4) ?_
  refine ruL_c (n := 5) (n2 := 6) rfl (ru_iload_n (k := 1) hx hb dX1_levelBehind_5) ?_
  refine ruL_c (n := 6) (n2 := 7) rfl (ru_icmplt hx hb dX1_levelBehind_6 (by decide)) ?_
  refine ruL_c (n := 7) (n2 := 8) rfl (ru_bot) ?_
  refine ruL_c (n := 8) (n2 := 9) rfl (ru_bot) ?_
  refine ruL_c (n := 9) (n2 := 10) rfl (ru_iload_n (k := 3) hx hb dX1_levelBehind_9) ?_
  refine ruL_c (n := 10) (n2 := 11) rfl (ru_iret hx hb hK hr hlocks dX1_levelBehind_10) ?_
  refine ruL_c (n := 11) (n2 := 12) rfl (ru_iload_n (k := 2) hx hb dX1_levelBehind_11) ?_
  refine ruL_c (n := 12) (n2 := 13) rfl (ru_iload_n (k := 3) hx hb dX1_levelBehind_12) ?_
  refine ruL_c (n := 13) (n2 := 14) rfl (ru_iload_n (k := 2) hx hb dX1_levelBehind_13) ?_
  refine ruL_c (n := 14) (n2 := 15) rfl (ru_isub hx hb dX1_levelBehind_14) ?_
  refine ruL_c (n := 15) (n2 := 16) rfl (ru_iload_n (k := 0) hx hb dX1_levelBehind_15) ?_
  refine ruL_c (n := 16) (n2 := 17) rfl (ru_imul hx hb dX1_levelBehind_16) ?_
  refine ruL_c (n := 17) (n2 := 18) rfl (ru_iload_n (k := 1) hx hb dX1_levelBehind_17) ?_
  refine ruL_c (n := 18) (n2 := 19) rfl (ru_idiv hx hb dX1_levelBehind_18) ?_
  refine ruL_c (n := 19) (n2 := 20) rfl (ru_iadd hx hb dX1_levelBehind_19) ?_
  refine ruL_c (n := 20) (n2 := 21) rfl (ru_iret hx hb hK hr hlocks dX1_levelBehind_20) ?_
  exact trivial

-- CueTour$CueList.levelByFades
def l_X1_levelByFades_14 (x1 : Int32) (x2 : Int32) : Nat → Int32 → Int32 → Int32 → Int32 → Int32 → aM → (Int32 → Int32 → Int32 → Int32 → Int32 → aM → Option (Int32 × aM)) → Option (Int32 × aM)
  | 0, _, _, _, _, _, _, _ => none
  | n + 1, v3, v4, v5, v6, v7, σ8, k => if (σ8 3 10) ≤ v7 then k v3 v4 v5 v6 v7 σ8 else if inb v7 20 = true then if inb (σ8 17 (ix v7)) 20 = true then if x2 < (σ8 15 (ix (σ8 17 (ix v7)))) then k v3 v4 v5 v6 v7 σ8 else if inb v7 20 = true then if inb (σ8 17 (ix v7)) 20 = true then if inb x1 10 = true then if (σ8 (108 + ix (σ8 17 (ix v7))) (ix x1)) = ((-1)) then l_X1_levelByFades_14 x1 x2 n v3 v4 v5 v6 (v7 + 1) σ8 k else if inb (σ8 17 (ix v7)) 20 = true then bnd (f_X1_levelBehind ((σ8 15 (ix (σ8 17 (ix v7)))) - v5) v6 v3 v4 σ8) (fun r18 σ19 => if inb (σ8 17 (ix v7)) 20 = true then if inb x1 10 = true then if inb (σ8 17 (ix v7)) 20 = true then if inb (σ8 17 (ix v7)) 20 = true then l_X1_levelByFades_14 x1 x2 n r18 (σ19 (108 + ix (σ8 17 (ix v7))) (ix x1)) (σ19 15 (ix (σ8 17 (ix v7)))) (σ19 13 (ix (σ8 17 (ix v7)))) (v7 + 1) σ19 k else none else none else none else none) else none else none else none else none else none else none
def f_X1_levelByFades (p0 : Int32) (p1 : Int32) (σ : aM) : Option (Int32 × aM) := l_X1_levelByFades_14 p0 p1 lf 0 0 0 0 0 σ (fun v25 v26 v27 v28 v29 σ30 => bnd (f_X1_levelBehind (p1 - v27) v28 v25 v26 σ30) (fun r31 σ32 => some (r31, σ32)))
def F_X1_levelByFades : aF := fun As σ => match As with
  | [.int p0, .int p1] => f_X1_levelByFades p0 p1 σ
  | _ => none
def T_X1_levelByFades (Qa : Int32 → aM → Prop) : List aI := [I_const 0 1, I_istore 3 1, I_const 0 1, I_istore 4 2, I_bot, I_const 0 1, I_istore 5 2, I_bot, I_const 0 1, I_istore 6 2, I_bot, I_const 0 1, I_istore 7 2, I_bot, I_iload 7 2, I_bot, I_aload 0 1, I_getI 3 10, I_bot, I_bot, I_icmp (fun x y => y ≤ x) 115, I_bot, I_bot, I_aload 0 1, I_getR 3 15, I_bot, I_bot, I_aload 0 1, I_getR 3 17, I_bot, I_bot, I_iload 7 2, I_bot, I_iald, I_iald, I_iload 2 1, I_icmp (fun x y => y < x) 115, I_bot, I_bot, I_aload 0 1, I_getR 3 17, I_bot, I_bot, I_iload 7 2, I_bot, I_iald, I_istore 8 2, I_bot, I_aload 0 1, I_getR 3 55, I_bot, I_bot, I_iload 8 2, I_bot, I_aald, I_iload 1 1, I_iald, I_const (-1) 1, I_icmp (fun x y => x = y) 109, I_bot, I_bot, I_aload 0 1, I_getR 3 15, I_bot, I_bot, I_iload 8 2, I_bot, I_iald, I_iload 5 2, I_bot, I_bin fun x y => x - y, I_iload 6 2, I_bot, I_iload 3 1, I_iload 4 2, I_bot, I_callS 4 F_X1_levelBehind, I_bot, I_bot, I_istore 3 1, I_aload 0 1, I_getR 3 55, I_bot, I_bot, I_iload 8 2, I_bot, I_aald, I_iload 1 1, I_iald, I_istore 4 2, I_bot, I_aload 0 1, I_getR 3 15, I_bot, I_bot, I_iload 8 2, I_bot, I_iald, I_istore 5 2, I_bot, I_aload 0 1, I_getR 3 13, I_bot, I_bot, I_iload 8 2, I_bot, I_iald, I_istore 6 2, I_bot, I_iinc 7 (1), I_bot, I_bot, I_goto 14, I_bot, I_bot, I_iload 2 1, I_iload 5 2, I_bot, I_bin fun x y => x - y, I_iload 6 2, I_bot, I_iload 3 1, I_iload 4 2, I_bot, I_callS 4 F_X1_levelBehind, I_bot, I_bot, I_iret Qa]
set_option maxHeartbeats 4000000 in
set_option maxRecDepth 100000 in
theorem t_X1_levelByFades_14 {Qa : Int32 → aM → Prop} {K : aS → Prop} (hw : ∀ k x, wp (T_X1_levelByFades Qa) k K x → K x) (hf : ∀ pc L i st σ, K (pc, L.set i .null, st, σ) → K (pc, L, st, σ)) (x1 : Int32) (x2 : Int32) (y : Int32 × aM) (k : Int32 → Int32 → Int32 → Int32 → Int32 → aM → Option (Int32 × aM)) :
    ∀ (n : Nat) (v3 : Int32) (v4 : Int32) (v5 : Int32) (v6 : Int32) (v7 : Int32) (σ8 : aM), l_X1_levelByFades_14 x1 x2 n v3 v4 v5 v6 v7 σ8 k = some y → (∀ (w0 : Int32) (w1 : Int32) (w2 : Int32) (w3 : Int32) (w4 : Int32) (τ : aM), k w0 w1 w2 w3 w4 τ = some y → K (115, [.ref 3, .int x1, .int x2, .int w0, .int w1, .int w2, .int w3, .int w4, .null], [], τ)) → K (14, [.ref 3, .int x1, .int x2, .int v3, .int v4, .int v5, .int v6, .int v7, .null], [], σ8) := by
  intro n
  induction n with
  | zero =>
    intro v3 v4 v5 v6 v7 σ8 h hk
    exact absurd h (by simp [l_X1_levelByFades_14])
  | succ n ih =>
    intro v3 v4 v5 v6 v7 σ8 h hk
    unfold l_X1_levelByFades_14 at h
    rcases ite_cases h with ⟨c9, h⟩ | ⟨c9, h⟩
    · refine hw 4 _ ?_
      show (((σ8 3 10) ≤ v7) → K (115, [.ref 3, .int x1, .int x2, .int v3, .int v4, .int v5, .int v6, .int v7, .null], [], σ8)) ∧ (¬ ((σ8 3 10) ≤ v7) → K (23, [.ref 3, .int x1, .int x2, .int v3, .int v4, .int v5, .int v6, .int v7, .null], [], σ8))
      refine ⟨fun _ => ?_, fun q => absurd c9 q⟩
      exact hk v3 v4 v5 v6 v7 σ8 h
    · refine hw 4 _ ?_
      show (((σ8 3 10) ≤ v7) → K (115, [.ref 3, .int x1, .int x2, .int v3, .int v4, .int v5, .int v6, .int v7, .null], [], σ8)) ∧ (¬ ((σ8 3 10) ≤ v7) → K (23, [.ref 3, .int x1, .int x2, .int v3, .int v4, .int v5, .int v6, .int v7, .null], [], σ8))
      refine ⟨fun q => absurd q c9, fun _ => ?_⟩
      obtain ⟨g10, h⟩ := ite_some h
      obtain ⟨g11, h⟩ := ite_some h
      rcases ite_cases h with ⟨c12, h⟩ | ⟨c12, h⟩
      · refine hw 9 _ ?_
        show kd 17 = 1 ∧ (inb v7 20 = true ∧ (kd 15 = 1 ∧ (inb (σ8 17 (ix v7)) 20 = true ∧ (((x2 < (σ8 15 (ix (σ8 17 (ix v7))))) → K (115, [.ref 3, .int x1, .int x2, .int v3, .int v4, .int v5, .int v6, .int v7, .null], [], σ8)) ∧ (¬ (x2 < (σ8 15 (ix (σ8 17 (ix v7))))) → K (39, [.ref 3, .int x1, .int x2, .int v3, .int v4, .int v5, .int v6, .int v7, .null], [], σ8))))))
        refine ⟨rfl, g10, rfl, g11, ⟨fun _ => ?_, fun q => absurd c12 q⟩⟩
        exact hk v3 v4 v5 v6 v7 σ8 h
      · refine hw 9 _ ?_
        show kd 17 = 1 ∧ (inb v7 20 = true ∧ (kd 15 = 1 ∧ (inb (σ8 17 (ix v7)) 20 = true ∧ (((x2 < (σ8 15 (ix (σ8 17 (ix v7))))) → K (115, [.ref 3, .int x1, .int x2, .int v3, .int v4, .int v5, .int v6, .int v7, .null], [], σ8)) ∧ (¬ (x2 < (σ8 15 (ix (σ8 17 (ix v7))))) → K (39, [.ref 3, .int x1, .int x2, .int v3, .int v4, .int v5, .int v6, .int v7, .null], [], σ8))))))
        refine ⟨rfl, g10, rfl, g11, ⟨fun q => absurd q c12, fun _ => ?_⟩⟩
        obtain ⟨g13, h⟩ := ite_some h
        obtain ⟨g14, h⟩ := ite_some h
        obtain ⟨g15, h⟩ := ite_some h
        rcases ite_cases h with ⟨c16, h⟩ | ⟨c16, h⟩
        · refine hw 13 _ ?_
          show kd 17 = 1 ∧ (inb v7 20 = true ∧ (kd 55 = 3 ∧ (inb (σ8 17 (ix v7)) 20 = true ∧ (kd (108 + ix (σ8 17 (ix v7))) = 1 ∧ (inb x1 (ln (108 + ix (σ8 17 (ix v7)))) = true ∧ ((((σ8 (108 + ix (σ8 17 (ix v7))) (ix x1)) = ((-1))) → K (109, [.ref 3, .int x1, .int x2, .int v3, .int v4, .int v5, .int v6, .int v7, .int (σ8 17 (ix v7))], [], σ8)) ∧ (¬ ((σ8 (108 + ix (σ8 17 (ix v7))) (ix x1)) = ((-1))) → K (61, [.ref 3, .int x1, .int x2, .int v3, .int v4, .int v5, .int v6, .int v7, .int (σ8 17 (ix v7))], [], σ8))))))))
          refine ⟨rfl, g13, rfl, g14, (row55_kd g14), (by rw [row55_ln g14]; exact g15), ⟨fun _ => ?_, fun q => absurd c16 q⟩⟩
          refine hw 2 _ ?_
          show K (14, [.ref 3, .int x1, .int x2, .int v3, .int v4, .int v5, .int v6, .int (v7 + 1), .int (σ8 17 (ix v7))], [], σ8)
          refine hf _ _ 8 _ _ ?_
          show K (14, [.ref 3, .int x1, .int x2, .int v3, .int v4, .int v5, .int v6, .int (v7 + 1), .null], [], σ8)
          exact ih v3 v4 v5 v6 (v7 + 1) σ8 h hk
        · refine hw 13 _ ?_
          show kd 17 = 1 ∧ (inb v7 20 = true ∧ (kd 55 = 3 ∧ (inb (σ8 17 (ix v7)) 20 = true ∧ (kd (108 + ix (σ8 17 (ix v7))) = 1 ∧ (inb x1 (ln (108 + ix (σ8 17 (ix v7)))) = true ∧ ((((σ8 (108 + ix (σ8 17 (ix v7))) (ix x1)) = ((-1))) → K (109, [.ref 3, .int x1, .int x2, .int v3, .int v4, .int v5, .int v6, .int v7, .int (σ8 17 (ix v7))], [], σ8)) ∧ (¬ ((σ8 (108 + ix (σ8 17 (ix v7))) (ix x1)) = ((-1))) → K (61, [.ref 3, .int x1, .int x2, .int v3, .int v4, .int v5, .int v6, .int v7, .int (σ8 17 (ix v7))], [], σ8))))))))
          refine ⟨rfl, g13, rfl, g14, (row55_kd g14), (by rw [row55_ln g14]; exact g15), ⟨fun q => absurd q c16, fun _ => ?_⟩⟩
          obtain ⟨g17, h⟩ := ite_some h
          obtain ⟨r18, σ19, e20, h⟩ := bnd_some h
          refine hw 10 _ ?_
          show kd 15 = 1 ∧ (inb (σ8 17 (ix v7)) 20 = true ∧ (∃ r18 σ19, f_X1_levelBehind ((σ8 15 (ix (σ8 17 (ix v7)))) - v5) v6 v3 v4 σ8 = some (r18, σ19) ∧ K (79, [.ref 3, .int x1, .int x2, .int v3, .int v4, .int v5, .int v6, .int v7, .int (σ8 17 (ix v7))], [.int r18], σ19)))
          refine ⟨rfl, g17, ⟨r18, σ19, e20, ?_⟩⟩
          obtain ⟨g21, h⟩ := ite_some h
          obtain ⟨g22, h⟩ := ite_some h
          obtain ⟨g23, h⟩ := ite_some h
          obtain ⟨g24, h⟩ := ite_some h
          refine hw 20 _ ?_
          show kd 55 = 3 ∧ (inb (σ8 17 (ix v7)) 20 = true ∧ (kd (108 + ix (σ8 17 (ix v7))) = 1 ∧ (inb x1 (ln (108 + ix (σ8 17 (ix v7)))) = true ∧ (kd 15 = 1 ∧ (inb (σ8 17 (ix v7)) 20 = true ∧ (kd 13 = 1 ∧ (inb (σ8 17 (ix v7)) 20 = true ∧ (K (14, [.ref 3, .int x1, .int x2, .int r18, .int (σ19 (108 + ix (σ8 17 (ix v7))) (ix x1)), .int (σ19 15 (ix (σ8 17 (ix v7)))), .int (σ19 13 (ix (σ8 17 (ix v7)))), .int (v7 + 1), .int (σ8 17 (ix v7))], [], σ19)))))))))
          refine ⟨rfl, g21, (row55_kd g21), (by rw [row55_ln g21]; exact g22), rfl, g23, rfl, g24, ?_⟩
          refine hf _ _ 8 _ _ ?_
          show K (14, [.ref 3, .int x1, .int x2, .int r18, .int (σ19 (108 + ix (σ8 17 (ix v7))) (ix x1)), .int (σ19 15 (ix (σ8 17 (ix v7)))), .int (σ19 13 (ix (σ8 17 (ix v7)))), .int (v7 + 1), .null], [], σ19)
          exact ih r18 (σ19 (108 + ix (σ8 17 (ix v7))) (ix x1)) (σ19 15 (ix (σ8 17 (ix v7)))) (σ19 13 (ix (σ8 17 (ix v7)))) (v7 + 1) σ19 h hk

set_option maxHeartbeats 4000000 in
set_option maxRecDepth 100000 in
theorem s_X1_levelByFades : runs T_X1_levelByFades [.ref 3] 9 F_X1_levelByFades := by
  intro Qa K hw hf As σ r σ' h hQ
  unfold F_X1_levelByFades at h
  split at h
  · rename_i p0 p1
    unfold f_X1_levelByFades at h
    have hQ : Qa (r, σ').1 (r, σ').2 := hQ
    generalize (r, σ') = y at h hQ
    show K (0, [.ref 3, .int p0, .int p1, .null, .null, .null, .null, .null, .null], [], σ)
    refine hw 10 _ ?_
    show K (14, [.ref 3, .int p0, .int p1, .int 0, .int 0, .int 0, .int 0, .int 0, .null], [], σ)
    refine t_X1_levelByFades_14 hw hf p0 p1 _ _ lf 0 0 0 0 0 σ h (fun v25 v26 v27 v28 v29 σ30 h => ?_)
    show K (115, [.ref 3, .int p0, .int p1, .int v25, .int v26, .int v27, .int v28, .int v29, .null], [], σ30)
    obtain ⟨r31, σ32, e33, h⟩ := bnd_some h
    refine hw 7 _ ?_
    show ∃ r31 σ32, f_X1_levelBehind (p1 - v27) v28 v25 v26 σ30 = some (r31, σ32) ∧ K (127, [.ref 3, .int p0, .int p1, .int v25, .int v26, .int v27, .int v28, .int v29, .null], [.int r31], σ32)
    refine ⟨r31, σ32, e33, ?_⟩
    obtain rfl := Option.some.inj h
    refine hw 1 _ ?_
    show Qa r31 σ32
    refine hQ
  · cases h
theorem h_X1_levelByFades : shp [.ref 3] 9 F_X1_levelByFades := by
  intro As σ r σ' h
  unfold F_X1_levelByFades at h
  split at h
  · exact ⟨by simp [Value.category], Nat.le_of_ble_eq_true rfl⟩
  · cases h
set_option maxHeartbeats 4000000 in
set_option maxRecDepth 100000 in
theorem c_X1_levelByFades (l : Launch) (D : va_G) (cI cZ cA : ClassId) (ad : Nat → Nat) (hi : adI ad) : CtI l yX1_levelByFades wsX1_levelByFades { frames := 1, cells := 0, slots := 0, locals := 23 } D cI cZ cA ad [.ref 3] F_X1_levelByFades := by
  refine mk_I [.ref 3] F_X1_levelByFades T_X1_levelByFades (by decide +kernel) rfl ?_ h_X1_levelByFades s_X1_levelByFades
  intro p e s m args below meth c Qa ⟨hx, hb, hml, hown, hts, hr, hlocks, hK, hN⟩
  have hin1 : ∀ w ∈ u_ws RX1 TX1 11, w ∈ wsX1_levelByFades := by decide +kernel
  have hl45 : (Cond.fieldLink RX1 45 RX1 (TX1 10).2.1 (TX1 10).2.2.1) ∈ wsX1_levelByFades := by decide +kernel
  have hl33 : (Cond.fieldLink RX1 33 RX1 (TX1 6).2.1 (TX1 6).2.2.1) ∈ wsX1_levelByFades := by decide +kernel
  have hl42 : (Cond.fieldLink RX1 42 RX1 (TX1 9).2.1 (TX1 9).2.2.1) ∈ wsX1_levelByFades := by decide +kernel
  have hl39 : (Cond.fieldLink RX1 39 RX1 (TX1 8).2.1 (TX1 8).2.2.1) ∈ wsX1_levelByFades := by decide +kernel
  have hl18 : (Cond.fieldLink RX1 18 RX1 (TX1 2).2.1 (TX1 2).2.2.1) ∈ wsX1_levelByFades := by decide +kernel
  refine ruL_c (n := 0) (n2 := 1) rfl (ru_iconst hx hb dX1_levelByFades_0 rfl) ?_
  refine ruL_c (n := 1) (n2 := 2) rfl (ru_istore_n (k := 3) hx hb dX1_levelByFades_1) ?_
  refine ruL_c (n := 2) (n2 := 3) rfl (ru_iconst hx hb dX1_levelByFades_2 rfl) ?_
  refine ruL_c (n := 3) (n2 := 4) rfl (ru_istore hx hb dX1_levelByFades_3) ?_
  refine ruL_c (n := 4) (n2 := 5) rfl (ru_bot) ?_
  refine ruL_c (n := 5) (n2 := 6) rfl (ru_iconst hx hb dX1_levelByFades_5 rfl) ?_
  refine ruL_c (n := 6) (n2 := 7) rfl (ru_istore hx hb dX1_levelByFades_6) ?_
  refine ruL_c (n := 7) (n2 := 8) rfl (ru_bot) ?_
  refine ruL_c (n := 8) (n2 := 9) rfl (ru_iconst hx hb dX1_levelByFades_8 rfl) ?_
  refine ruL_c (n := 9) (n2 := 10) rfl (ru_istore hx hb dX1_levelByFades_9) ?_
  refine ruL_c (n := 10) (n2 := 11) rfl (ru_bot) ?_
  refine ruL_c (n := 11) (n2 := 12) rfl (ru_iconst hx hb dX1_levelByFades_11 rfl) ?_
  refine ruL_c (n := 12) (n2 := 13) rfl (ru_istore hx hb dX1_levelByFades_12) ?_
  refine ruL_c (n := 13) (n2 := 14) rfl (ru_bot) ?_
  refine ruL_c (n := 14) (n2 := 15) rfl (ru_iload hx hb dX1_levelByFades_14) ?_
  refine ruL_c (n := 15) (n2 := 16) rfl (ru_bot) ?_
  refine ruL_c (n := 16) (n2 := 17) rfl (ru_aload_n (k := 0) hx hb dX1_levelByFades_16) ?_
  refine ruL_c (n := 17) (n2 := 18) rfl (ru_getI (own := RX1) (j := 10) (T := TX1) hx hb hown hK hts hin1 (by decide) rfl rfl (by decide) rfl hl45 dX1_levelByFades_17) ?_
  refine ruL_c (n := 18) (n2 := 19) rfl (ru_bot) ?_
  refine ruL_c (n := 19) (n2 := 20) rfl (ru_bot) ?_
  refine ruL_c (n := 20) (n2 := 21) rfl (ru_icmpge hx hb dX1_levelByFades_20 (by decide)) ?_
  refine ruL_c (n := 21) (n2 := 22) rfl (ru_bot) ?_
  refine ruL_c (n := 22) (n2 := 23) rfl (ru_bot) ?_
  refine ruL_c (n := 23) (n2 := 24) rfl (ru_aload_n (k := 0) hx hb dX1_levelByFades_23) ?_
  refine ruL_c (n := 24) (n2 := 25) rfl (ru_getR (own := RX1) (j := 6) (T := TX1) hx hb hown hK hts hin1 (by decide) rfl rfl (by decide) rfl hl33 dX1_levelByFades_24) ?_
  refine ruL_c (n := 25) (n2 := 26) rfl (ru_bot) ?_
  refine ruL_c (n := 26) (n2 := 27) rfl (ru_bot) ?_
  refine ruL_c (n := 27) (n2 := 28) rfl (ru_aload_n (k := 0) hx hb dX1_levelByFades_27) ?_
  refine ruL_c (n := 28) (n2 := 29) rfl (ru_getR (own := RX1) (j := 9) (T := TX1) hx hb hown hK hts hin1 (by decide) rfl rfl (by decide) rfl hl42 dX1_levelByFades_28) ?_
  refine ruL_c (n := 29) (n2 := 30) rfl (ru_bot) ?_
  refine ruL_c (n := 30) (n2 := 31) rfl (ru_bot) ?_
  refine ruL_c (n := 31) (n2 := 32) rfl (ru_iload hx hb dX1_levelByFades_31) ?_
  refine ruL_c (n := 32) (n2 := 33) rfl (ru_bot) ?_
  refine ruL_c (n := 33) (n2 := 34) rfl (ru_iald hx hb hK dX1_levelByFades_33) ?_
  refine ruL_c (n := 34) (n2 := 35) rfl (ru_iald hx hb hK dX1_levelByFades_34) ?_
  refine ruL_c (n := 35) (n2 := 36) rfl (ru_iload_n (k := 2) hx hb dX1_levelByFades_35) ?_
  refine ruL_c (n := 36) (n2 := 37) rfl (ru_icmpgt hx hb dX1_levelByFades_36 (by decide)) ?_
  refine ruL_c (n := 37) (n2 := 38) rfl (ru_bot) ?_
  refine ruL_c (n := 38) (n2 := 39) rfl (ru_bot) ?_
  refine ruL_c (n := 39) (n2 := 40) rfl (ru_aload_n (k := 0) hx hb dX1_levelByFades_39) ?_
  refine ruL_c (n := 40) (n2 := 41) rfl (ru_getR (own := RX1) (j := 9) (T := TX1) hx hb hown hK hts hin1 (by decide) rfl rfl (by decide) rfl hl42 dX1_levelByFades_40) ?_
  refine ruL_c (n := 41) (n2 := 42) rfl (ru_bot) ?_
  refine ruL_c (n := 42) (n2 := 43) rfl (ru_bot) ?_
  refine ruL_c (n := 43) (n2 := 44) rfl (ru_iload hx hb dX1_levelByFades_43) ?_
  refine ruL_c (n := 44) (n2 := 45) rfl (ru_bot) ?_
  refine ruL_c (n := 45) (n2 := 46) rfl (ru_iald hx hb hK dX1_levelByFades_45) ?_
  refine ruL_c (n := 46) (n2 := 47) rfl (ru_istore hx hb dX1_levelByFades_46) ?_
  refine ruL_c (n := 47) (n2 := 48) rfl (ru_bot) ?_
  refine ruL_c (n := 48) (n2 := 49) rfl (ru_aload_n (k := 0) hx hb dX1_levelByFades_48) ?_
  refine ruL_c (n := 49) (n2 := 50) rfl (ru_getR (own := RX1) (j := 8) (T := TX1) hx hb hown hK hts hin1 (by decide) rfl rfl (by decide) rfl hl39 dX1_levelByFades_49) ?_
  refine ruL_c (n := 50) (n2 := 51) rfl (ru_bot) ?_
  refine ruL_c (n := 51) (n2 := 52) rfl (ru_bot) ?_
  refine ruL_c (n := 52) (n2 := 53) rfl (ru_iload hx hb dX1_levelByFades_52) ?_
  refine ruL_c (n := 53) (n2 := 54) rfl (ru_bot) ?_
  refine ruL_c (n := 54) (n2 := 55) rfl (ru_aald hx hb hK dX1_levelByFades_54) ?_
  refine ruL_c (n := 55) (n2 := 56) rfl (ru_iload_n (k := 1) hx hb dX1_levelByFades_55) ?_
  refine ruL_c (n := 56) (n2 := 57) rfl (ru_iald hx hb hK dX1_levelByFades_56) ?_
  refine ruL_c (n := 57) (n2 := 58) rfl (ru_iconst hx hb dX1_levelByFades_57 rfl) ?_
  refine ruL_c (n := 58) (n2 := 59) rfl (ru_icmpeq hx hb dX1_levelByFades_58 (by decide)) ?_
  refine ruL_c (n := 59) (n2 := 60) rfl (ru_bot) ?_
  refine ruL_c (n := 60) (n2 := 61) rfl (ru_bot) ?_
  refine ruL_c (n := 61) (n2 := 62) rfl (ru_aload_n (k := 0) hx hb dX1_levelByFades_61) ?_
  refine ruL_c (n := 62) (n2 := 63) rfl (ru_getR (own := RX1) (j := 6) (T := TX1) hx hb hown hK hts hin1 (by decide) rfl rfl (by decide) rfl hl33 dX1_levelByFades_62) ?_
  refine ruL_c (n := 63) (n2 := 64) rfl (ru_bot) ?_
  refine ruL_c (n := 64) (n2 := 65) rfl (ru_bot) ?_
  refine ruL_c (n := 65) (n2 := 66) rfl (ru_iload hx hb dX1_levelByFades_65) ?_
  refine ruL_c (n := 66) (n2 := 67) rfl (ru_bot) ?_
  refine ruL_c (n := 67) (n2 := 68) rfl (ru_iald hx hb hK dX1_levelByFades_67) ?_
  refine ruL_c (n := 68) (n2 := 69) rfl (ru_iload hx hb dX1_levelByFades_68) ?_
  refine ruL_c (n := 69) (n2 := 70) rfl (ru_bot) ?_
  refine ruL_c (n := 70) (n2 := 71) rfl (ru_isub hx hb dX1_levelByFades_70) ?_
  refine ruL_c (n := 71) (n2 := 72) rfl (ru_iload hx hb dX1_levelByFades_71) ?_
  refine ruL_c (n := 72) (n2 := 73) rfl (ru_bot) ?_
  refine ruL_c (n := 73) (n2 := 74) rfl (ru_iload_n (k := 3) hx hb dX1_levelByFades_73) ?_
  refine ruL_c (n := 74) (n2 := 75) rfl (ru_iload hx hb dX1_levelByFades_74) ?_
  refine ruL_c (n := 75) (n2 := 76) rfl (ru_bot) ?_
  refine ruL_c (n := 76) (n2 := 77) rfl (ru_callS hx hb hml hown hts hK hN (c_X1_levelBehind l D cI cZ cA ad hi) (va_cwS 4 hts gX1_levelByFades_X1_levelBehind rfl rfl rfl (by decide +kernel) ⟨Nat.le_of_ble_eq_true rfl, Nat.le_of_ble_eq_true rfl⟩) dX1_levelByFades_76 ⟨Nat.zero_le _, Nat.zero_le _⟩) ?_
  refine ruL_c (n := 77) (n2 := 78) rfl (ru_bot) ?_
  refine ruL_c (n := 78) (n2 := 79) rfl (ru_bot) ?_
  refine ruL_c (n := 79) (n2 := 80) rfl (ru_istore_n (k := 3) hx hb dX1_levelByFades_79) ?_
  refine ruL_c (n := 80) (n2 := 81) rfl (ru_aload_n (k := 0) hx hb dX1_levelByFades_80) ?_
  refine ruL_c (n := 81) (n2 := 82) rfl (ru_getR (own := RX1) (j := 8) (T := TX1) hx hb hown hK hts hin1 (by decide) rfl rfl (by decide) rfl hl39 dX1_levelByFades_81) ?_
  refine ruL_c (n := 82) (n2 := 83) rfl (ru_bot) ?_
  refine ruL_c (n := 83) (n2 := 84) rfl (ru_bot) ?_
  refine ruL_c (n := 84) (n2 := 85) rfl (ru_iload hx hb dX1_levelByFades_84) ?_
  refine ruL_c (n := 85) (n2 := 86) rfl (ru_bot) ?_
  refine ruL_c (n := 86) (n2 := 87) rfl (ru_aald hx hb hK dX1_levelByFades_86) ?_
  refine ruL_c (n := 87) (n2 := 88) rfl (ru_iload_n (k := 1) hx hb dX1_levelByFades_87) ?_
  refine ruL_c (n := 88) (n2 := 89) rfl (ru_iald hx hb hK dX1_levelByFades_88) ?_
  refine ruL_c (n := 89) (n2 := 90) rfl (ru_istore hx hb dX1_levelByFades_89) ?_
  refine ruL_c (n := 90) (n2 := 91) rfl (ru_bot) ?_
  refine ruL_c (n := 91) (n2 := 92) rfl (ru_aload_n (k := 0) hx hb dX1_levelByFades_91) ?_
  refine ruL_c (n := 92) (n2 := 93) rfl (ru_getR (own := RX1) (j := 6) (T := TX1) hx hb hown hK hts hin1 (by decide) rfl rfl (by decide) rfl hl33 dX1_levelByFades_92) ?_
  refine ruL_c (n := 93) (n2 := 94) rfl (ru_bot) ?_
  refine ruL_c (n := 94) (n2 := 95) rfl (ru_bot) ?_
  refine ruL_c (n := 95) (n2 := 96) rfl (ru_iload hx hb dX1_levelByFades_95) ?_
  refine ruL_c (n := 96) (n2 := 97) rfl (ru_bot) ?_
  refine ruL_c (n := 97) (n2 := 98) rfl (ru_iald hx hb hK dX1_levelByFades_97) ?_
  refine ruL_c (n := 98) (n2 := 99) rfl (ru_istore hx hb dX1_levelByFades_98) ?_
  refine ruL_c (n := 99) (n2 := 100) rfl (ru_bot) ?_
  refine ruL_c (n := 100) (n2 := 101) rfl (ru_aload_n (k := 0) hx hb dX1_levelByFades_100) ?_
  refine ruL_c (n := 101) (n2 := 102) rfl (ru_getR (own := RX1) (j := 2) (T := TX1) hx hb hown hK hts hin1 (by decide) rfl rfl (by decide) rfl hl18 dX1_levelByFades_101) ?_
  refine ruL_c (n := 102) (n2 := 103) rfl (ru_bot) ?_
  refine ruL_c (n := 103) (n2 := 104) rfl (ru_bot) ?_
  refine ruL_c (n := 104) (n2 := 105) rfl (ru_iload hx hb dX1_levelByFades_104) ?_
  refine ruL_c (n := 105) (n2 := 106) rfl (ru_bot) ?_
  refine ruL_c (n := 106) (n2 := 107) rfl (ru_iald hx hb hK dX1_levelByFades_106) ?_
  refine ruL_c (n := 107) (n2 := 108) rfl (ru_istore hx hb dX1_levelByFades_107) ?_
  refine ruL_c (n := 108) (n2 := 109) rfl (ru_bot) ?_
  refine ruL_c (n := 109) (n2 := 110) rfl (ru_iinc hx hb dX1_levelByFades_109 rfl) ?_
  refine ruL_c (n := 110) (n2 := 111) rfl (ru_bot) ?_
  refine ruL_c (n := 111) (n2 := 112) rfl (ru_bot) ?_
  refine ruL_c (n := 112) (n2 := 113) rfl (ru_goto hx hb dX1_levelByFades_112 (by decide)) ?_
  refine ruL_c (n := 113) (n2 := 114) rfl (ru_bot) ?_
  refine ruL_c (n := 114) (n2 := 115) rfl (ru_bot) ?_
  refine ruL_c (n := 115) (n2 := 116) rfl (ru_iload_n (k := 2) hx hb dX1_levelByFades_115) ?_
  refine ruL_c (n := 116) (n2 := 117) rfl (ru_iload hx hb dX1_levelByFades_116) ?_
  refine ruL_c (n := 117) (n2 := 118) rfl (ru_bot) ?_
  refine ruL_c (n := 118) (n2 := 119) rfl (ru_isub hx hb dX1_levelByFades_118) ?_
  refine ruL_c (n := 119) (n2 := 120) rfl (ru_iload hx hb dX1_levelByFades_119) ?_
  refine ruL_c (n := 120) (n2 := 121) rfl (ru_bot) ?_
  refine ruL_c (n := 121) (n2 := 122) rfl (ru_iload_n (k := 3) hx hb dX1_levelByFades_121) ?_
  refine ruL_c (n := 122) (n2 := 123) rfl (ru_iload hx hb dX1_levelByFades_122) ?_
  refine ruL_c (n := 123) (n2 := 124) rfl (ru_bot) ?_
  refine ruL_c (n := 124) (n2 := 125) rfl (ru_callS hx hb hml hown hts hK hN (c_X1_levelBehind l D cI cZ cA ad hi) (va_cwS 4 hts gX1_levelByFades_X1_levelBehind rfl rfl rfl (by decide +kernel) ⟨Nat.le_of_ble_eq_true rfl, Nat.le_of_ble_eq_true rfl⟩) dX1_levelByFades_124 ⟨Nat.zero_le _, Nat.zero_le _⟩) ?_
  refine ruL_c (n := 125) (n2 := 126) rfl (ru_bot) ?_
  refine ruL_c (n := 126) (n2 := 127) rfl (ru_bot) ?_
  refine ruL_c (n := 127) (n2 := 128) rfl (ru_iret hx hb hK hr hlocks dX1_levelByFades_127) ?_
  exact trivial

-- CueTour$CueList.levelByTicks
def l_X1_levelByTicks_38 (x15 : Int32) (x16 : Int32) (x17 : Int32) : Nat → Int32 → Int32 → Int32 → Int32 → Int32 → Int32 → aM → (Int32 → Int32 → Int32 → Int32 → Int32 → Int32 → aM → Option (Int32 × aM)) → Option (Int32 × aM)
  | 0, _, _, _, _, _, _, _, _ => none
  | n + 1, v18, v19, v20, v21, v22, v23, σ24, k => if (σ24 3 10) ≤ v23 then k v18 v19 v20 v21 v22 v23 σ24 else if inb v23 20 = true then if inb (σ24 17 (ix v23)) 20 = true then if ¬ (σ24 15 (ix (σ24 17 (ix v23)))) = x17 then k v18 v19 v20 v21 v22 v23 σ24 else if inb v23 20 = true then if inb (σ24 17 (ix v23)) 20 = true then if inb x15 10 = true then if (σ24 (108 + ix (σ24 17 (ix v23))) (ix x15)) = ((-1)) then l_X1_levelByTicks_38 x15 x16 x17 n v18 v19 v20 v21 v22 (v23 + 1) σ24 k else if inb (σ24 17 (ix v23)) 20 = true then if inb x15 10 = true then if inb (σ24 17 (ix v23)) 20 = true then bnd (f_X1_levelBehind 0 (σ24 13 (ix (σ24 17 (ix v23)))) v18 (σ24 (108 + ix (σ24 17 (ix v23))) (ix x15)) σ24) (fun r36 σ37 => l_X1_levelByTicks_38 x15 x16 x17 n r36 v18 (σ24 (108 + ix (σ24 17 (ix v23))) (ix x15)) 0 (σ24 13 (ix (σ24 17 (ix v23)))) (v23 + 1) σ37 k) else none else none else none else none else none else none else none else none
def l_X1_levelByTicks_20 (x1 : Int32) (x2 : Int32) : Nat → Int32 → Int32 → Int32 → Int32 → Int32 → Int32 → Int32 → aM → (Int32 → Int32 → Int32 → Int32 → Int32 → Int32 → Int32 → aM → Option (Int32 × aM)) → Option (Int32 × aM)
  | 0, _, _, _, _, _, _, _, _, _ => none
  | n + 1, v3, v4, v5, v6, v7, v8, v9, σ10, k => if x2 < v9 then k v3 v4 v5 v6 v7 v8 v9 σ10 else bnd (f_X1_levelBehind v6 v7 v4 v5 σ10) (fun r12 σ13 => l_X1_levelByTicks_38 x1 x2 v9 lf r12 v4 v5 v6 v7 v8 σ13 (fun v39 v40 v41 v42 v43 v44 σ45 => l_X1_levelByTicks_20 x1 x2 n v39 v40 v41 (v42 + 1) v43 v44 (v9 + 1) σ45 k))
def f_X1_levelByTicks (p0 : Int32) (p1 : Int32) (σ : aM) : Option (Int32 × aM) := l_X1_levelByTicks_20 p0 p1 lf 0 0 0 0 0 0 0 σ (fun v46 v47 v48 v49 v50 v51 v52 σ53 => some (v46, σ53))
def F_X1_levelByTicks : aF := fun As σ => match As with
  | [.int p0, .int p1] => f_X1_levelByTicks p0 p1 σ
  | _ => none
def T_X1_levelByTicks (Qa : Int32 → aM → Prop) : List aI := [I_const 0 1, I_istore 3 1, I_const 0 1, I_istore 4 2, I_bot, I_const 0 1, I_istore 5 2, I_bot, I_const 0 1, I_istore 6 2, I_bot, I_const 0 1, I_istore 7 2, I_bot, I_const 0 1, I_istore 8 2, I_bot, I_const 0 1, I_istore 9 2, I_bot, I_iload 9 2, I_bot, I_iload 2 1, I_icmp (fun x y => y < x) 139, I_bot, I_bot, I_iload 6 2, I_bot, I_iload 7 2, I_bot, I_iload 4 2, I_bot, I_iload 5 2, I_bot, I_callS 4 F_X1_levelBehind, I_bot, I_bot, I_istore 3 1, I_iload 8 2, I_bot, I_aload 0 1, I_getI 3 10, I_bot, I_bot, I_icmp (fun x y => y ≤ x) 130, I_bot, I_bot, I_aload 0 1, I_getR 3 15, I_bot, I_bot, I_aload 0 1, I_getR 3 17, I_bot, I_bot, I_iload 8 2, I_bot, I_iald, I_iald, I_iload 9 2, I_bot, I_icmp (fun x y => ¬ x = y) 130, I_bot, I_bot, I_aload 0 1, I_getR 3 17, I_bot, I_bot, I_iload 8 2, I_bot, I_iald, I_istore 10 2, I_bot, I_aload 0 1, I_getR 3 55, I_bot, I_bot, I_iload 10 2, I_bot, I_aald, I_iload 1 1, I_iald, I_const (-1) 1, I_icmp (fun x y => x = y) 124, I_bot, I_bot, I_iload 3 1, I_istore 4 2, I_bot, I_aload 0 1, I_getR 3 55, I_bot, I_bot, I_iload 10 2, I_bot, I_aald, I_iload 1 1, I_iald, I_istore 5 2, I_bot, I_const 0 1, I_istore 6 2, I_bot, I_aload 0 1, I_getR 3 13, I_bot, I_bot, I_iload 10 2, I_bot, I_iald, I_istore 7 2, I_bot, I_iload 6 2, I_bot, I_iload 7 2, I_bot, I_iload 4 2, I_bot, I_iload 5 2, I_bot, I_callS 4 F_X1_levelBehind, I_bot, I_bot, I_istore 3 1, I_iinc 8 (1), I_bot, I_bot, I_goto 38, I_bot, I_bot, I_iinc 6 (1), I_bot, I_bot, I_iinc 9 (1), I_bot, I_bot, I_goto 20, I_bot, I_bot, I_iload 3 1, I_iret Qa]
set_option maxHeartbeats 4000000 in
set_option maxRecDepth 100000 in
theorem t_X1_levelByTicks_38 {Qa : Int32 → aM → Prop} {K : aS → Prop} (hw : ∀ k x, wp (T_X1_levelByTicks Qa) k K x → K x) (hf : ∀ pc L i st σ, K (pc, L.set i .null, st, σ) → K (pc, L, st, σ)) (x15 : Int32) (x16 : Int32) (x17 : Int32) (y : Int32 × aM) (k : Int32 → Int32 → Int32 → Int32 → Int32 → Int32 → aM → Option (Int32 × aM)) :
    ∀ (n : Nat) (v18 : Int32) (v19 : Int32) (v20 : Int32) (v21 : Int32) (v22 : Int32) (v23 : Int32) (σ24 : aM), l_X1_levelByTicks_38 x15 x16 x17 n v18 v19 v20 v21 v22 v23 σ24 k = some y → (∀ (w0 : Int32) (w1 : Int32) (w2 : Int32) (w3 : Int32) (w4 : Int32) (w5 : Int32) (τ : aM), k w0 w1 w2 w3 w4 w5 τ = some y → K (130, [.ref 3, .int x15, .int x16, .int w0, .int w1, .int w2, .int w3, .int w4, .int w5, .int x17, .null], [], τ)) → K (38, [.ref 3, .int x15, .int x16, .int v18, .int v19, .int v20, .int v21, .int v22, .int v23, .int x17, .null], [], σ24) := by
  intro n
  induction n with
  | zero =>
    intro v18 v19 v20 v21 v22 v23 σ24 h hk
    exact absurd h (by simp [l_X1_levelByTicks_38])
  | succ n ih =>
    intro v18 v19 v20 v21 v22 v23 σ24 h hk
    unfold l_X1_levelByTicks_38 at h
    rcases ite_cases h with ⟨c25, h⟩ | ⟨c25, h⟩
    · refine hw 4 _ ?_
      show (((σ24 3 10) ≤ v23) → K (130, [.ref 3, .int x15, .int x16, .int v18, .int v19, .int v20, .int v21, .int v22, .int v23, .int x17, .null], [], σ24)) ∧ (¬ ((σ24 3 10) ≤ v23) → K (47, [.ref 3, .int x15, .int x16, .int v18, .int v19, .int v20, .int v21, .int v22, .int v23, .int x17, .null], [], σ24))
      refine ⟨fun _ => ?_, fun q => absurd c25 q⟩
      exact hk v18 v19 v20 v21 v22 v23 σ24 h
    · refine hw 4 _ ?_
      show (((σ24 3 10) ≤ v23) → K (130, [.ref 3, .int x15, .int x16, .int v18, .int v19, .int v20, .int v21, .int v22, .int v23, .int x17, .null], [], σ24)) ∧ (¬ ((σ24 3 10) ≤ v23) → K (47, [.ref 3, .int x15, .int x16, .int v18, .int v19, .int v20, .int v21, .int v22, .int v23, .int x17, .null], [], σ24))
      refine ⟨fun q => absurd q c25, fun _ => ?_⟩
      obtain ⟨g26, h⟩ := ite_some h
      obtain ⟨g27, h⟩ := ite_some h
      rcases ite_cases h with ⟨c28, h⟩ | ⟨c28, h⟩
      · refine hw 9 _ ?_
        show kd 17 = 1 ∧ (inb v23 20 = true ∧ (kd 15 = 1 ∧ (inb (σ24 17 (ix v23)) 20 = true ∧ (((¬ (σ24 15 (ix (σ24 17 (ix v23)))) = x17) → K (130, [.ref 3, .int x15, .int x16, .int v18, .int v19, .int v20, .int v21, .int v22, .int v23, .int x17, .null], [], σ24)) ∧ (¬ (¬ (σ24 15 (ix (σ24 17 (ix v23)))) = x17) → K (64, [.ref 3, .int x15, .int x16, .int v18, .int v19, .int v20, .int v21, .int v22, .int v23, .int x17, .null], [], σ24))))))
        refine ⟨rfl, g26, rfl, g27, ⟨fun _ => ?_, fun q => absurd c28 q⟩⟩
        exact hk v18 v19 v20 v21 v22 v23 σ24 h
      · refine hw 9 _ ?_
        show kd 17 = 1 ∧ (inb v23 20 = true ∧ (kd 15 = 1 ∧ (inb (σ24 17 (ix v23)) 20 = true ∧ (((¬ (σ24 15 (ix (σ24 17 (ix v23)))) = x17) → K (130, [.ref 3, .int x15, .int x16, .int v18, .int v19, .int v20, .int v21, .int v22, .int v23, .int x17, .null], [], σ24)) ∧ (¬ (¬ (σ24 15 (ix (σ24 17 (ix v23)))) = x17) → K (64, [.ref 3, .int x15, .int x16, .int v18, .int v19, .int v20, .int v21, .int v22, .int v23, .int x17, .null], [], σ24))))))
        refine ⟨rfl, g26, rfl, g27, ⟨fun q => absurd q c28, fun _ => ?_⟩⟩
        obtain ⟨g29, h⟩ := ite_some h
        obtain ⟨g30, h⟩ := ite_some h
        obtain ⟨g31, h⟩ := ite_some h
        rcases ite_cases h with ⟨c32, h⟩ | ⟨c32, h⟩
        · refine hw 13 _ ?_
          show kd 17 = 1 ∧ (inb v23 20 = true ∧ (kd 55 = 3 ∧ (inb (σ24 17 (ix v23)) 20 = true ∧ (kd (108 + ix (σ24 17 (ix v23))) = 1 ∧ (inb x15 (ln (108 + ix (σ24 17 (ix v23)))) = true ∧ ((((σ24 (108 + ix (σ24 17 (ix v23))) (ix x15)) = ((-1))) → K (124, [.ref 3, .int x15, .int x16, .int v18, .int v19, .int v20, .int v21, .int v22, .int v23, .int x17, .int (σ24 17 (ix v23))], [], σ24)) ∧ (¬ ((σ24 (108 + ix (σ24 17 (ix v23))) (ix x15)) = ((-1))) → K (86, [.ref 3, .int x15, .int x16, .int v18, .int v19, .int v20, .int v21, .int v22, .int v23, .int x17, .int (σ24 17 (ix v23))], [], σ24))))))))
          refine ⟨rfl, g29, rfl, g30, (row55_kd g30), (by rw [row55_ln g30]; exact g31), ⟨fun _ => ?_, fun q => absurd c32 q⟩⟩
          refine hw 2 _ ?_
          show K (38, [.ref 3, .int x15, .int x16, .int v18, .int v19, .int v20, .int v21, .int v22, .int (v23 + 1), .int x17, .int (σ24 17 (ix v23))], [], σ24)
          refine hf _ _ 10 _ _ ?_
          show K (38, [.ref 3, .int x15, .int x16, .int v18, .int v19, .int v20, .int v21, .int v22, .int (v23 + 1), .int x17, .null], [], σ24)
          exact ih v18 v19 v20 v21 v22 (v23 + 1) σ24 h hk
        · refine hw 13 _ ?_
          show kd 17 = 1 ∧ (inb v23 20 = true ∧ (kd 55 = 3 ∧ (inb (σ24 17 (ix v23)) 20 = true ∧ (kd (108 + ix (σ24 17 (ix v23))) = 1 ∧ (inb x15 (ln (108 + ix (σ24 17 (ix v23)))) = true ∧ ((((σ24 (108 + ix (σ24 17 (ix v23))) (ix x15)) = ((-1))) → K (124, [.ref 3, .int x15, .int x16, .int v18, .int v19, .int v20, .int v21, .int v22, .int v23, .int x17, .int (σ24 17 (ix v23))], [], σ24)) ∧ (¬ ((σ24 (108 + ix (σ24 17 (ix v23))) (ix x15)) = ((-1))) → K (86, [.ref 3, .int x15, .int x16, .int v18, .int v19, .int v20, .int v21, .int v22, .int v23, .int x17, .int (σ24 17 (ix v23))], [], σ24))))))))
          refine ⟨rfl, g29, rfl, g30, (row55_kd g30), (by rw [row55_ln g30]; exact g31), ⟨fun q => absurd q c32, fun _ => ?_⟩⟩
          obtain ⟨g33, h⟩ := ite_some h
          obtain ⟨g34, h⟩ := ite_some h
          obtain ⟨g35, h⟩ := ite_some h
          obtain ⟨r36, σ37, e38, h⟩ := bnd_some h
          refine hw 21 _ ?_
          show kd 55 = 3 ∧ (inb (σ24 17 (ix v23)) 20 = true ∧ (kd (108 + ix (σ24 17 (ix v23))) = 1 ∧ (inb x15 (ln (108 + ix (σ24 17 (ix v23)))) = true ∧ (kd 13 = 1 ∧ (inb (σ24 17 (ix v23)) 20 = true ∧ (∃ r36 σ37, f_X1_levelBehind 0 (σ24 13 (ix (σ24 17 (ix v23)))) v18 (σ24 (108 + ix (σ24 17 (ix v23))) (ix x15)) σ24 = some (r36, σ37) ∧ K (123, [.ref 3, .int x15, .int x16, .int v18, .int v18, .int (σ24 (108 + ix (σ24 17 (ix v23))) (ix x15)), .int 0, .int (σ24 13 (ix (σ24 17 (ix v23)))), .int v23, .int x17, .int (σ24 17 (ix v23))], [.int r36], σ37)))))))
          refine ⟨rfl, g33, (row55_kd g33), (by rw [row55_ln g33]; exact g34), rfl, g35, ⟨r36, σ37, e38, ?_⟩⟩
          refine hw 3 _ ?_
          show K (38, [.ref 3, .int x15, .int x16, .int r36, .int v18, .int (σ24 (108 + ix (σ24 17 (ix v23))) (ix x15)), .int 0, .int (σ24 13 (ix (σ24 17 (ix v23)))), .int (v23 + 1), .int x17, .int (σ24 17 (ix v23))], [], σ37)
          refine hf _ _ 10 _ _ ?_
          show K (38, [.ref 3, .int x15, .int x16, .int r36, .int v18, .int (σ24 (108 + ix (σ24 17 (ix v23))) (ix x15)), .int 0, .int (σ24 13 (ix (σ24 17 (ix v23)))), .int (v23 + 1), .int x17, .null], [], σ37)
          exact ih r36 v18 (σ24 (108 + ix (σ24 17 (ix v23))) (ix x15)) 0 (σ24 13 (ix (σ24 17 (ix v23)))) (v23 + 1) σ37 h hk

set_option maxHeartbeats 4000000 in
set_option maxRecDepth 100000 in
theorem t_X1_levelByTicks_20 {Qa : Int32 → aM → Prop} {K : aS → Prop} (hw : ∀ k x, wp (T_X1_levelByTicks Qa) k K x → K x) (hf : ∀ pc L i st σ, K (pc, L.set i .null, st, σ) → K (pc, L, st, σ)) (x1 : Int32) (x2 : Int32) (y : Int32 × aM) (k : Int32 → Int32 → Int32 → Int32 → Int32 → Int32 → Int32 → aM → Option (Int32 × aM)) :
    ∀ (n : Nat) (v3 : Int32) (v4 : Int32) (v5 : Int32) (v6 : Int32) (v7 : Int32) (v8 : Int32) (v9 : Int32) (σ10 : aM), l_X1_levelByTicks_20 x1 x2 n v3 v4 v5 v6 v7 v8 v9 σ10 k = some y → (∀ (w0 : Int32) (w1 : Int32) (w2 : Int32) (w3 : Int32) (w4 : Int32) (w5 : Int32) (w6 : Int32) (τ : aM), k w0 w1 w2 w3 w4 w5 w6 τ = some y → K (139, [.ref 3, .int x1, .int x2, .int w0, .int w1, .int w2, .int w3, .int w4, .int w5, .int w6, .null], [], τ)) → K (20, [.ref 3, .int x1, .int x2, .int v3, .int v4, .int v5, .int v6, .int v7, .int v8, .int v9, .null], [], σ10) := by
  intro n
  induction n with
  | zero =>
    intro v3 v4 v5 v6 v7 v8 v9 σ10 h hk
    exact absurd h (by simp [l_X1_levelByTicks_20])
  | succ n ih =>
    intro v3 v4 v5 v6 v7 v8 v9 σ10 h hk
    unfold l_X1_levelByTicks_20 at h
    rcases ite_cases h with ⟨c11, h⟩ | ⟨c11, h⟩
    · refine hw 3 _ ?_
      show ((x2 < v9) → K (139, [.ref 3, .int x1, .int x2, .int v3, .int v4, .int v5, .int v6, .int v7, .int v8, .int v9, .null], [], σ10)) ∧ (¬ (x2 < v9) → K (26, [.ref 3, .int x1, .int x2, .int v3, .int v4, .int v5, .int v6, .int v7, .int v8, .int v9, .null], [], σ10))
      refine ⟨fun _ => ?_, fun q => absurd c11 q⟩
      exact hk v3 v4 v5 v6 v7 v8 v9 σ10 h
    · refine hw 3 _ ?_
      show ((x2 < v9) → K (139, [.ref 3, .int x1, .int x2, .int v3, .int v4, .int v5, .int v6, .int v7, .int v8, .int v9, .null], [], σ10)) ∧ (¬ (x2 < v9) → K (26, [.ref 3, .int x1, .int x2, .int v3, .int v4, .int v5, .int v6, .int v7, .int v8, .int v9, .null], [], σ10))
      refine ⟨fun q => absurd q c11, fun _ => ?_⟩
      obtain ⟨r12, σ13, e14, h⟩ := bnd_some h
      refine hw 5 _ ?_
      show ∃ r12 σ13, f_X1_levelBehind v6 v7 v4 v5 σ10 = some (r12, σ13) ∧ K (37, [.ref 3, .int x1, .int x2, .int v3, .int v4, .int v5, .int v6, .int v7, .int v8, .int v9, .null], [.int r12], σ13)
      refine ⟨r12, σ13, e14, ?_⟩
      refine hw 1 _ ?_
      show K (38, [.ref 3, .int x1, .int x2, .int r12, .int v4, .int v5, .int v6, .int v7, .int v8, .int v9, .null], [], σ13)
      refine t_X1_levelByTicks_38 hw hf x1 x2 v9 _ _ lf r12 v4 v5 v6 v7 v8 σ13 h (fun v39 v40 v41 v42 v43 v44 σ45 h => ?_)
      show K (130, [.ref 3, .int x1, .int x2, .int v39, .int v40, .int v41, .int v42, .int v43, .int v44, .int v9, .null], [], σ45)
      refine hw 3 _ ?_
      show K (20, [.ref 3, .int x1, .int x2, .int v39, .int v40, .int v41, .int (v42 + 1), .int v43, .int v44, .int (v9 + 1), .null], [], σ45)
      exact ih v39 v40 v41 (v42 + 1) v43 v44 (v9 + 1) σ45 h hk

set_option maxHeartbeats 4000000 in
set_option maxRecDepth 100000 in
theorem s_X1_levelByTicks : runs T_X1_levelByTicks [.ref 3] 11 F_X1_levelByTicks := by
  intro Qa K hw hf As σ r σ' h hQ
  unfold F_X1_levelByTicks at h
  split at h
  · rename_i p0 p1
    unfold f_X1_levelByTicks at h
    have hQ : Qa (r, σ').1 (r, σ').2 := hQ
    generalize (r, σ') = y at h hQ
    show K (0, [.ref 3, .int p0, .int p1, .null, .null, .null, .null, .null, .null, .null, .null], [], σ)
    refine hw 14 _ ?_
    show K (20, [.ref 3, .int p0, .int p1, .int 0, .int 0, .int 0, .int 0, .int 0, .int 0, .int 0, .null], [], σ)
    refine t_X1_levelByTicks_20 hw hf p0 p1 _ _ lf 0 0 0 0 0 0 0 σ h (fun v46 v47 v48 v49 v50 v51 v52 σ53 h => ?_)
    show K (139, [.ref 3, .int p0, .int p1, .int v46, .int v47, .int v48, .int v49, .int v50, .int v51, .int v52, .null], [], σ53)
    obtain rfl := Option.some.inj h
    refine hw 2 _ ?_
    show Qa v46 σ53
    refine hQ
  · cases h
theorem h_X1_levelByTicks : shp [.ref 3] 11 F_X1_levelByTicks := by
  intro As σ r σ' h
  unfold F_X1_levelByTicks at h
  split at h
  · exact ⟨by simp [Value.category], Nat.le_of_ble_eq_true rfl⟩
  · cases h
set_option maxHeartbeats 4000000 in
set_option maxRecDepth 100000 in
theorem c_X1_levelByTicks (l : Launch) (D : va_G) (cI cZ cA : ClassId) (ad : Nat → Nat) (hi : adI ad) : CtI l yX1_levelByTicks wsX1_levelByTicks { frames := 1, cells := 0, slots := 0, locals := 23 } D cI cZ cA ad [.ref 3] F_X1_levelByTicks := by
  refine mk_I [.ref 3] F_X1_levelByTicks T_X1_levelByTicks (by decide +kernel) rfl ?_ h_X1_levelByTicks s_X1_levelByTicks
  intro p e s m args below meth c Qa ⟨hx, hb, hml, hown, hts, hr, hlocks, hK, hN⟩
  have hin1 : ∀ w ∈ u_ws RX1 TX1 11, w ∈ wsX1_levelByTicks := by decide +kernel
  have hl45 : (Cond.fieldLink RX1 45 RX1 (TX1 10).2.1 (TX1 10).2.2.1) ∈ wsX1_levelByTicks := by decide +kernel
  have hl33 : (Cond.fieldLink RX1 33 RX1 (TX1 6).2.1 (TX1 6).2.2.1) ∈ wsX1_levelByTicks := by decide +kernel
  have hl42 : (Cond.fieldLink RX1 42 RX1 (TX1 9).2.1 (TX1 9).2.2.1) ∈ wsX1_levelByTicks := by decide +kernel
  have hl39 : (Cond.fieldLink RX1 39 RX1 (TX1 8).2.1 (TX1 8).2.2.1) ∈ wsX1_levelByTicks := by decide +kernel
  have hl18 : (Cond.fieldLink RX1 18 RX1 (TX1 2).2.1 (TX1 2).2.2.1) ∈ wsX1_levelByTicks := by decide +kernel
  refine ruL_c (n := 0) (n2 := 1) rfl (ru_iconst hx hb dX1_levelByTicks_0 rfl) ?_
  refine ruL_c (n := 1) (n2 := 2) rfl (ru_istore_n (k := 3) hx hb dX1_levelByTicks_1) ?_
  refine ruL_c (n := 2) (n2 := 3) rfl (ru_iconst hx hb dX1_levelByTicks_2 rfl) ?_
  refine ruL_c (n := 3) (n2 := 4) rfl (ru_istore hx hb dX1_levelByTicks_3) ?_
  refine ruL_c (n := 4) (n2 := 5) rfl (ru_bot) ?_
  refine ruL_c (n := 5) (n2 := 6) rfl (ru_iconst hx hb dX1_levelByTicks_5 rfl) ?_
  refine ruL_c (n := 6) (n2 := 7) rfl (ru_istore hx hb dX1_levelByTicks_6) ?_
  refine ruL_c (n := 7) (n2 := 8) rfl (ru_bot) ?_
  refine ruL_c (n := 8) (n2 := 9) rfl (ru_iconst hx hb dX1_levelByTicks_8 rfl) ?_
  refine ruL_c (n := 9) (n2 := 10) rfl (ru_istore hx hb dX1_levelByTicks_9) ?_
  refine ruL_c (n := 10) (n2 := 11) rfl (ru_bot) ?_
  refine ruL_c (n := 11) (n2 := 12) rfl (ru_iconst hx hb dX1_levelByTicks_11 rfl) ?_
  refine ruL_c (n := 12) (n2 := 13) rfl (ru_istore hx hb dX1_levelByTicks_12) ?_
  refine ruL_c (n := 13) (n2 := 14) rfl (ru_bot) ?_
  refine ruL_c (n := 14) (n2 := 15) rfl (ru_iconst hx hb dX1_levelByTicks_14 rfl) ?_
  refine ruL_c (n := 15) (n2 := 16) rfl (ru_istore hx hb dX1_levelByTicks_15) ?_
  refine ruL_c (n := 16) (n2 := 17) rfl (ru_bot) ?_
  refine ruL_c (n := 17) (n2 := 18) rfl (ru_iconst hx hb dX1_levelByTicks_17 rfl) ?_
  refine ruL_c (n := 18) (n2 := 19) rfl (ru_istore hx hb dX1_levelByTicks_18) ?_
  refine ruL_c (n := 19) (n2 := 20) rfl (ru_bot) ?_
  refine ruL_c (n := 20) (n2 := 21) rfl (ru_iload hx hb dX1_levelByTicks_20) ?_
  refine ruL_c (n := 21) (n2 := 22) rfl (ru_bot) ?_
  refine ruL_c (n := 22) (n2 := 23) rfl (ru_iload_n (k := 2) hx hb dX1_levelByTicks_22) ?_
  refine ruL_c (n := 23) (n2 := 24) rfl (ru_icmpgt hx hb dX1_levelByTicks_23 (by decide)) ?_
  refine ruL_c (n := 24) (n2 := 25) rfl (ru_bot) ?_
  refine ruL_c (n := 25) (n2 := 26) rfl (ru_bot) ?_
  refine ruL_c (n := 26) (n2 := 27) rfl (ru_iload hx hb dX1_levelByTicks_26) ?_
  refine ruL_c (n := 27) (n2 := 28) rfl (ru_bot) ?_
  refine ruL_c (n := 28) (n2 := 29) rfl (ru_iload hx hb dX1_levelByTicks_28) ?_
  refine ruL_c (n := 29) (n2 := 30) rfl (ru_bot) ?_
  refine ruL_c (n := 30) (n2 := 31) rfl (ru_iload hx hb dX1_levelByTicks_30) ?_
  refine ruL_c (n := 31) (n2 := 32) rfl (ru_bot) ?_
  refine ruL_c (n := 32) (n2 := 33) rfl (ru_iload hx hb dX1_levelByTicks_32) ?_
  refine ruL_c (n := 33) (n2 := 34) rfl (ru_bot) ?_
  refine ruL_c (n := 34) (n2 := 35) rfl (ru_callS hx hb hml hown hts hK hN (c_X1_levelBehind l D cI cZ cA ad hi) (va_cwS 4 hts gX1_levelByTicks_X1_levelBehind rfl rfl rfl (by decide +kernel) ⟨Nat.le_of_ble_eq_true rfl, Nat.le_of_ble_eq_true rfl⟩) dX1_levelByTicks_34 ⟨Nat.zero_le _, Nat.zero_le _⟩) ?_
  refine ruL_c (n := 35) (n2 := 36) rfl (ru_bot) ?_
  refine ruL_c (n := 36) (n2 := 37) rfl (ru_bot) ?_
  refine ruL_c (n := 37) (n2 := 38) rfl (ru_istore_n (k := 3) hx hb dX1_levelByTicks_37) ?_
  refine ruL_c (n := 38) (n2 := 39) rfl (ru_iload hx hb dX1_levelByTicks_38) ?_
  refine ruL_c (n := 39) (n2 := 40) rfl (ru_bot) ?_
  refine ruL_c (n := 40) (n2 := 41) rfl (ru_aload_n (k := 0) hx hb dX1_levelByTicks_40) ?_
  refine ruL_c (n := 41) (n2 := 42) rfl (ru_getI (own := RX1) (j := 10) (T := TX1) hx hb hown hK hts hin1 (by decide) rfl rfl (by decide) rfl hl45 dX1_levelByTicks_41) ?_
  refine ruL_c (n := 42) (n2 := 43) rfl (ru_bot) ?_
  refine ruL_c (n := 43) (n2 := 44) rfl (ru_bot) ?_
  refine ruL_c (n := 44) (n2 := 45) rfl (ru_icmpge hx hb dX1_levelByTicks_44 (by decide)) ?_
  refine ruL_c (n := 45) (n2 := 46) rfl (ru_bot) ?_
  refine ruL_c (n := 46) (n2 := 47) rfl (ru_bot) ?_
  refine ruL_c (n := 47) (n2 := 48) rfl (ru_aload_n (k := 0) hx hb dX1_levelByTicks_47) ?_
  refine ruL_c (n := 48) (n2 := 49) rfl (ru_getR (own := RX1) (j := 6) (T := TX1) hx hb hown hK hts hin1 (by decide) rfl rfl (by decide) rfl hl33 dX1_levelByTicks_48) ?_
  refine ruL_c (n := 49) (n2 := 50) rfl (ru_bot) ?_
  refine ruL_c (n := 50) (n2 := 51) rfl (ru_bot) ?_
  refine ruL_c (n := 51) (n2 := 52) rfl (ru_aload_n (k := 0) hx hb dX1_levelByTicks_51) ?_
  refine ruL_c (n := 52) (n2 := 53) rfl (ru_getR (own := RX1) (j := 9) (T := TX1) hx hb hown hK hts hin1 (by decide) rfl rfl (by decide) rfl hl42 dX1_levelByTicks_52) ?_
  refine ruL_c (n := 53) (n2 := 54) rfl (ru_bot) ?_
  refine ruL_c (n := 54) (n2 := 55) rfl (ru_bot) ?_
  refine ruL_c (n := 55) (n2 := 56) rfl (ru_iload hx hb dX1_levelByTicks_55) ?_
  refine ruL_c (n := 56) (n2 := 57) rfl (ru_bot) ?_
  refine ruL_c (n := 57) (n2 := 58) rfl (ru_iald hx hb hK dX1_levelByTicks_57) ?_
  refine ruL_c (n := 58) (n2 := 59) rfl (ru_iald hx hb hK dX1_levelByTicks_58) ?_
  refine ruL_c (n := 59) (n2 := 60) rfl (ru_iload hx hb dX1_levelByTicks_59) ?_
  refine ruL_c (n := 60) (n2 := 61) rfl (ru_bot) ?_
  refine ruL_c (n := 61) (n2 := 62) rfl (ru_icmpne hx hb dX1_levelByTicks_61 (by decide)) ?_
  refine ruL_c (n := 62) (n2 := 63) rfl (ru_bot) ?_
  refine ruL_c (n := 63) (n2 := 64) rfl (ru_bot) ?_
  refine ruL_c (n := 64) (n2 := 65) rfl (ru_aload_n (k := 0) hx hb dX1_levelByTicks_64) ?_
  refine ruL_c (n := 65) (n2 := 66) rfl (ru_getR (own := RX1) (j := 9) (T := TX1) hx hb hown hK hts hin1 (by decide) rfl rfl (by decide) rfl hl42 dX1_levelByTicks_65) ?_
  refine ruL_c (n := 66) (n2 := 67) rfl (ru_bot) ?_
  refine ruL_c (n := 67) (n2 := 68) rfl (ru_bot) ?_
  refine ruL_c (n := 68) (n2 := 69) rfl (ru_iload hx hb dX1_levelByTicks_68) ?_
  refine ruL_c (n := 69) (n2 := 70) rfl (ru_bot) ?_
  refine ruL_c (n := 70) (n2 := 71) rfl (ru_iald hx hb hK dX1_levelByTicks_70) ?_
  refine ruL_c (n := 71) (n2 := 72) rfl (ru_istore hx hb dX1_levelByTicks_71) ?_
  refine ruL_c (n := 72) (n2 := 73) rfl (ru_bot) ?_
  refine ruL_c (n := 73) (n2 := 74) rfl (ru_aload_n (k := 0) hx hb dX1_levelByTicks_73) ?_
  refine ruL_c (n := 74) (n2 := 75) rfl (ru_getR (own := RX1) (j := 8) (T := TX1) hx hb hown hK hts hin1 (by decide) rfl rfl (by decide) rfl hl39 dX1_levelByTicks_74) ?_
  refine ruL_c (n := 75) (n2 := 76) rfl (ru_bot) ?_
  refine ruL_c (n := 76) (n2 := 77) rfl (ru_bot) ?_
  refine ruL_c (n := 77) (n2 := 78) rfl (ru_iload hx hb dX1_levelByTicks_77) ?_
  refine ruL_c (n := 78) (n2 := 79) rfl (ru_bot) ?_
  refine ruL_c (n := 79) (n2 := 80) rfl (ru_aald hx hb hK dX1_levelByTicks_79) ?_
  refine ruL_c (n := 80) (n2 := 81) rfl (ru_iload_n (k := 1) hx hb dX1_levelByTicks_80) ?_
  refine ruL_c (n := 81) (n2 := 82) rfl (ru_iald hx hb hK dX1_levelByTicks_81) ?_
  refine ruL_c (n := 82) (n2 := 83) rfl (ru_iconst hx hb dX1_levelByTicks_82 rfl) ?_
  refine ruL_c (n := 83) (n2 := 84) rfl (ru_icmpeq hx hb dX1_levelByTicks_83 (by decide)) ?_
  refine ruL_c (n := 84) (n2 := 85) rfl (ru_bot) ?_
  refine ruL_c (n := 85) (n2 := 86) rfl (ru_bot) ?_
  refine ruL_c (n := 86) (n2 := 87) rfl (ru_iload_n (k := 3) hx hb dX1_levelByTicks_86) ?_
  refine ruL_c (n := 87) (n2 := 88) rfl (ru_istore hx hb dX1_levelByTicks_87) ?_
  refine ruL_c (n := 88) (n2 := 89) rfl (ru_bot) ?_
  refine ruL_c (n := 89) (n2 := 90) rfl (ru_aload_n (k := 0) hx hb dX1_levelByTicks_89) ?_
  refine ruL_c (n := 90) (n2 := 91) rfl (ru_getR (own := RX1) (j := 8) (T := TX1) hx hb hown hK hts hin1 (by decide) rfl rfl (by decide) rfl hl39 dX1_levelByTicks_90) ?_
  refine ruL_c (n := 91) (n2 := 92) rfl (ru_bot) ?_
  refine ruL_c (n := 92) (n2 := 93) rfl (ru_bot) ?_
  refine ruL_c (n := 93) (n2 := 94) rfl (ru_iload hx hb dX1_levelByTicks_93) ?_
  refine ruL_c (n := 94) (n2 := 95) rfl (ru_bot) ?_
  refine ruL_c (n := 95) (n2 := 96) rfl (ru_aald hx hb hK dX1_levelByTicks_95) ?_
  refine ruL_c (n := 96) (n2 := 97) rfl (ru_iload_n (k := 1) hx hb dX1_levelByTicks_96) ?_
  refine ruL_c (n := 97) (n2 := 98) rfl (ru_iald hx hb hK dX1_levelByTicks_97) ?_
  refine ruL_c (n := 98) (n2 := 99) rfl (ru_istore hx hb dX1_levelByTicks_98) ?_
  refine ruL_c (n := 99) (n2 := 100) rfl (ru_bot) ?_
  refine ruL_c (n := 100) (n2 := 101) rfl (ru_iconst hx hb dX1_levelByTicks_100 rfl) ?_
  refine ruL_c (n := 101) (n2 := 102) rfl (ru_istore hx hb dX1_levelByTicks_101) ?_
  refine ruL_c (n := 102) (n2 := 103) rfl (ru_bot) ?_
  refine ruL_c (n := 103) (n2 := 104) rfl (ru_aload_n (k := 0) hx hb dX1_levelByTicks_103) ?_
  refine ruL_c (n := 104) (n2 := 105) rfl (ru_getR (own := RX1) (j := 2) (T := TX1) hx hb hown hK hts hin1 (by decide) rfl rfl (by decide) rfl hl18 dX1_levelByTicks_104) ?_
  refine ruL_c (n := 105) (n2 := 106) rfl (ru_bot) ?_
  refine ruL_c (n := 106) (n2 := 107) rfl (ru_bot) ?_
  refine ruL_c (n := 107) (n2 := 108) rfl (ru_iload hx hb dX1_levelByTicks_107) ?_
  refine ruL_c (n := 108) (n2 := 109) rfl (ru_bot) ?_
  refine ruL_c (n := 109) (n2 := 110) rfl (ru_iald hx hb hK dX1_levelByTicks_109) ?_
  refine ruL_c (n := 110) (n2 := 111) rfl (ru_istore hx hb dX1_levelByTicks_110) ?_
  refine ruL_c (n := 111) (n2 := 112) rfl (ru_bot) ?_
  refine ruL_c (n := 112) (n2 := 113) rfl (ru_iload hx hb dX1_levelByTicks_112) ?_
  refine ruL_c (n := 113) (n2 := 114) rfl (ru_bot) ?_
  refine ruL_c (n := 114) (n2 := 115) rfl (ru_iload hx hb dX1_levelByTicks_114) ?_
  refine ruL_c (n := 115) (n2 := 116) rfl (ru_bot) ?_
  refine ruL_c (n := 116) (n2 := 117) rfl (ru_iload hx hb dX1_levelByTicks_116) ?_
  refine ruL_c (n := 117) (n2 := 118) rfl (ru_bot) ?_
  refine ruL_c (n := 118) (n2 := 119) rfl (ru_iload hx hb dX1_levelByTicks_118) ?_
  refine ruL_c (n := 119) (n2 := 120) rfl (ru_bot) ?_
  refine ruL_c (n := 120) (n2 := 121) rfl (ru_callS hx hb hml hown hts hK hN (c_X1_levelBehind l D cI cZ cA ad hi) (va_cwS 4 hts gX1_levelByTicks_X1_levelBehind rfl rfl rfl (by decide +kernel) ⟨Nat.le_of_ble_eq_true rfl, Nat.le_of_ble_eq_true rfl⟩) dX1_levelByTicks_120 ⟨Nat.zero_le _, Nat.zero_le _⟩) ?_
  refine ruL_c (n := 121) (n2 := 122) rfl (ru_bot) ?_
  refine ruL_c (n := 122) (n2 := 123) rfl (ru_bot) ?_
  refine ruL_c (n := 123) (n2 := 124) rfl (ru_istore_n (k := 3) hx hb dX1_levelByTicks_123) ?_
  refine ruL_c (n := 124) (n2 := 125) rfl (ru_iinc hx hb dX1_levelByTicks_124 rfl) ?_
  refine ruL_c (n := 125) (n2 := 126) rfl (ru_bot) ?_
  refine ruL_c (n := 126) (n2 := 127) rfl (ru_bot) ?_
  refine ruL_c (n := 127) (n2 := 128) rfl (ru_goto hx hb dX1_levelByTicks_127 (by decide)) ?_
  refine ruL_c (n := 128) (n2 := 129) rfl (ru_bot) ?_
  refine ruL_c (n := 129) (n2 := 130) rfl (ru_bot) ?_
  refine ruL_c (n := 130) (n2 := 131) rfl (ru_iinc hx hb dX1_levelByTicks_130 rfl) ?_
  refine ruL_c (n := 131) (n2 := 132) rfl (ru_bot) ?_
  refine ruL_c (n := 132) (n2 := 133) rfl (ru_bot) ?_
  refine ruL_c (n := 133) (n2 := 134) rfl (ru_iinc hx hb dX1_levelByTicks_133 rfl) ?_
  refine ruL_c (n := 134) (n2 := 135) rfl (ru_bot) ?_
  refine ruL_c (n := 135) (n2 := 136) rfl (ru_bot) ?_
  refine ruL_c (n := 136) (n2 := 137) rfl (ru_goto hx hb dX1_levelByTicks_136 (by decide)) ?_
  refine ruL_c (n := 137) (n2 := 138) rfl (ru_bot) ?_
  refine ruL_c (n := 138) (n2 := 139) rfl (ru_bot) ?_
  refine ruL_c (n := 139) (n2 := 140) rfl (ru_iload_n (k := 3) hx hb dX1_levelByTicks_139) ?_
  refine ruL_c (n := 140) (n2 := 141) rfl (ru_iret hx hb hK hr hlocks dX1_levelByTicks_140) ?_
  exact trivial

-- CueTour$CueList.fillLevels
def l_X1_fillLevels_2 (x1 : Int32) (a2 : Nat) : Nat → Int32 → aM → (Int32 → aM → Option (Int32 × aM)) → Option (Int32 × aM)
  | 0, _, _, _ => none
  | n + 1, v3, σ4, k => if 10 ≤ v3 then k v3 σ4 else bnd (f_X1_levelByFades v3 x1 σ4) (fun r6 σ7 => if kd a2 = 1 then if inb v3 (ln a2) = true then l_X1_fillLevels_2 x1 a2 n (v3 + 1) (mput σ7 a2 (ix v3) r6) k else none else none)
def f_X1_fillLevels (p0 : Int32) (p1 : Nat) (σ : aM) : Option (Int32 × aM) := l_X1_fillLevels_2 p0 p1 lf 0 σ (fun v11 σ12 => some (0, σ12))
def F_X1_fillLevels : aF := fun As σ => match As with
  | [.int p0, .ref p1] => f_X1_fillLevels p0 p1 σ
  | _ => none
def T_X1_fillLevels (Qa : Int32 → aM → Prop) : List aI := [I_const 0 1, I_istore 3 1, I_iload 3 1, I_const (10) 2, I_bot, I_icmp (fun x y => y ≤ x) 23, I_bot, I_bot, I_aload 2 1, I_iload 3 1, I_aload 0 1, I_iload 3 1, I_iload 1 1, I_callV 3 2 F_X1_levelByFades, I_bot, I_bot, I_iast, I_iinc 3 (1), I_bot, I_bot, I_goto 2, I_bot, I_bot, I_vret Qa]
set_option maxHeartbeats 4000000 in
set_option maxRecDepth 100000 in
theorem t_X1_fillLevels_2 {Qa : Int32 → aM → Prop} {K : aS → Prop} (hw : ∀ k x, wp (T_X1_fillLevels Qa) k K x → K x) (hf : ∀ pc L i st σ, K (pc, L.set i .null, st, σ) → K (pc, L, st, σ)) (x1 : Int32) (a2 : Nat) (y : Int32 × aM) (k : Int32 → aM → Option (Int32 × aM)) :
    ∀ (n : Nat) (v3 : Int32) (σ4 : aM), l_X1_fillLevels_2 x1 a2 n v3 σ4 k = some y → (∀ (w0 : Int32) (τ : aM), k w0 τ = some y → K (23, [.ref 3, .int x1, .ref a2, .int w0], [], τ)) → K (2, [.ref 3, .int x1, .ref a2, .int v3], [], σ4) := by
  intro n
  induction n with
  | zero =>
    intro v3 σ4 h hk
    exact absurd h (by simp [l_X1_fillLevels_2])
  | succ n ih =>
    intro v3 σ4 h hk
    unfold l_X1_fillLevels_2 at h
    rcases ite_cases h with ⟨c5, h⟩ | ⟨c5, h⟩
    · refine hw 3 _ ?_
      show ((10 ≤ v3) → K (23, [.ref 3, .int x1, .ref a2, .int v3], [], σ4)) ∧ (¬ (10 ≤ v3) → K (8, [.ref 3, .int x1, .ref a2, .int v3], [], σ4))
      refine ⟨fun _ => ?_, fun q => absurd c5 q⟩
      exact hk v3 σ4 h
    · refine hw 3 _ ?_
      show ((10 ≤ v3) → K (23, [.ref 3, .int x1, .ref a2, .int v3], [], σ4)) ∧ (¬ (10 ≤ v3) → K (8, [.ref 3, .int x1, .ref a2, .int v3], [], σ4))
      refine ⟨fun q => absurd q c5, fun _ => ?_⟩
      obtain ⟨r6, σ7, e8, h⟩ := bnd_some h
      refine hw 6 _ ?_
      show ∃ r6 σ7, f_X1_levelByFades v3 x1 σ4 = some (r6, σ7) ∧ K (16, [.ref 3, .int x1, .ref a2, .int v3], [.int r6, .int v3, .ref a2], σ7)
      refine ⟨r6, σ7, e8, ?_⟩
      obtain ⟨g9, h⟩ := ite_some h
      obtain ⟨g10, h⟩ := ite_some h
      refine hw 3 _ ?_
      show kd a2 = 1 ∧ (inb v3 (ln a2) = true ∧ (K (2, [.ref 3, .int x1, .ref a2, .int (v3 + 1)], [], mput σ7 a2 (ix v3) r6)))
      refine ⟨g9, g10, ?_⟩
      exact ih (v3 + 1) (mput σ7 a2 (ix v3) r6) h hk

set_option maxHeartbeats 4000000 in
set_option maxRecDepth 100000 in
theorem s_X1_fillLevels : runs T_X1_fillLevels [.ref 3] 4 F_X1_fillLevels := by
  intro Qa K hw hf As σ r σ' h hQ
  unfold F_X1_fillLevels at h
  split at h
  · rename_i p0 p1
    unfold f_X1_fillLevels at h
    have hQ : Qa (r, σ').1 (r, σ').2 := hQ
    generalize (r, σ') = y at h hQ
    show K (0, [.ref 3, .int p0, .ref p1, .null], [], σ)
    refine hw 2 _ ?_
    show K (2, [.ref 3, .int p0, .ref p1, .int 0], [], σ)
    refine t_X1_fillLevels_2 hw hf p0 p1 _ _ lf 0 σ h (fun v11 σ12 h => ?_)
    show K (23, [.ref 3, .int p0, .ref p1, .int v11], [], σ12)
    obtain rfl := Option.some.inj h
    refine hw 1 _ ?_
    show Qa 0 σ12
    refine hQ
  · cases h
theorem h_X1_fillLevels : shp [.ref 3] 4 F_X1_fillLevels := by
  intro As σ r σ' h
  unfold F_X1_fillLevels at h
  split at h
  · exact ⟨by simp [Value.category], Nat.le_of_ble_eq_true rfl⟩
  · cases h
set_option maxHeartbeats 4000000 in
set_option maxRecDepth 100000 in
theorem c_X1_fillLevels (l : Launch) (D : va_G) (cI cZ cA : ClassId) (ad : Nat → Nat) (hi : adI ad) : CtV l yX1_fillLevels wsX1_fillLevels { frames := 2, cells := 0, slots := 0, locals := 51 } D cI cZ cA ad [.ref 3] F_X1_fillLevels := by
  refine mk_V [.ref 3] F_X1_fillLevels T_X1_fillLevels (by decide +kernel) rfl ?_ h_X1_fillLevels s_X1_fillLevels
  intro p e s m args below meth c Qa ⟨hx, hb, hml, hown, hts, hr, hlocks, hK, hN⟩
  refine ruL_c (n := 0) (n2 := 1) rfl (ru_iconst hx hb dX1_fillLevels_0 rfl) ?_
  refine ruL_c (n := 1) (n2 := 2) rfl (ru_istore_n (k := 3) hx hb dX1_fillLevels_1) ?_
  refine ruL_c (n := 2) (n2 := 3) rfl (ru_iload_n (k := 3) hx hb dX1_fillLevels_2) ?_
  refine ruL_c (n := 3) (n2 := 4) rfl (ru_bipush hx hb dX1_fillLevels_3 rfl) ?_
  refine ruL_c (n := 4) (n2 := 5) rfl (ru_bot) ?_
  refine ruL_c (n := 5) (n2 := 6) rfl (ru_icmpge hx hb dX1_fillLevels_5 (by decide)) ?_
  refine ruL_c (n := 6) (n2 := 7) rfl (ru_bot) ?_
  refine ruL_c (n := 7) (n2 := 8) rfl (ru_bot) ?_
  refine ruL_c (n := 8) (n2 := 9) rfl (ru_aload_n (k := 2) hx hb dX1_fillLevels_8) ?_
  refine ruL_c (n := 9) (n2 := 10) rfl (ru_iload_n (k := 3) hx hb dX1_fillLevels_9) ?_
  refine ruL_c (n := 10) (n2 := 11) rfl (ru_aload_n (k := 0) hx hb dX1_fillLevels_10) ?_
  refine ruL_c (n := 11) (n2 := 12) rfl (ru_iload_n (k := 3) hx hb dX1_fillLevels_11) ?_
  refine ruL_c (n := 12) (n2 := 13) rfl (ru_iload_n (k := 1) hx hb dX1_fillLevels_12) ?_
  refine ruL_c (n := 13) (n2 := 14) rfl (ru_callV hx hb hml hown hts hK hN (by decide) rfl (c_X1_levelByFades l D cI cZ cA ad hi) (cwV 2 hts gX1_fillLevels_X1_levelByFades rfl rfl rfl (by decide +kernel) ⟨Nat.le_of_ble_eq_true rfl, Nat.le_of_ble_eq_true rfl⟩) dX1_fillLevels_13 ⟨Nat.zero_le _, Nat.zero_le _⟩) ?_
  refine ruL_c (n := 14) (n2 := 15) rfl (ru_bot) ?_
  refine ruL_c (n := 15) (n2 := 16) rfl (ru_bot) ?_
  refine ruL_c (n := 16) (n2 := 17) rfl (ru_iast hx hb hK hi dX1_fillLevels_16) ?_
  refine ruL_c (n := 17) (n2 := 18) rfl (ru_iinc hx hb dX1_fillLevels_17 rfl) ?_
  refine ruL_c (n := 18) (n2 := 19) rfl (ru_bot) ?_
  refine ruL_c (n := 19) (n2 := 20) rfl (ru_bot) ?_
  refine ruL_c (n := 20) (n2 := 21) rfl (ru_goto hx hb dX1_fillLevels_20 (by decide)) ?_
  refine ruL_c (n := 21) (n2 := 22) rfl (ru_bot) ?_
  refine ruL_c (n := 22) (n2 := 23) rfl (ru_bot) ?_
  refine ruL_c (n := 23) (n2 := 24) rfl (ru_vret hx hb hK hr hlocks dX1_fillLevels_23) ?_
  exact trivial
end
