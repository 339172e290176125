section
-- ===== PART A: goes FIRST, ahead of the names: the tables' words, and 'selects' of the private methods out of them =====
/-- a private method of a class that the tables say can be made, by its rows of tables_1 -/
def lw_okq (q : MethodName × Nat) : Prop := (q.1.cls ≠ "java/lang/invoke/MethodHandle" ∧ q.1.cls ≠ "java/lang/invoke/VarHandle") ∧ Cond.instantiable q.1.cls q.2 ∈ tables_1 ∧ Cond.privateMethod q.1 ∈ tables_1 ∧ Cond.instanceMethod q.1 ∈ tables_1
theorem lw_p0 : lw_okq (⟨"SongHour$Rulebook", "startAnew", "()V"⟩, 4) := ⟨⟨by decide +kernel, by decide +kernel⟩, List.mem_of_getElem? (i := 72) (by decide +kernel), List.mem_of_getElem? (i := 365) (by decide +kernel), List.mem_of_getElem? (i := 366) (by decide +kernel)⟩
theorem lw_p1 : lw_okq (⟨"SongHour$Text", "readToken", "(I)V"⟩, 9) := ⟨⟨by decide +kernel, by decide +kernel⟩, List.mem_of_getElem? (i := 30) (by decide +kernel), List.mem_of_getElem? (i := 380) (by decide +kernel), List.mem_of_getElem? (i := 381) (by decide +kernel)⟩
theorem lw_p2 : lw_okq (⟨"SongHour$Rulebook", "readOne", "(LSongHour$Text;)Z"⟩, 4) := ⟨⟨by decide +kernel, by decide +kernel⟩, List.mem_of_getElem? (i := 72) (by decide +kernel), List.mem_of_getElem? (i := 396) (by decide +kernel), List.mem_of_getElem? (i := 397) (by decide +kernel)⟩
theorem lw_p3 : lw_okq (⟨"SongHour", "endOfPlay", "(I)I"⟩, 7) := ⟨⟨by decide +kernel, by decide +kernel⟩, List.mem_of_getElem? (i := 22) (by decide +kernel), List.mem_of_getElem? (i := 526) (by decide +kernel), List.mem_of_getElem? (i := 527) (by decide +kernel)⟩
theorem lw_p4 : lw_okq (⟨"SongHour", "secondsWithin", "(III)I"⟩, 7) := ⟨⟨by decide +kernel, by decide +kernel⟩, List.mem_of_getElem? (i := 22) (by decide +kernel), List.mem_of_getElem? (i := 534) (by decide +kernel), List.mem_of_getElem? (i := 535) (by decide +kernel)⟩
theorem lw_p5 : lw_okq (⟨"java/lang/Throwable", "fillInStackTrace", "(I)Ljava/lang/Throwable;"⟩, 6) := ⟨⟨by decide +kernel, by decide +kernel⟩, List.mem_of_getElem? (i := 598) (by decide +kernel), List.mem_of_getElem? (i := 596) (by decide +kernel), List.mem_of_getElem? (i := 597) (by decide +kernel)⟩
theorem lw_p6 : lw_okq (⟨"SongHour$Clock", "readOne", "(LSongHour$Text;)Z"⟩, 7) := ⟨⟨by decide +kernel, by decide +kernel⟩, List.mem_of_getElem? (i := 102) (by decide +kernel), List.mem_of_getElem? (i := 632) (by decide +kernel), List.mem_of_getElem? (i := 633) (by decide +kernel)⟩
theorem lw_p7 : lw_okq (⟨"SongHour$Clock", "add", "(ZI)I"⟩, 7) := ⟨⟨by decide +kernel, by decide +kernel⟩, List.mem_of_getElem? (i := 102) (by decide +kernel), List.mem_of_getElem? (i := 641) (by decide +kernel), List.mem_of_getElem? (i := 642) (by decide +kernel)⟩
theorem lw_p8 : lw_okq (⟨"SongHour$Clock", "readWishes", "(LSongHour$Text;I)Z"⟩, 7) := ⟨⟨by decide +kernel, by decide +kernel⟩, List.mem_of_getElem? (i := 102) (by decide +kernel), List.mem_of_getElem? (i := 646) (by decide +kernel), List.mem_of_getElem? (i := 647) (by decide +kernel)⟩
theorem lw_p9 : lw_okq (⟨"SongHour", "fillStretch", "(LSongHour$Clock;II)Z"⟩, 7) := ⟨⟨by decide +kernel, by decide +kernel⟩, List.mem_of_getElem? (i := 22) (by decide +kernel), List.mem_of_getElem? (i := 678) (by decide +kernel), List.mem_of_getElem? (i := 679) (by decide +kernel)⟩
theorem lw_p10 : lw_okq (⟨"SongHour$RowSearch", "gather", "(LSongHour$Songs;I)V"⟩, 20) := ⟨⟨by decide +kernel, by decide +kernel⟩, List.mem_of_getElem? (i := 250) (by decide +kernel), List.mem_of_getElem? (i := 686) (by decide +kernel), List.mem_of_getElem? (i := 687) (by decide +kernel)⟩
theorem lw_p11 : lw_okq (⟨"SongHour$RowSearch", "isFreeInTime", "(LSongHour$Songs;I)Z"⟩, 20) := ⟨⟨by decide +kernel, by decide +kernel⟩, List.mem_of_getElem? (i := 250) (by decide +kernel), List.mem_of_getElem? (i := 690) (by decide +kernel), List.mem_of_getElem? (i := 691) (by decide +kernel)⟩
theorem lw_p12 : lw_okq (⟨"SongHour$RowSearch", "sortIn", "(LSongHour$Songs;I)V"⟩, 20) := ⟨⟨by decide +kernel, by decide +kernel⟩, List.mem_of_getElem? (i := 250) (by decide +kernel), List.mem_of_getElem? (i := 694) (by decide +kernel), List.mem_of_getElem? (i := 695) (by decide +kernel)⟩
theorem lw_p13 : lw_okq (⟨"SongHour", "keyAhead", "(I)I"⟩, 7) := ⟨⟨by decide +kernel, by decide +kernel⟩, List.mem_of_getElem? (i := 22) (by decide +kernel), List.mem_of_getElem? (i := 699) (by decide +kernel), List.mem_of_getElem? (i := 700) (by decide +kernel)⟩
theorem lw_p14 : lw_okq (⟨"SongHour$RowSearch", "extend", "(LSongHour$Songs;IIIII)V"⟩, 20) := ⟨⟨by decide +kernel, by decide +kernel⟩, List.mem_of_getElem? (i := 250) (by decide +kernel), List.mem_of_getElem? (i := 707) (by decide +kernel), List.mem_of_getElem? (i := 708) (by decide +kernel)⟩
theorem lw_p15 : lw_okq (⟨"SongHour$RowSearch", "isHopeless", "(IIII)Z"⟩, 20) := ⟨⟨by decide +kernel, by decide +kernel⟩, List.mem_of_getElem? (i := 250) (by decide +kernel), List.mem_of_getElem? (i := 711) (by decide +kernel), List.mem_of_getElem? (i := 712) (by decide +kernel)⟩
def lw_privs_1 : List (MethodName × Nat) := [(⟨"SongHour$Rulebook", "startAnew", "()V"⟩, 4), (⟨"SongHour$Text", "readToken", "(I)V"⟩, 9), (⟨"SongHour$Rulebook", "readOne", "(LSongHour$Text;)Z"⟩, 4), (⟨"SongHour", "endOfPlay", "(I)I"⟩, 7), (⟨"SongHour", "secondsWithin", "(III)I"⟩, 7), (⟨"java/lang/Throwable", "fillInStackTrace", "(I)Ljava/lang/Throwable;"⟩, 6), (⟨"SongHour$Clock", "readOne", "(LSongHour$Text;)Z"⟩, 7), (⟨"SongHour$Clock", "add", "(ZI)I"⟩, 7), (⟨"SongHour$Clock", "readWishes", "(LSongHour$Text;I)Z"⟩, 7), (⟨"SongHour", "fillStretch", "(LSongHour$Clock;II)Z"⟩, 7), (⟨"SongHour$RowSearch", "gather", "(LSongHour$Songs;I)V"⟩, 20), (⟨"SongHour$RowSearch", "isFreeInTime", "(LSongHour$Songs;I)Z"⟩, 20), (⟨"SongHour$RowSearch", "sortIn", "(LSongHour$Songs;I)V"⟩, 20), (⟨"SongHour", "keyAhead", "(I)I"⟩, 7), (⟨"SongHour$RowSearch", "extend", "(LSongHour$Songs;IIIII)V"⟩, 20), (⟨"SongHour$RowSearch", "isHopeless", "(IIII)Z"⟩, 20)]
theorem lw_r1 : ∀ q ∈ lw_privs_1, lw_okq q := List.forall_mem_cons.mpr ⟨lw_p0, List.forall_mem_cons.mpr ⟨lw_p1, List.forall_mem_cons.mpr ⟨lw_p2, List.forall_mem_cons.mpr ⟨lw_p3, List.forall_mem_cons.mpr ⟨lw_p4, List.forall_mem_cons.mpr ⟨lw_p5, List.forall_mem_cons.mpr ⟨lw_p6, List.forall_mem_cons.mpr ⟨lw_p7, List.forall_mem_cons.mpr ⟨lw_p8, List.forall_mem_cons.mpr ⟨lw_p9, List.forall_mem_cons.mpr ⟨lw_p10, List.forall_mem_cons.mpr ⟨lw_p11, List.forall_mem_cons.mpr ⟨lw_p12, List.forall_mem_cons.mpr ⟨lw_p13, List.forall_mem_cons.mpr ⟨lw_p14, List.forall_mem_cons.mpr ⟨lw_p15, fun _ h => absurd h List.not_mem_nil⟩⟩⟩⟩⟩⟩⟩⟩⟩⟩⟩⟩⟩⟩⟩⟩
theorem lw_p16 : lw_okq (⟨"SongHour$RowSearch", "tryLast", "(LSongHour$Songs;IIIII)V"⟩, 20) := ⟨⟨by decide +kernel, by decide +kernel⟩, List.mem_of_getElem? (i := 250) (by decide +kernel), List.mem_of_getElem? (i := 715) (by decide +kernel), List.mem_of_getElem? (i := 716) (by decide +kernel)⟩
theorem lw_p17 : lw_okq (⟨"SongHour$RowSearch", "firstThatFits", "(LSongHour$Songs;I)I"⟩, 20) := ⟨⟨by decide +kernel, by decide +kernel⟩, List.mem_of_getElem? (i := 250) (by decide +kernel), List.mem_of_getElem? (i := 719) (by decide +kernel), List.mem_of_getElem? (i := 720) (by decide +kernel)⟩
theorem lw_p18 : lw_okq (⟨"SongHour$RowSearch", "mayBegin", "(LSongHour$Songs;III)Z"⟩, 20) := ⟨⟨by decide +kernel, by decide +kernel⟩, List.mem_of_getElem? (i := 250) (by decide +kernel), List.mem_of_getElem? (i := 723) (by decide +kernel), List.mem_of_getElem? (i := 724) (by decide +kernel)⟩
theorem lw_p19 : lw_okq (⟨"SongHour$RowSearch", "compare", "(IIII)V"⟩, 20) := ⟨⟨by decide +kernel, by decide +kernel⟩, List.mem_of_getElem? (i := 250) (by decide +kernel), List.mem_of_getElem? (i := 733) (by decide +kernel), List.mem_of_getElem? (i := 734) (by decide +kernel)⟩
theorem lw_p20 : lw_okq (⟨"SongHour$RowSearch", "tryNext", "(LSongHour$Songs;IIIII)V"⟩, 20) := ⟨⟨by decide +kernel, by decide +kernel⟩, List.mem_of_getElem? (i := 250) (by decide +kernel), List.mem_of_getElem? (i := 737) (by decide +kernel), List.mem_of_getElem? (i := 738) (by decide +kernel)⟩
theorem lw_p21 : lw_okq (⟨"SongHourModel", "come", "(I)V"⟩, 54) := ⟨⟨by decide +kernel, by decide +kernel⟩, List.mem_of_getElem? (i := 796) (by decide +kernel), List.mem_of_getElem? (i := 974) (by decide +kernel), List.mem_of_getElem? (i := 975) (by decide +kernel)⟩
theorem lw_p22 : lw_okq (⟨"SongHourModel", "begins", "(I)V"⟩, 54) := ⟨⟨by decide +kernel, by decide +kernel⟩, List.mem_of_getElem? (i := 796) (by decide +kernel), List.mem_of_getElem? (i := 986) (by decide +kernel), List.mem_of_getElem? (i := 987) (by decide +kernel)⟩
theorem lw_p23 : lw_okq (⟨"SongHourModel", "go", "()V"⟩, 54) := ⟨⟨by decide +kernel, by decide +kernel⟩, List.mem_of_getElem? (i := 796) (by decide +kernel), List.mem_of_getElem? (i := 990) (by decide +kernel), List.mem_of_getElem? (i := 991) (by decide +kernel)⟩
theorem lw_p24 : lw_okq (⟨"SongHourModel", "byteAt", "(I)I"⟩, 54) := ⟨⟨by decide +kernel, by decide +kernel⟩, List.mem_of_getElem? (i := 796) (by decide +kernel), List.mem_of_getElem? (i := 1000) (by decide +kernel), List.mem_of_getElem? (i := 1001) (by decide +kernel)⟩
theorem lw_p25 : lw_okq (⟨"SongHourModel", "readRule", "()Z"⟩, 54) := ⟨⟨by decide +kernel, by decide +kernel⟩, List.mem_of_getElem? (i := 796) (by decide +kernel), List.mem_of_getElem? (i := 1007) (by decide +kernel), List.mem_of_getElem? (i := 1008) (by decide +kernel)⟩
theorem lw_p26 : lw_okq (⟨"SongHourModel", "ruleAtHand", "()I"⟩, 54) := ⟨⟨by decide +kernel, by decide +kernel⟩, List.mem_of_getElem? (i := 796) (by decide +kernel), List.mem_of_getElem? (i := 1011) (by decide +kernel), List.mem_of_getElem? (i := 1012) (by decide +kernel)⟩
theorem lw_p27 : lw_okq (⟨"SongHourModel", "isKey", "(J)Z"⟩, 54) := ⟨⟨by decide +kernel, by decide +kernel⟩, List.mem_of_getElem? (i := 796) (by decide +kernel), List.mem_of_getElem? (i := 1018) (by decide +kernel), List.mem_of_getElem? (i := 1019) (by decide +kernel)⟩
theorem lw_p28 : lw_okq (⟨"SongHourModel", "bad", "(I)Z"⟩, 54) := ⟨⟨by decide +kernel, by decide +kernel⟩, List.mem_of_getElem? (i := 796) (by decide +kernel), List.mem_of_getElem? (i := 1022) (by decide +kernel), List.mem_of_getElem? (i := 1023) (by decide +kernel)⟩
theorem lw_p29 : lw_okq (⟨"SongHourModel", "readNumber", "(II)Z"⟩, 54) := ⟨⟨by decide +kernel, by decide +kernel⟩, List.mem_of_getElem? (i := 796) (by decide +kernel), List.mem_of_getElem? (i := 1026) (by decide +kernel), List.mem_of_getElem? (i := 1027) (by decide +kernel)⟩
theorem lw_p30 : lw_okq (⟨"SongHourModel", "refuse", "()I"⟩, 54) := ⟨⟨by decide +kernel, by decide +kernel⟩, List.mem_of_getElem? (i := 796) (by decide +kernel), List.mem_of_getElem? (i := 1037) (by decide +kernel), List.mem_of_getElem? (i := 1038) (by decide +kernel)⟩
theorem lw_p31 : lw_okq (⟨"SongHourModel", "readItem", "()Z"⟩, 54) := ⟨⟨by decide +kernel, by decide +kernel⟩, List.mem_of_getElem? (i := 796) (by decide +kernel), List.mem_of_getElem? (i := 1041) (by decide +kernel), List.mem_of_getElem? (i := 1042) (by decide +kernel)⟩
def lw_privs_2 : List (MethodName × Nat) := [(⟨"SongHour$RowSearch", "tryLast", "(LSongHour$Songs;IIIII)V"⟩, 20), (⟨"SongHour$RowSearch", "firstThatFits", "(LSongHour$Songs;I)I"⟩, 20), (⟨"SongHour$RowSearch", "mayBegin", "(LSongHour$Songs;III)Z"⟩, 20), (⟨"SongHour$RowSearch", "compare", "(IIII)V"⟩, 20), (⟨"SongHour$RowSearch", "tryNext", "(LSongHour$Songs;IIIII)V"⟩, 20), (⟨"SongHourModel", "come", "(I)V"⟩, 54), (⟨"SongHourModel", "begins", "(I)V"⟩, 54), (⟨"SongHourModel", "go", "()V"⟩, 54), (⟨"SongHourModel", "byteAt", "(I)I"⟩, 54), (⟨"SongHourModel", "readRule", "()Z"⟩, 54), (⟨"SongHourModel", "ruleAtHand", "()I"⟩, 54), (⟨"SongHourModel", "isKey", "(J)Z"⟩, 54), (⟨"SongHourModel", "bad", "(I)Z"⟩, 54), (⟨"SongHourModel", "readNumber", "(II)Z"⟩, 54), (⟨"SongHourModel", "refuse", "()I"⟩, 54), (⟨"SongHourModel", "readItem", "()Z"⟩, 54)]
theorem lw_r2 : ∀ q ∈ lw_privs_2, lw_okq q := List.forall_mem_cons.mpr ⟨lw_p16, List.forall_mem_cons.mpr ⟨lw_p17, List.forall_mem_cons.mpr ⟨lw_p18, List.forall_mem_cons.mpr ⟨lw_p19, List.forall_mem_cons.mpr ⟨lw_p20, List.forall_mem_cons.mpr ⟨lw_p21, List.forall_mem_cons.mpr ⟨lw_p22, List.forall_mem_cons.mpr ⟨lw_p23, List.forall_mem_cons.mpr ⟨lw_p24, List.forall_mem_cons.mpr ⟨lw_p25, List.forall_mem_cons.mpr ⟨lw_p26, List.forall_mem_cons.mpr ⟨lw_p27, List.forall_mem_cons.mpr ⟨lw_p28, List.forall_mem_cons.mpr ⟨lw_p29, List.forall_mem_cons.mpr ⟨lw_p30, List.forall_mem_cons.mpr ⟨lw_p31, fun _ h => absurd h List.not_mem_nil⟩⟩⟩⟩⟩⟩⟩⟩⟩⟩⟩⟩⟩⟩⟩⟩
theorem lw_p32 : lw_okq (⟨"SongHourModel", "isSong", "(I)Z"⟩, 54) := ⟨⟨by decide +kernel, by decide +kernel⟩, List.mem_of_getElem? (i := 796) (by decide +kernel), List.mem_of_getElem? (i := 1064) (by decide +kernel), List.mem_of_getElem? (i := 1065) (by decide +kernel)⟩
theorem lw_p33 : lw_okq (⟨"SongHourModel", "heatOf", "(I)I"⟩, 54) := ⟨⟨by decide +kernel, by decide +kernel⟩, List.mem_of_getElem? (i := 796) (by decide +kernel), List.mem_of_getElem? (i := 1068) (by decide +kernel), List.mem_of_getElem? (i := 1069) (by decide +kernel)⟩
theorem lw_p34 : lw_okq (⟨"SongHourModel", "layStretch", "(III)Z"⟩, 54) := ⟨⟨by decide +kernel, by decide +kernel⟩, List.mem_of_getElem? (i := 796) (by decide +kernel), List.mem_of_getElem? (i := 1080) (by decide +kernel), List.mem_of_getElem? (i := 1081) (by decide +kernel)⟩
theorem lw_p35 : lw_okq (⟨"SongHourModel", "fill", "(IIII)V"⟩, 54) := ⟨⟨by decide +kernel, by decide +kernel⟩, List.mem_of_getElem? (i := 796) (by decide +kernel), List.mem_of_getElem? (i := 1084) (by decide +kernel), List.mem_of_getElem? (i := 1085) (by decide +kernel)⟩
theorem lw_p36 : lw_okq (⟨"SongHourModel", "ask0", "()V"⟩, 54) := ⟨⟨by decide +kernel, by decide +kernel⟩, List.mem_of_getElem? (i := 796) (by decide +kernel), List.mem_of_getElem? (i := 1088) (by decide +kernel), List.mem_of_getElem? (i := 1089) (by decide +kernel)⟩
theorem lw_p37 : lw_okq (⟨"SongHourModel", "rests", "(II)I"⟩, 54) := ⟨⟨by decide +kernel, by decide +kernel⟩, List.mem_of_getElem? (i := 796) (by decide +kernel), List.mem_of_getElem? (i := 1092) (by decide +kernel), List.mem_of_getElem? (i := 1093) (by decide +kernel)⟩
theorem lw_p38 : lw_okq (⟨"SongHourModel", "fits", "(IIIII)Z"⟩, 54) := ⟨⟨by decide +kernel, by decide +kernel⟩, List.mem_of_getElem? (i := 796) (by decide +kernel), List.mem_of_getElem? (i := 1096) (by decide +kernel), List.mem_of_getElem? (i := 1097) (by decide +kernel)⟩
theorem lw_p39 : lw_okq (⟨"SongHourModel", "endOf", "(I)I"⟩, 54) := ⟨⟨by decide +kernel, by decide +kernel⟩, List.mem_of_getElem? (i := 796) (by decide +kernel), List.mem_of_getElem? (i := 1100) (by decide +kernel), List.mem_of_getElem? (i := 1101) (by decide +kernel)⟩
theorem lw_p40 : lw_okq (⟨"SongHourModel", "goWith", "(II)Z"⟩, 54) := ⟨⟨by decide +kernel, by decide +kernel⟩, List.mem_of_getElem? (i := 796) (by decide +kernel), List.mem_of_getElem? (i := 1104) (by decide +kernel), List.mem_of_getElem? (i := 1105) (by decide +kernel)⟩
theorem lw_p41 : lw_okq (⟨"SongHourModel", "judge", "(IIIIII)V"⟩, 54) := ⟨⟨by decide +kernel, by decide +kernel⟩, List.mem_of_getElem? (i := 796) (by decide +kernel), List.mem_of_getElem? (i := 1108) (by decide +kernel), List.mem_of_getElem? (i := 1109) (by decide +kernel)⟩
theorem lw_p42 : lw_okq (⟨"SongHourModel", "comesAhead", "(III)Z"⟩, 54) := ⟨⟨by decide +kernel, by decide +kernel⟩, List.mem_of_getElem? (i := 796) (by decide +kernel), List.mem_of_getElem? (i := 1112) (by decide +kernel), List.mem_of_getElem? (i := 1113) (by decide +kernel)⟩
theorem lw_p43 : lw_okq (⟨"SongHourModel", "soundsOf", "(I)I"⟩, 54) := ⟨⟨by decide +kernel, by decide +kernel⟩, List.mem_of_getElem? (i := 796) (by decide +kernel), List.mem_of_getElem? (i := 1120) (by decide +kernel), List.mem_of_getElem? (i := 1121) (by decide +kernel)⟩
def lw_privs_3 : List (MethodName × Nat) := [(⟨"SongHourModel", "isSong", "(I)Z"⟩, 54), (⟨"SongHourModel", "heatOf", "(I)I"⟩, 54), (⟨"SongHourModel", "layStretch", "(III)Z"⟩, 54), (⟨"SongHourModel", "fill", "(IIII)V"⟩, 54), (⟨"SongHourModel", "ask0", "()V"⟩, 54), (⟨"SongHourModel", "rests", "(II)I"⟩, 54), (⟨"SongHourModel", "fits", "(IIIII)Z"⟩, 54), (⟨"SongHourModel", "endOf", "(I)I"⟩, 54), (⟨"SongHourModel", "goWith", "(II)Z"⟩, 54), (⟨"SongHourModel", "judge", "(IIIIII)V"⟩, 54), (⟨"SongHourModel", "comesAhead", "(III)Z"⟩, 54), (⟨"SongHourModel", "soundsOf", "(I)I"⟩, 54)]
theorem lw_r3 : ∀ q ∈ lw_privs_3, lw_okq q := List.forall_mem_cons.mpr ⟨lw_p32, List.forall_mem_cons.mpr ⟨lw_p33, List.forall_mem_cons.mpr ⟨lw_p34, List.forall_mem_cons.mpr ⟨lw_p35, List.forall_mem_cons.mpr ⟨lw_p36, List.forall_mem_cons.mpr ⟨lw_p37, List.forall_mem_cons.mpr ⟨lw_p38, List.forall_mem_cons.mpr ⟨lw_p39, List.forall_mem_cons.mpr ⟨lw_p40, List.forall_mem_cons.mpr ⟨lw_p41, List.forall_mem_cons.mpr ⟨lw_p42, List.forall_mem_cons.mpr ⟨lw_p43, fun _ h => absurd h List.not_mem_nil⟩⟩⟩⟩⟩⟩⟩⟩⟩⟩⟩⟩
def lw_privs : List (MethodName × Nat) := lw_privs_1 ++ (lw_privs_2 ++ (lw_privs_3))
def lw_tbl : List Cond := k2_sels lw_privs ++ tables_1
theorem lw_privs_ok : ∀ q ∈ lw_privs, lw_okq q := by
  show ∀ q ∈ lw_privs_1 ++ (lw_privs_2 ++ (lw_privs_3)), lw_okq q
  exact List.forall_mem_append.mpr ⟨lw_r1, List.forall_mem_append.mpr ⟨lw_r2, lw_r3⟩⟩
end
section
def RX0 : String := "SongHour$Clock"
def TX0 : u_T := fun k => match k with
  | 0 => ("SongHour$Clock", "size", "I", false)
  | 1 => ("SongHour$Clock", "stretches", "I", false)
  | 2 => ("SongHour$Clock", "seconds", "[I", true)
  | 3 => ("SongHour$Clock", "mood", "[I", true)
  | 4 => ("SongHour$Clock", "wantedNew", "[I", true)
  | 5 => ("SongHour$Clock", "hasSongs", "[Z", true)
  | _ => ("SongHour$Clock", "total", "I", false)
def tyX0 : Nat → FieldType := fun k => match k with
  | 0 => .int
  | 1 => .int
  | 2 => .array .int
  | 3 => .array .int
  | 4 => .array .int
  | 5 => .array .boolean
  | _ => .int
theorem nmX0 : ∀ a, a < 7 → ∀ b, b < 7 → a ≠ b → (TX0 a).2.1 ≠ (TX0 b).2.1 := by decide +kernel
theorem tyX0_ok : ∀ k, k < 7 → parseFieldDescriptor (TX0 k).2.2.1 = some (tyX0 k) := by decide +kernel
abbrev cX0_init : ByteArray := prog_2_method_1_code
def yX0_init : MethodName := ⟨RX0, "<init>", "()V"⟩
abbrev cX0_isStretch : ByteArray := prog_2_method_2_code
def yX0_isStretch : MethodName := ⟨RX0, "isStretch", "(I)Z"⟩
abbrev cX0_become : ByteArray := prog_2_method_3_code
def yX0_become : MethodName := ⟨RX0, "become", "(LSongHour$Clock;)V"⟩
abbrev cX0_read : ByteArray := prog_2_method_4_code
def yX0_read : MethodName := ⟨RX0, "read", "(LSongHour$Text;)Z"⟩
abbrev cX0_readOne : ByteArray := prog_2_method_5_code
def yX0_readOne : MethodName := ⟨RX0, "readOne", "(LSongHour$Text;)Z"⟩
abbrev cX0_add : ByteArray := prog_2_method_6_code
def yX0_add : MethodName := ⟨RX0, "add", "(ZI)I"⟩
abbrev cX0_readWishes : ByteArray := prog_2_method_7_code
def yX0_readWishes : MethodName := ⟨RX0, "readWishes", "(LSongHour$Text;I)Z"⟩
def RX1 : String := "SongHour$Log"
def TX1 : u_T := fun k => match k with
  | 0 => ("SongHour$Log", "hours", "I", false)
  | 1 => ("SongHour$Log", "plays", "I", false)
  | 2 => ("SongHour$Log", "emptyStretches", "I", false)
  | 3 => ("SongHour$Log", "secondsLeft", "I", false)
  | 4 => ("SongHour$Log", "hourItems", "[I", true)
  | 5 => ("SongHour$Log", "itemLeft", "[I", true)
  | 6 => ("SongHour$Log", "playSong", "[I", true)
  | 7 => ("SongHour$Log", "playBegan", "[I", true)
  | 8 => ("SongHour$Log", "playHour", "[I", true)
  | _ => ("SongHour$Log", "playItem", "[I", true)
def tyX1 : Nat → FieldType := fun k => match k with
  | 0 => .int
  | 1 => .int
  | 2 => .int
  | 3 => .int
  | 4 => .array .int
  | 5 => .array .int
  | 6 => .array .int
  | 7 => .array .int
  | 8 => .array .int
  | _ => .array .int
theorem nmX1 : ∀ a, a < 10 → ∀ b, b < 10 → a ≠ b → (TX1 a).2.1 ≠ (TX1 b).2.1 := by decide +kernel
theorem tyX1_ok : ∀ k, k < 10 → parseFieldDescriptor (TX1 k).2.2.1 = some (tyX1 k) := by decide +kernel
abbrev cX1_init : ByteArray := prog_3_method_1_code
def yX1_init : MethodName := ⟨RX1, "<init>", "()V"⟩
abbrev cX1_hasRoomFor : ByteArray := prog_3_method_2_code
def yX1_hasRoomFor : MethodName := ⟨RX1, "hasRoomFor", "(I)Z"⟩
abbrev cX1_addPlay : ByteArray := prog_3_method_3_code
def yX1_addPlay : MethodName := ⟨RX1, "addPlay", "(III)V"⟩
abbrev cX1_noteStretch : ByteArray := prog_3_method_4_code
def yX1_noteStretch : MethodName := ⟨RX1, "noteStretch", "(IIZ)V"⟩
abbrev cX1_closeHour : ByteArray := prog_3_method_5_code
def yX1_closeHour : MethodName := ⟨RX1, "closeHour", "(I)V"⟩
def RX2 : String := "SongHour$RowSearch"
def TX2 : u_T := fun k => match k with
  | 0 => ("SongHour$RowSearch", "best", "[I", true)
  | 1 => ("SongHour$RowSearch", "bestSize", "I", false)
  | 2 => ("SongHour$RowSearch", "bestLeft", "I", false)
  | 3 => ("SongHour$RowSearch", "bestHeat", "I", false)
  | 4 => ("SongHour$RowSearch", "row", "[I", true)
  | 5 => ("SongHour$RowSearch", "heat", "[I", true)
  | 6 => ("SongHour$RowSearch", "songFree", "[I", true)
  | 7 => ("SongHour$RowSearch", "artistFree", "[I", true)
  | 8 => ("SongHour$RowSearch", "pool", "[I", true)
  | 9 => ("SongHour$RowSearch", "longestFirst", "[I", true)
  | 10 => ("SongHour$RowSearch", "poolSize", "I", false)
  | 11 => ("SongHour$RowSearch", "longest", "I", false)
  | 12 => ("SongHour$RowSearch", "hottest", "I", false)
  | 13 => ("SongHour$RowSearch", "gap", "I", false)
  | 14 => ("SongHour$RowSearch", "artistGap", "I", false)
  | 15 => ("SongHour$RowSearch", "steps", "I", false)
  | 16 => ("SongHour$RowSearch", "slack", "I", false)
  | 17 => ("SongHour$RowSearch", "most", "I", false)
  | 18 => ("SongHour$RowSearch", "finish", "I", false)
  | _ => ("SongHour$RowSearch", "wantedNew", "I", false)
def tyX2 : Nat → FieldType := fun k => match k with
  | 0 => .array .int
  | 1 => .int
  | 2 => .int
  | 3 => .int
  | 4 => .array .int
  | 5 => .array .int
  | 6 => .array .int
  | 7 => .array .int
  | 8 => .array .int
  | 9 => .array .int
  | 10 => .int
  | 11 => .int
  | 12 => .int
  | 13 => .int
  | 14 => .int
  | 15 => .int
  | 16 => .int
  | 17 => .int
  | 18 => .int
  | _ => .int
theorem nmX2 : ∀ a, a < 20 → ∀ b, b < 20 → a ≠ b → (TX2 a).2.1 ≠ (TX2 b).2.1 := by decide +kernel
theorem tyX2_ok : ∀ k, k < 20 → parseFieldDescriptor (TX2 k).2.2.1 = some (tyX2 k) := by decide +kernel
abbrev cX2_init : ByteArray := prog_4_method_1_code
def yX2_init : MethodName := ⟨RX2, "<init>", "()V"⟩
abbrev cX2_prepare : ByteArray := prog_4_method_2_code
def yX2_prepare : MethodName := ⟨RX2, "prepare", "(LSongHour$Songs;LSongHour$Rulebook;)V"⟩
abbrev cX2_aim : ByteArray := prog_4_method_3_code
def yX2_aim : MethodName := ⟨RX2, "aim", "(LSongHour$Songs;IIII)V"⟩
abbrev cX2_run : ByteArray := prog_4_method_4_code
def yX2_run : MethodName := ⟨RX2, "run", "(LSongHour$Songs;II)V"⟩
abbrev cX2_gather : ByteArray := prog_4_method_5_code
def yX2_gather : MethodName := ⟨RX2, "gather", "(LSongHour$Songs;I)V"⟩
abbrev cX2_isFreeInTime : ByteArray := prog_4_method_6_code
def yX2_isFreeInTime : MethodName := ⟨RX2, "isFreeInTime", "(LSongHour$Songs;I)Z"⟩
abbrev cX2_sortIn : ByteArray := prog_4_method_7_code
def yX2_sortIn : MethodName := ⟨RX2, "sortIn", "(LSongHour$Songs;I)V"⟩
abbrev cX2_extend : ByteArray := prog_4_method_8_code
def yX2_extend : MethodName := ⟨RX2, "extend", "(LSongHour$Songs;IIIII)V"⟩
abbrev cX2_isHopeless : ByteArray := prog_4_method_9_code
def yX2_isHopeless : MethodName := ⟨RX2, "isHopeless", "(IIII)Z"⟩
abbrev cX2_tryNext : ByteArray := prog_4_method_10_code
def yX2_tryNext : MethodName := ⟨RX2, "tryNext", "(LSongHour$Songs;IIIII)V"⟩
abbrev cX2_tryLast : ByteArray := prog_4_method_11_code
def yX2_tryLast : MethodName := ⟨RX2, "tryLast", "(LSongHour$Songs;IIIII)V"⟩
abbrev cX2_firstThatFits : ByteArray := prog_4_method_12_code
def yX2_firstThatFits : MethodName := ⟨RX2, "firstThatFits", "(LSongHour$Songs;I)I"⟩
abbrev cX2_mayBegin : ByteArray := prog_4_method_13_code
def yX2_mayBegin : MethodName := ⟨RX2, "mayBegin", "(LSongHour$Songs;III)Z"⟩
abbrev cX2_stepsApart : ByteArray := prog_4_method_14_code
def yX2_stepsApart : MethodName := ⟨RX2, "stepsApart", "(II)I"⟩
abbrev cX2_compare : ByteArray := prog_4_method_15_code
def yX2_compare : MethodName := ⟨RX2, "compare", "(IIII)V"⟩
def RX3 : String := "SongHour$Rulebook"
def TX3 : u_T := fun k => match k with
  | 0 => ("SongHour$Rulebook", "now", "[I", true)
  | 1 => ("SongHour$Rulebook", "next", "[I", true)
  | 2 => ("SongHour$Rulebook", "isTold", "[Z", true)
  | _ => ("SongHour$Rulebook", "howMany", "I", false)
def tyX3 : Nat → FieldType := fun k => match k with
  | 0 => .array .int
  | 1 => .array .int
  | 2 => .array .boolean
  | _ => .int
theorem nmX3 : ∀ a, a < 4 → ∀ b, b < 4 → a ≠ b → (TX3 a).2.1 ≠ (TX3 b).2.1 := by decide +kernel
theorem tyX3_ok : ∀ k, k < 4 → parseFieldDescriptor (TX3 k).2.2.1 = some (tyX3 k) := by decide +kernel
abbrev cX3_init : ByteArray := prog_5_method_1_code
def yX3_init : MethodName := ⟨RX3, "<init>", "()V"⟩
abbrev cX3_read : ByteArray := prog_5_method_2_code
def yX3_read : MethodName := ⟨RX3, "read", "(LSongHour$Text;)Z"⟩
abbrev cX3_startAnew : ByteArray := prog_5_method_3_code
def yX3_startAnew : MethodName := ⟨RX3, "startAnew", "()V"⟩
abbrev cX3_readOne : ByteArray := prog_5_method_4_code
def yX3_readOne : MethodName := ⟨RX3, "readOne", "(LSongHour$Text;)Z"⟩
abbrev cX3_named : ByteArray := prog_5_method_5_code
def yX3_named : MethodName := ⟨RX3, "named", "(LSongHour$Text;)I"⟩
def RX4 : String := "SongHour$Songs"
def TX4 : u_T := fun k => match k with
  | 0 => ("SongHour$Songs", "size", "I", false)
  | 1 => ("SongHour$Songs", "seconds", "[I", true)
  | 2 => ("SongHour$Songs", "artist", "[I", true)
  | 3 => ("SongHour$Songs", "key", "[I", true)
  | 4 => ("SongHour$Songs", "mood", "[I", true)
  | 5 => ("SongHour$Songs", "newness", "[I", true)
  | 6 => ("SongHour$Songs", "asksOpen", "[I", true)
  | 7 => ("SongHour$Songs", "asksDone", "[I", true)
  | 8 => ("SongHour$Songs", "played", "[I", true)
  | 9 => ("SongHour$Songs", "began", "[I", true)
  | 10 => ("SongHour$Songs", "artistBegan", "[I", true)
  | 11 => ("SongHour$Songs", "voteSum", "[I", true)
  | 12 => ("SongHour$Songs", "oldestVote", "[I", true)
  | _ => ("SongHour$Songs", "votes", "[B", true)
def tyX4 : Nat → FieldType := fun k => match k with
  | 0 => .int
  | 1 => .array .int
  | 2 => .array .int
  | 3 => .array .int
  | 4 => .array .int
  | 5 => .array .int
  | 6 => .array .int
  | 7 => .array .int
  | 8 => .array .int
  | 9 => .array .int
  | 10 => .array .int
  | 11 => .array .int
  | 12 => .array .int
  | _ => .array .byte
theorem nmX4 : ∀ a, a < 14 → ∀ b, b < 14 → a ≠ b → (TX4 a).2.1 ≠ (TX4 b).2.1 := by decide +kernel
theorem tyX4_ok : ∀ k, k < 14 → parseFieldDescriptor (TX4 k).2.2.1 = some (tyX4 k) := by decide +kernel
abbrev cX4_init : ByteArray := prog_6_method_1_code
def yX4_init : MethodName := ⟨RX4, "<init>", "()V"⟩
abbrev cX4_has : ByteArray := prog_6_method_2_code
def yX4_has : MethodName := ⟨RX4, "has", "(I)Z"⟩
abbrev cX4_add : ByteArray := prog_6_method_3_code
def yX4_add : MethodName := ⟨RX4, "add", "(IIIII)I"⟩
abbrev cX4_takeVote : ByteArray := prog_6_method_4_code
def yX4_takeVote : MethodName := ⟨RX4, "takeVote", "(II)V"⟩
abbrev cX4_heat : ByteArray := prog_6_method_5_code
def yX4_heat : MethodName := ⟨RX4, "heat", "(I)I"⟩
abbrev cX4_allAsksOpen : ByteArray := prog_6_method_6_code
def yX4_allAsksOpen : MethodName := ⟨RX4, "allAsksOpen", "()I"⟩
abbrev cX4_begin : ByteArray := prog_6_method_7_code
def yX4_begin : MethodName := ⟨RX4, "begin", "(II)V"⟩
def RX5 : String := "SongHour$Text"
def TX5 : u_T := fun k => match k with
  | 0 => ("SongHour$Text", "bytes", "[B", true)
  | 1 => ("SongHour$Text", "size", "I", false)
  | 2 => ("SongHour$Text", "faultKind", "I", false)
  | 3 => ("SongHour$Text", "faultPlace", "I", false)
  | 4 => ("SongHour$Text", "token", "I", false)
  | 5 => ("SongHour$Text", "value", "I", false)
  | 6 => ("SongHour$Text", "limit", "I", false)
  | 7 => ("SongHour$Text", "from", "I", false)
  | _ => ("SongHour$Text", "to", "I", false)
def tyX5 : Nat → FieldType := fun k => match k with
  | 0 => .array .byte
  | 1 => .int
  | 2 => .int
  | 3 => .int
  | 4 => .int
  | 5 => .int
  | 6 => .int
  | 7 => .int
  | _ => .int
theorem nmX5 : ∀ a, a < 9 → ∀ b, b < 9 → a ≠ b → (TX5 a).2.1 ≠ (TX5 b).2.1 := by decide +kernel
theorem tyX5_ok : ∀ k, k < 9 → parseFieldDescriptor (TX5 k).2.2.1 = some (tyX5 k) := by decide +kernel
abbrev cX5_init : ByteArray := prog_7_method_1_code
def yX5_init : MethodName := ⟨RX5, "<init>", "()V"⟩
abbrev cX5_hasRoomForFive : ByteArray := prog_7_method_2_code
def yX5_hasRoomForFive : MethodName := ⟨RX5, "hasRoomForFive", "()Z"⟩
abbrev cX5_append : ByteArray := prog_7_method_3_code
def yX5_append : MethodName := ⟨RX5, "append", "(I)V"⟩
abbrev cX5_start : ByteArray := prog_7_method_4_code
def yX5_start : MethodName := ⟨RX5, "start", "(I)V"⟩
abbrev cX5_step : ByteArray := prog_7_method_5_code
def yX5_step : MethodName := ⟨RX5, "step", "()V"⟩
abbrev cX5_readToken : ByteArray := prog_7_method_6_code
def yX5_readToken : MethodName := ⟨RX5, "readToken", "(I)V"⟩
abbrev cX5_kindOf : ByteArray := prog_7_method_7_code
def yX5_kindOf : MethodName := ⟨RX5, "kindOf", "(II)I"⟩
abbrev cX5_isWord : ByteArray := prog_7_method_8_code
def yX5_isWord : MethodName := ⟨RX5, "isWord", "(Ljava/lang/String;)Z"⟩
abbrev cX5_stepToNumber : ByteArray := prog_7_method_9_code
def yX5_stepToNumber : MethodName := ⟨RX5, "stepToNumber", "(II)Z"⟩
abbrev cX5_passSemicolon : ByteArray := prog_7_method_10_code
def yX5_passSemicolon : MethodName := ⟨RX5, "passSemicolon", "()Z"⟩
abbrev cX5_refuse : ByteArray := prog_7_method_11_code
def yX5_refuse : MethodName := ⟨RX5, "refuse", "(I)Z"⟩
abbrev cX5_isBlank : ByteArray := prog_7_method_12_code
def yX5_isBlank : MethodName := ⟨RX5, "isBlank", "(B)Z"⟩
abbrev cX5_isLetter : ByteArray := prog_7_method_13_code
def yX5_isLetter : MethodName := ⟨RX5, "isLetter", "(B)Z"⟩
abbrev cX5_isDigit : ByteArray := prog_7_method_14_code
def yX5_isDigit : MethodName := ⟨RX5, "isDigit", "(B)Z"⟩
def RX6 : String := "SongHour"
def TX6 : u_T := fun k => match k with
  | 0 => ("SongHour", "text", "LSongHour$Text;", true)
  | 1 => ("SongHour", "rulebook", "LSongHour$Rulebook;", true)
  | 2 => ("SongHour", "clocks", "[LSongHour$Clock;", true)
  | 3 => ("SongHour", "draft", "LSongHour$Clock;", true)
  | 4 => ("SongHour", "songs", "LSongHour$Songs;", true)
  | 5 => ("SongHour", "log", "LSongHour$Log;", true)
  | _ => ("SongHour", "search", "LSongHour$RowSearch;", true)
def tyX6 : Nat → FieldType := fun k => match k with
  | 0 => .object "SongHour$Text"
  | 1 => .object "SongHour$Rulebook"
  | 2 => .array (.object "SongHour$Clock")
  | 3 => .object "SongHour$Clock"
  | 4 => .object "SongHour$Songs"
  | 5 => .object "SongHour$Log"
  | _ => .object "SongHour$RowSearch"
theorem nmX6 : ∀ a, a < 7 → ∀ b, b < 7 → a ≠ b → (TX6 a).2.1 ≠ (TX6 b).2.1 := by decide +kernel
theorem tyX6_ok : ∀ k, k < 7 → parseFieldDescriptor (TX6 k).2.2.1 = some (tyX6 k) := by decide +kernel
abbrev cX6_init : ByteArray := prog_1_method_1_code
def yX6_init : MethodName := ⟨RX6, "<init>", "()V"⟩
abbrev cX6_feed : ByteArray := prog_1_method_2_code
def yX6_feed : MethodName := ⟨RX6, "feed", "(IIIII)I"⟩
abbrev cX6_end : ByteArray := prog_1_method_3_code
def yX6_end : MethodName := ⟨RX6, "end", "(I)Z"⟩
abbrev cX6_rules : ByteArray := prog_1_method_4_code
def yX6_rules : MethodName := ⟨RX6, "rules", "()I"⟩
abbrev cX6_clock : ByteArray := prog_1_method_5_code
def yX6_clock : MethodName := ⟨RX6, "clock", "(I)I"⟩
abbrev cX6_fault : ByteArray := prog_1_method_6_code
def yX6_fault : MethodName := ⟨RX6, "fault", "()I"⟩
abbrev cX6_rule : ByteArray := prog_1_method_7_code
def yX6_rule : MethodName := ⟨RX6, "rule", "(I)I"⟩
abbrev cX6_song : ByteArray := prog_1_method_8_code
def yX6_song : MethodName := ⟨RX6, "song", "(IIIIZ)I"⟩
abbrev cX6_vote : ByteArray := prog_1_method_9_code
def yX6_vote : MethodName := ⟨RX6, "vote", "(II)I"⟩
abbrev cX6_ask : ByteArray := prog_1_method_10_code
def yX6_ask : MethodName := ⟨RX6, "ask", "(I)I"⟩
abbrev cX6_lay : ByteArray := prog_1_method_11_code
def yX6_lay : MethodName := ⟨RX6, "lay", "(I)I"⟩
abbrev cX6_told : ByteArray := prog_1_method_12_code
def yX6_told : MethodName := ⟨RX6, "told", "(II)I"⟩
abbrev cX6_play : ByteArray := prog_1_method_13_code
def yX6_play : MethodName := ⟨RX6, "play", "(II)I"⟩
abbrev cX6_left : ByteArray := prog_1_method_14_code
def yX6_left : MethodName := ⟨RX6, "left", "(II)I"⟩
abbrev cX6_at : ByteArray := prog_1_method_15_code
def yX6_at : MethodName := ⟨RX6, "at", "(I)I"⟩
abbrev cX6_rights : ByteArray := prog_1_method_16_code
def yX6_rights : MethodName := ⟨RX6, "rights", "(III)I"⟩
abbrev cX6_items : ByteArray := prog_1_method_17_code
def yX6_items : MethodName := ⟨RX6, "items", "(I)I"⟩
abbrev cX6_count : ByteArray := prog_1_method_18_code
def yX6_count : MethodName := ⟨RX6, "count", "(I)I"⟩
abbrev cX6_isClock : ByteArray := prog_1_method_19_code
def yX6_isClock : MethodName := ⟨RX6, "isClock", "(I)Z"⟩
abbrev cX6_isWithin : ByteArray := prog_1_method_20_code
def yX6_isWithin : MethodName := ⟨RX6, "isWithin", "(III)Z"⟩
abbrev cX6_fillStretch : ByteArray := prog_1_method_21_code
def yX6_fillStretch : MethodName := ⟨RX6, "fillStretch", "(LSongHour$Clock;II)Z"⟩
abbrev cX6_keyAhead : ByteArray := prog_1_method_22_code
def yX6_keyAhead : MethodName := ⟨RX6, "keyAhead", "(I)I"⟩
abbrev cX6_endOfPlay : ByteArray := prog_1_method_23_code
def yX6_endOfPlay : MethodName := ⟨RX6, "endOfPlay", "(I)I"⟩
abbrev cX6_secondsWithin : ByteArray := prog_1_method_24_code
def yX6_secondsWithin : MethodName := ⟨RX6, "secondsWithin", "(III)I"⟩
def RX7 : String := "SongHourModel"
def TX7 : u_T := fun k => match k with
  | 0 => ("SongHourModel", "thrown", "I", false)
  | 1 => ("SongHourModel", "tape", "[I", true)
  | 2 => ("SongHourModel", "taped", "I", false)
  | 3 => ("SongHourModel", "size", "I", false)
  | 4 => ("SongHourModel", "most", "I", false)
  | 5 => ("SongHourModel", "to", "I", false)
  | 6 => ("SongHourModel", "from", "I", false)
  | 7 => ("SongHourModel", "kind", "I", false)
  | 8 => ("SongHourModel", "number", "I", false)
  | 9 => ("SongHourModel", "fault", "I", false)
  | 10 => ("SongHourModel", "place", "I", false)
  | 11 => ("SongHourModel", "told", "I", false)
  | 12 => ("SongHourModel", "word", "J", false)
  | 13 => ("SongHourModel", "rule", "[I", true)
  | 14 => ("SongHourModel", "usual", "[I", true)
  | 15 => ("SongHourModel", "fresh", "[I", true)
  | 16 => ("SongHourModel", "low", "[I", true)
  | 17 => ("SongHourModel", "high", "[I", true)
  | 18 => ("SongHourModel", "many", "[I", true)
  | 19 => ("SongHourModel", "seconds", "[I", true)
  | 20 => ("SongHourModel", "mood", "[I", true)
  | 21 => ("SongHourModel", "fresh0", "[I", true)
  | 22 => ("SongHourModel", "sum", "I", false)
  | 23 => ("SongHourModel", "lasts", "[I", true)
  | 24 => ("SongHourModel", "artist", "[I", true)
  | 25 => ("SongHourModel", "key", "[I", true)
  | 26 => ("SongHourModel", "songMood", "[I", true)
  | 27 => ("SongHourModel", "votes", "[I", true)
  | 28 => ("SongHourModel", "open", "[I", true)
  | 29 => ("SongHourModel", "done", "[I", true)
  | 30 => ("SongHourModel", "vote", "[I", true)
  | 31 => ("SongHourModel", "heat", "[I", true)
  | 32 => ("SongHourModel", "isNew", "[Z", true)
  | 33 => ("SongHourModel", "songs", "I", false)
  | 34 => ("SongHourModel", "played", "[I", true)
  | 35 => ("SongHourModel", "began", "[I", true)
  | 36 => ("SongHourModel", "inItem", "[I", true)
  | 37 => ("SongHourModel", "left", "[I", true)
  | 38 => ("SongHourModel", "plays", "I", false)
  | 39 => ("SongHourModel", "hours", "I", false)
  | 40 => ("SongHourModel", "empty", "I", false)
  | 41 => ("SongHourModel", "leftAll", "I", false)
  | 42 => ("SongHourModel", "soonest", "[I", true)
  | 43 => ("SongHourModel", "rows", "[I", true)
  | 44 => ("SongHourModel", "next", "[I", true)
  | 45 => ("SongHourModel", "taken", "[I", true)
  | 46 => ("SongHourModel", "nextTaken", "[I", true)
  | 47 => ("SongHourModel", "best", "[I", true)
  | 48 => ("SongHourModel", "rowsMany", "I", false)
  | 49 => ("SongHourModel", "nextMany", "I", false)
  | 50 => ("SongHourModel", "bestMany", "I", false)
  | 51 => ("SongHourModel", "bestLeft", "I", false)
  | 52 => ("SongHourModel", "bestHeat", "I", false)
  | _ => ("SongHourModel", "itemsOf", "[I", true)
def tyX7 : Nat → FieldType := fun k => match k with
  | 0 => .int
  | 1 => .array .int
  | 2 => .int
  | 3 => .int
  | 4 => .int
  | 5 => .int
  | 6 => .int
  | 7 => .int
  | 8 => .int
  | 9 => .int
  | 10 => .int
  | 11 => .int
  | 12 => .long
  | 13 => .array .int
  | 14 => .array .int
  | 15 => .array .int
  | 16 => .array .int
  | 17 => .array .int
  | 18 => .array .int
  | 19 => .array .int
  | 20 => .array .int
  | 21 => .array .int
  | 22 => .int
  | 23 => .array .int
  | 24 => .array .int
  | 25 => .array .int
  | 26 => .array .int
  | 27 => .array .int
  | 28 => .array .int
  | 29 => .array .int
  | 30 => .array .int
  | 31 => .array .int
  | 32 => .array .boolean
  | 33 => .int
  | 34 => .array .int
  | 35 => .array .int
  | 36 => .array .int
  | 37 => .array .int
  | 38 => .int
  | 39 => .int
  | 40 => .int
  | 41 => .int
  | 42 => .array .int
  | 43 => .array .int
  | 44 => .array .int
  | 45 => .array .int
  | 46 => .array .int
  | 47 => .array .int
  | 48 => .int
  | 49 => .int
  | 50 => .int
  | 51 => .int
  | 52 => .int
  | _ => .array .int
theorem nmX7 : ∀ a, a < 54 → ∀ b, b < 54 → a ≠ b → (TX7 a).2.1 ≠ (TX7 b).2.1 := by decide +kernel
theorem tyX7_ok : ∀ k, k < 54 → parseFieldDescriptor (TX7 k).2.2.1 = some (tyX7 k) := by decide +kernel
abbrev cX7_init : ByteArray := prog_9_method_1_code
def yX7_init : MethodName := ⟨RX7, "<init>", "()V"⟩
abbrev cX7_thrown : ByteArray := prog_9_method_2_code
def yX7_thrown : MethodName := ⟨RX7, "thrown", "()I"⟩
abbrev cX7_refuse : ByteArray := prog_9_method_3_code
def yX7_refuse : MethodName := ⟨RX7, "refuse", "()I"⟩
abbrev cX7_come : ByteArray := prog_9_method_4_code
def yX7_come : MethodName := ⟨RX7, "come", "(I)V"⟩
abbrev cX7_feed : ByteArray := prog_9_method_5_code
def yX7_feed : MethodName := ⟨RX7, "feed", "(IIIII)I"⟩
abbrev cX7_end : ByteArray := prog_9_method_6_code
def yX7_end : MethodName := ⟨RX7, "end", "(I)Z"⟩
abbrev cX7_byteAt : ByteArray := prog_9_method_7_code
def yX7_byteAt : MethodName := ⟨RX7, "byteAt", "(I)I"⟩
abbrev cX7_isDigit : ByteArray := prog_9_method_8_code
def yX7_isDigit : MethodName := ⟨RX7, "isDigit", "(I)Z"⟩
abbrev cX7_isLetter : ByteArray := prog_9_method_9_code
def yX7_isLetter : MethodName := ⟨RX7, "isLetter", "(I)Z"⟩
abbrev cX7_go : ByteArray := prog_9_method_10_code
def yX7_go : MethodName := ⟨RX7, "go", "()V"⟩
abbrev cX7_spelt : ByteArray := prog_9_method_11_code
def yX7_spelt : MethodName := ⟨RX7, "spelt", "(IIIIII)J"⟩
abbrev cX7_isKey : ByteArray := prog_9_method_12_code
def yX7_isKey : MethodName := ⟨RX7, "isKey", "(J)Z"⟩
abbrev cX7_bad : ByteArray := prog_9_method_13_code
def yX7_bad : MethodName := ⟨RX7, "bad", "(I)Z"⟩
abbrev cX7_begins : ByteArray := prog_9_method_14_code
def yX7_begins : MethodName := ⟨RX7, "begins", "(I)V"⟩
abbrev cX7_readNumber : ByteArray := prog_9_method_15_code
def yX7_readNumber : MethodName := ⟨RX7, "readNumber", "(II)Z"⟩
abbrev cX7_ruleAtHand : ByteArray := prog_9_method_16_code
def yX7_ruleAtHand : MethodName := ⟨RX7, "ruleAtHand", "()I"⟩
abbrev cX7_readRule : ByteArray := prog_9_method_17_code
def yX7_readRule : MethodName := ⟨RX7, "readRule", "()Z"⟩
abbrev cX7_rules : ByteArray := prog_9_method_18_code
def yX7_rules : MethodName := ⟨RX7, "rules", "()I"⟩
abbrev cX7_readItem : ByteArray := prog_9_method_19_code
def yX7_readItem : MethodName := ⟨RX7, "readItem", "()Z"⟩
abbrev cX7_isClock : ByteArray := prog_9_method_20_code
def yX7_isClock : MethodName := ⟨RX7, "isClock", "(I)Z"⟩
abbrev cX7_clock : ByteArray := prog_9_method_21_code
def yX7_clock : MethodName := ⟨RX7, "clock", "(I)I"⟩
abbrev cX7_fault : ByteArray := prog_9_method_22_code
def yX7_fault : MethodName := ⟨RX7, "fault", "()I"⟩
abbrev cX7_rule : ByteArray := prog_9_method_23_code
def yX7_rule : MethodName := ⟨RX7, "rule", "(I)I"⟩
abbrev cX7_isIn : ByteArray := prog_9_method_24_code
def yX7_isIn : MethodName := ⟨RX7, "isIn", "(III)Z"⟩
abbrev cX7_isSong : ByteArray := prog_9_method_25_code
def yX7_isSong : MethodName := ⟨RX7, "isSong", "(I)Z"⟩
abbrev cX7_song : ByteArray := prog_9_method_26_code
def yX7_song : MethodName := ⟨RX7, "song", "(IIIIZ)I"⟩
abbrev cX7_heatOf : ByteArray := prog_9_method_27_code
def yX7_heatOf : MethodName := ⟨RX7, "heatOf", "(I)I"⟩
abbrev cX7_vote : ByteArray := prog_9_method_28_code
def yX7_vote : MethodName := ⟨RX7, "vote", "(II)I"⟩
abbrev cX7_ask : ByteArray := prog_9_method_29_code
def yX7_ask : MethodName := ⟨RX7, "ask", "(I)I"⟩
abbrev cX7_endOf : ByteArray := prog_9_method_30_code
def yX7_endOf : MethodName := ⟨RX7, "endOf", "(I)I"⟩
abbrev cX7_soundsOf : ByteArray := prog_9_method_31_code
def yX7_soundsOf : MethodName := ⟨RX7, "soundsOf", "(I)I"⟩
abbrev cX7_ask0 : ByteArray := prog_9_method_32_code
def yX7_ask0 : MethodName := ⟨RX7, "ask0", "()V"⟩
abbrev cX7_rests : ByteArray := prog_9_method_33_code
def yX7_rests : MethodName := ⟨RX7, "rests", "(II)I"⟩
abbrev cX7_goWith : ByteArray := prog_9_method_34_code
def yX7_goWith : MethodName := ⟨RX7, "goWith", "(II)Z"⟩
abbrev cX7_judge : ByteArray := prog_9_method_35_code
def yX7_judge : MethodName := ⟨RX7, "judge", "(IIIIII)V"⟩
abbrev cX7_comesAhead : ByteArray := prog_9_method_36_code
def yX7_comesAhead : MethodName := ⟨RX7, "comesAhead", "(III)Z"⟩
abbrev cX7_fits : ByteArray := prog_9_method_37_code
def yX7_fits : MethodName := ⟨RX7, "fits", "(IIIII)Z"⟩
abbrev cX7_fill : ByteArray := prog_9_method_38_code
def yX7_fill : MethodName := ⟨RX7, "fill", "(IIII)V"⟩
abbrev cX7_layStretch : ByteArray := prog_9_method_39_code
def yX7_layStretch : MethodName := ⟨RX7, "layStretch", "(III)Z"⟩
abbrev cX7_lay : ByteArray := prog_9_method_40_code
def yX7_lay : MethodName := ⟨RX7, "lay", "(I)I"⟩
abbrev cX7_told : ByteArray := prog_9_method_41_code
def yX7_told : MethodName := ⟨RX7, "told", "(II)I"⟩
abbrev cX7_play : ByteArray := prog_9_method_42_code
def yX7_play : MethodName := ⟨RX7, "play", "(II)I"⟩
abbrev cX7_left : ByteArray := prog_9_method_43_code
def yX7_left : MethodName := ⟨RX7, "left", "(II)I"⟩
abbrev cX7_at : ByteArray := prog_9_method_44_code
def yX7_at : MethodName := ⟨RX7, "at", "(I)I"⟩
abbrev cX7_rights : ByteArray := prog_9_method_45_code
def yX7_rights : MethodName := ⟨RX7, "rights", "(III)I"⟩
abbrev cX7_items : ByteArray := prog_9_method_46_code
def yX7_items : MethodName := ⟨RX7, "items", "(I)I"⟩
abbrev cX7_count : ByteArray := prog_9_method_47_code
def yX7_count : MethodName := ⟨RX7, "count", "(I)I"⟩
def RJ9 : String := "java/lang/Math"
def TJ9 : u_T := fun k => match k with
  | _ => ("", "", "", false)
def tyJ9 : Nat → FieldType := fun k => match k with
  | _ => .int
theorem nmJ9 : ∀ a, a < 0 → ∀ b, b < 0 → a ≠ b → (TJ9 a).2.1 ≠ (TJ9 b).2.1 := by decide +kernel
theorem tyJ9_ok : ∀ k, k < 0 → parseFieldDescriptor (TJ9 k).2.2.1 = some (tyJ9 k) := by decide +kernel
abbrev cJ9_abs_0f7a4 : ByteArray := prog_12_method_59_code
def yJ9_abs_0f7a4 : MethodName := ⟨RJ9, "abs", "(I)I"⟩
abbrev cJ9_max_7cf53 : ByteArray := prog_12_method_65_code
def yJ9_max_7cf53 : MethodName := ⟨RJ9, "max", "(II)I"⟩
abbrev cJ9_min_7cf53 : ByteArray := prog_12_method_69_code
def yJ9_min_7cf53 : MethodName := ⟨RJ9, "min", "(II)I"⟩
def RJ0 : String := "java/lang/String"
def TJ0 : u_T := fun k => match k with
  | _ => ("", "", "", false)
def tyJ0 : Nat → FieldType := fun k => match k with
  | _ => .int
theorem nmJ0 : ∀ a, a < 0 → ∀ b, b < 0 → a ≠ b → (TJ0 a).2.1 ≠ (TJ0 b).2.1 := by decide +kernel
theorem tyJ0_ok : ∀ k, k < 0 → parseFieldDescriptor (TJ0 k).2.2.1 = some (tyJ0 k) := by decide +kernel
abbrev cJ0_length_8abf5 : ByteArray := prog_14_method_54_code
def yJ0_length_8abf5 : MethodName := ⟨RJ0, "length", "()I"⟩
abbrev cJ0_charAt_5068e : ByteArray := prog_14_method_56_code
def yJ0_charAt_5068e : MethodName := ⟨RJ0, "charAt", "(I)C"⟩
abbrev cJ0_coder_7d493 : ByteArray := prog_14_method_152_code
def yJ0_coder_7d493 : MethodName := ⟨RJ0, "coder", "()B"⟩
abbrev cJ0_isLatin1_aae02 : ByteArray := prog_14_method_154_code
def yJ0_isLatin1_aae02 : MethodName := ⟨RJ0, "isLatin1", "()Z"⟩
abbrev cJ0_checkIndex_df160 : ByteArray := prog_14_method_155_code
def yJ0_checkIndex_df160 : MethodName := ⟨RJ0, "checkIndex", "(II)V"⟩
def RJ1 : String := "java/lang/StringLatin1"
def TJ1 : u_T := fun k => match k with
  | _ => ("", "", "", false)
def tyJ1 : Nat → FieldType := fun k => match k with
  | _ => .int
theorem nmJ1 : ∀ a, a < 0 → ∀ b, b < 0 → a ≠ b → (TJ1 a).2.1 ≠ (TJ1 b).2.1 := by decide +kernel
theorem tyJ1_ok : ∀ k, k < 0 → parseFieldDescriptor (TJ1 k).2.2.1 = some (tyJ1 k) := by decide +kernel
abbrev cJ1_charAt_3b067 : ByteArray := prog_15_method_2_code
def yJ1_charAt_3b067 : MethodName := ⟨RJ1, "charAt", "([BI)C"⟩
def RJ2 : String := "java/lang/StringUTF16"
def TJ2 : u_T := fun k => match k with
  | _ => ("", "", "", false)
def tyJ2 : Nat → FieldType := fun k => match k with
  | _ => .int
theorem nmJ2 : ∀ a, a < 0 → ∀ b, b < 0 → a ≠ b → (TJ2 a).2.1 ≠ (TJ2 b).2.1 := by decide +kernel
theorem tyJ2_ok : ∀ k, k < 0 → parseFieldDescriptor (TJ2 k).2.2.1 = some (tyJ2 k) := by decide +kernel
abbrev cJ2_getChar_3b067 : ByteArray := prog_16_method_5_code
def yJ2_getChar_3b067 : MethodName := ⟨RJ2, "getChar", "([BI)C"⟩
abbrev cJ2_length_9d52b : ByteArray := prog_16_method_6_code
def yJ2_length_9d52b : MethodName := ⟨RJ2, "length", "([B)I"⟩
abbrev cJ2_charAt_3b067 : ByteArray := prog_16_method_83_code
def yJ2_charAt_3b067 : MethodName := ⟨RJ2, "charAt", "([BI)C"⟩
abbrev cJ2_checkIndex_2214a : ByteArray := prog_16_method_91_code
def yJ2_checkIndex_2214a : MethodName := ⟨RJ2, "checkIndex", "(I[B)V"⟩
def RJ10 : String := "java/lang/System"
def TJ10 : u_T := fun k => match k with
  | _ => ("", "", "", false)
def tyJ10 : Nat → FieldType := fun k => match k with
  | _ => .int
theorem nmJ10 : ∀ a, a < 0 → ∀ b, b < 0 → a ≠ b → (TJ10 a).2.1 ≠ (TJ10 b).2.1 := by decide +kernel
theorem tyJ10_ok : ∀ k, k < 0 → parseFieldDescriptor (TJ10 k).2.2.1 = some (tyJ10 k) := by decide +kernel
def RJ7 : String := "java/util/Arrays"
def TJ7 : u_T := fun k => match k with
  | _ => ("", "", "", false)
def tyJ7 : Nat → FieldType := fun k => match k with
  | _ => .int
theorem nmJ7 : ∀ a, a < 0 → ∀ b, b < 0 → a ≠ b → (TJ7 a).2.1 ≠ (TJ7 b).2.1 := by decide +kernel
theorem tyJ7_ok : ∀ k, k < 0 → parseFieldDescriptor (TJ7 k).2.2.1 = some (tyJ7 k) := by decide +kernel
abbrev cJ7_fill_53178 : ByteArray := prog_19_method_103_code
def yJ7_fill_53178 : MethodName := ⟨RJ7, "fill", "([II)V"⟩
def RJ3 : String := "jdk/internal/util/Preconditions"
def TJ3 : u_T := fun k => match k with
  | _ => ("", "", "", false)
def tyJ3 : Nat → FieldType := fun k => match k with
  | _ => .int
theorem nmJ3 : ∀ a, a < 0 → ∀ b, b < 0 → a ≠ b → (TJ3 a).2.1 ≠ (TJ3 b).2.1 := by decide +kernel
theorem tyJ3_ok : ∀ k, k < 0 → parseFieldDescriptor (TJ3 k).2.2.1 = some (tyJ3 k) := by decide +kernel
abbrev cJ3_checkIndex_8e157 : ByteArray := prog_21_method_11_code
def yJ3_checkIndex_8e157 : MethodName := ⟨RJ3, "checkIndex", "(IILjava/util/function/BiFunction;)I"⟩
def RL : String := "SongHourLaw"
abbrev cL_clock : ByteArray := method_3_code
def yL_clock : MethodName := ⟨RL, "clock", "(LSongHour;I[J)I"⟩
abbrev cL_lay : ByteArray := method_4_code
def yL_lay : MethodName := ⟨RL, "lay", "(LSongHour;I[J)I"⟩
abbrev cL_play : ByteArray := method_5_code
def yL_play : MethodName := ⟨RL, "play", "(LSongHour;II[J)I"⟩
abbrev cL_left : ByteArray := method_6_code
def yL_left : MethodName := ⟨RL, "left", "(LSongHour;II[J)I"⟩
abbrev cL_items : ByteArray := method_7_code
def yL_items : MethodName := ⟨RL, "items", "(LSongHour;I[J)I"⟩
abbrev cL_law : ByteArray := code
def yL_law : MethodName := ⟨RL, "law", "([I)Z"⟩
abbrev vwCl : List vw_C := [(RX0, TX0, 7), (RX1, TX1, 10), (RX2, TX2, 20), (RX3, TX3, 4), (RX4, TX4, 14), (RX5, TX5, 9), (RX6, TX6, 7), (RX7, TX7, 54)]
end
section
theorem dX0_init_0 : decode cX0_init 0 = .ok (.aload_n 0, 1) := by decide +kernel
theorem dX0_init_1 : decode cX0_init 1 = .ok (.invokespecial 3, 3) := by decide +kernel
theorem dX0_init_4 : decode cX0_init 4 = .ok (.aload_n 0, 1) := by decide +kernel
theorem dX0_init_5 : decode cX0_init 5 = .ok (.bipush 8, 2) := by decide +kernel
theorem dX0_init_7 : decode cX0_init 7 = .ok (.newarray .int, 2) := by decide +kernel
theorem dX0_init_9 : decode cX0_init 9 = .ok (.putfield 9, 3) := by decide +kernel
theorem dX0_init_12 : decode cX0_init 12 = .ok (.aload_n 0, 1) := by decide +kernel
theorem dX0_init_13 : decode cX0_init 13 = .ok (.bipush 8, 2) := by decide +kernel
theorem dX0_init_15 : decode cX0_init 15 = .ok (.newarray .int, 2) := by decide +kernel
theorem dX0_init_17 : decode cX0_init 17 = .ok (.putfield 15, 3) := by decide +kernel
theorem dX0_init_20 : decode cX0_init 20 = .ok (.aload_n 0, 1) := by decide +kernel
theorem dX0_init_21 : decode cX0_init 21 = .ok (.bipush 8, 2) := by decide +kernel
theorem dX0_init_23 : decode cX0_init 23 = .ok (.newarray .int, 2) := by decide +kernel
theorem dX0_init_25 : decode cX0_init 25 = .ok (.putfield 18, 3) := by decide +kernel
theorem dX0_init_28 : decode cX0_init 28 = .ok (.aload_n 0, 1) := by decide +kernel
theorem dX0_init_29 : decode cX0_init 29 = .ok (.bipush 8, 2) := by decide +kernel
theorem dX0_init_31 : decode cX0_init 31 = .ok (.newarray .boolean, 2) := by decide +kernel
theorem dX0_init_33 : decode cX0_init 33 = .ok (.putfield 21, 3) := by decide +kernel
theorem dX0_init_36 : decode cX0_init 36 = .ok (.return_, 1) := by decide +kernel
theorem dX0_isStretch_0 : decode cX0_isStretch 0 = .ok (.aload_n 0, 1) := by decide +kernel
theorem dX0_isStretch_1 : decode cX0_isStretch 1 = .ok (.getfield 21, 3) := by decide +kernel
theorem dX0_isStretch_4 : decode cX0_isStretch 4 = .ok (.iload_n 1, 1) := by decide +kernel
theorem dX0_isStretch_5 : decode cX0_isStretch 5 = .ok (.baload, 1) := by decide +kernel
theorem dX0_isStretch_6 : decode cX0_isStretch 6 = .ok (.ireturn, 1) := by decide +kernel
theorem dX0_become_0 : decode cX0_become 0 = .ok (.aload_n 0, 1) := by decide +kernel
theorem dX0_become_1 : decode cX0_become 1 = .ok (.aload_n 1, 1) := by decide +kernel
theorem dX0_become_2 : decode cX0_become 2 = .ok (.getfield 25, 3) := by decide +kernel
theorem dX0_become_5 : decode cX0_become 5 = .ok (.putfield 25, 3) := by decide +kernel
theorem dX0_become_8 : decode cX0_become 8 = .ok (.aload_n 0, 1) := by decide +kernel
theorem dX0_become_9 : decode cX0_become 9 = .ok (.aload_n 1, 1) := by decide +kernel
theorem dX0_become_10 : decode cX0_become 10 = .ok (.getfield 29, 3) := by decide +kernel
theorem dX0_become_13 : decode cX0_become 13 = .ok (.putfield 29, 3) := by decide +kernel
theorem dX0_become_16 : decode cX0_become 16 = .ok (.aload_n 0, 1) := by decide +kernel
theorem dX0_become_17 : decode cX0_become 17 = .ok (.aload_n 1, 1) := by decide +kernel
theorem dX0_become_18 : decode cX0_become 18 = .ok (.getfield 32, 3) := by decide +kernel
theorem dX0_become_21 : decode cX0_become 21 = .ok (.putfield 32, 3) := by decide +kernel
theorem dX0_become_24 : decode cX0_become 24 = .ok (.iconst 0, 1) := by decide +kernel
theorem dX0_become_25 : decode cX0_become 25 = .ok (.istore_n 2, 1) := by decide +kernel
theorem dX0_become_26 : decode cX0_become 26 = .ok (.iload_n 2, 1) := by decide +kernel
theorem dX0_become_27 : decode cX0_become 27 = .ok (.bipush 8, 2) := by decide +kernel
theorem dX0_become_29 : decode cX0_become 29 = .ok (.if_icmp .ge 57, 3) := by decide +kernel
theorem dX0_become_32 : decode cX0_become 32 = .ok (.aload_n 0, 1) := by decide +kernel
theorem dX0_become_33 : decode cX0_become 33 = .ok (.getfield 9, 3) := by decide +kernel
theorem dX0_become_36 : decode cX0_become 36 = .ok (.iload_n 2, 1) := by decide +kernel
theorem dX0_become_37 : decode cX0_become 37 = .ok (.aload_n 1, 1) := by decide +kernel
theorem dX0_become_38 : decode cX0_become 38 = .ok (.getfield 9, 3) := by decide +kernel
theorem dX0_become_41 : decode cX0_become 41 = .ok (.iload_n 2, 1) := by decide +kernel
theorem dX0_become_42 : decode cX0_become 42 = .ok (.iaload, 1) := by decide +kernel
theorem dX0_become_43 : decode cX0_become 43 = .ok (.iastore, 1) := by decide +kernel
theorem dX0_become_44 : decode cX0_become 44 = .ok (.aload_n 0, 1) := by decide +kernel
theorem dX0_become_45 : decode cX0_become 45 = .ok (.getfield 15, 3) := by decide +kernel
theorem dX0_become_48 : decode cX0_become 48 = .ok (.iload_n 2, 1) := by decide +kernel
theorem dX0_become_49 : decode cX0_become 49 = .ok (.aload_n 1, 1) := by decide +kernel
theorem dX0_become_50 : decode cX0_become 50 = .ok (.getfield 15, 3) := by decide +kernel
theorem dX0_become_53 : decode cX0_become 53 = .ok (.iload_n 2, 1) := by decide +kernel
theorem dX0_become_54 : decode cX0_become 54 = .ok (.iaload, 1) := by decide +kernel
theorem dX0_become_55 : decode cX0_become 55 = .ok (.iastore, 1) := by decide +kernel
theorem dX0_become_56 : decode cX0_become 56 = .ok (.aload_n 0, 1) := by decide +kernel
theorem dX0_become_57 : decode cX0_become 57 = .ok (.getfield 18, 3) := by decide +kernel
theorem dX0_become_60 : decode cX0_become 60 = .ok (.iload_n 2, 1) := by decide +kernel
theorem dX0_become_61 : decode cX0_become 61 = .ok (.aload_n 1, 1) := by decide +kernel
theorem dX0_become_62 : decode cX0_become 62 = .ok (.getfield 18, 3) := by decide +kernel
theorem dX0_become_65 : decode cX0_become 65 = .ok (.iload_n 2, 1) := by decide +kernel
theorem dX0_become_66 : decode cX0_become 66 = .ok (.iaload, 1) := by decide +kernel
theorem dX0_become_67 : decode cX0_become 67 = .ok (.iastore, 1) := by decide +kernel
theorem dX0_become_68 : decode cX0_become 68 = .ok (.aload_n 0, 1) := by decide +kernel
theorem dX0_become_69 : decode cX0_become 69 = .ok (.getfield 21, 3) := by decide +kernel
theorem dX0_become_72 : decode cX0_become 72 = .ok (.iload_n 2, 1) := by decide +kernel
theorem dX0_become_73 : decode cX0_become 73 = .ok (.aload_n 1, 1) := by decide +kernel
theorem dX0_become_74 : decode cX0_become 74 = .ok (.getfield 21, 3) := by decide +kernel
theorem dX0_become_77 : decode cX0_become 77 = .ok (.iload_n 2, 1) := by decide +kernel
theorem dX0_become_78 : decode cX0_become 78 = .ok (.baload, 1) := by decide +kernel
theorem dX0_become_79 : decode cX0_become 79 = .ok (.bastore, 1) := by decide +kernel
theorem dX0_become_80 : decode cX0_become 80 = .ok (.iinc 2 1, 3) := by decide +kernel
theorem dX0_become_83 : decode cX0_become 83 = .ok (.goto (-57), 3) := by decide +kernel
theorem dX0_become_86 : decode cX0_become 86 = .ok (.return_, 1) := by decide +kernel
theorem dX0_read_0 : decode cX0_read 0 = .ok (.aload_n 0, 1) := by decide +kernel
theorem dX0_read_1 : decode cX0_read 1 = .ok (.iconst 0, 1) := by decide +kernel
theorem dX0_read_2 : decode cX0_read 2 = .ok (.putfield 25, 3) := by decide +kernel
theorem dX0_read_5 : decode cX0_read 5 = .ok (.aload_n 0, 1) := by decide +kernel
theorem dX0_read_6 : decode cX0_read 6 = .ok (.iconst 0, 1) := by decide +kernel
theorem dX0_read_7 : decode cX0_read 7 = .ok (.putfield 29, 3) := by decide +kernel
theorem dX0_read_10 : decode cX0_read 10 = .ok (.aload_n 0, 1) := by decide +kernel
theorem dX0_read_11 : decode cX0_read 11 = .ok (.iconst 0, 1) := by decide +kernel
theorem dX0_read_12 : decode cX0_read 12 = .ok (.putfield 32, 3) := by decide +kernel
theorem dX0_read_15 : decode cX0_read 15 = .ok (.aload_n 1, 1) := by decide +kernel
theorem dX0_read_16 : decode cX0_read 16 = .ok (.sipush 240, 3) := by decide +kernel
theorem dX0_read_19 : decode cX0_read 19 = .ok (.invokevirtual 35, 3) := by decide +kernel
theorem dX0_read_22 : decode cX0_read 22 = .ok (.iconst 0, 1) := by decide +kernel
theorem dX0_read_23 : decode cX0_read 23 = .ok (.istore_n 2, 1) := by decide +kernel
theorem dX0_read_24 : decode cX0_read 24 = .ok (.iload_n 2, 1) := by decide +kernel
theorem dX0_read_25 : decode cX0_read 25 = .ok (.bipush 8, 2) := by decide +kernel
theorem dX0_read_27 : decode cX0_read 27 = .ok (.if_icmp .gt 27, 3) := by decide +kernel
theorem dX0_read_30 : decode cX0_read 30 = .ok (.aload_n 1, 1) := by decide +kernel
theorem dX0_read_31 : decode cX0_read 31 = .ok (.getfield 41, 3) := by decide +kernel
theorem dX0_read_34 : decode cX0_read 34 = .ok (.iconst 1, 1) := by decide +kernel
theorem dX0_read_35 : decode cX0_read 35 = .ok (.if_icmp .eq 19, 3) := by decide +kernel
theorem dX0_read_38 : decode cX0_read 38 = .ok (.aload_n 0, 1) := by decide +kernel
theorem dX0_read_39 : decode cX0_read 39 = .ok (.aload_n 1, 1) := by decide +kernel
theorem dX0_read_40 : decode cX0_read 40 = .ok (.invokevirtual 44, 3) := by decide +kernel
theorem dX0_read_43 : decode cX0_read 43 = .ok (.ifCond .ne 5, 3) := by decide +kernel
theorem dX0_read_46 : decode cX0_read 46 = .ok (.iconst 0, 1) := by decide +kernel
theorem dX0_read_47 : decode cX0_read 47 = .ok (.ireturn, 1) := by decide +kernel
theorem dX0_read_48 : decode cX0_read 48 = .ok (.iinc 2 1, 3) := by decide +kernel
theorem dX0_read_51 : decode cX0_read 51 = .ok (.goto (-27), 3) := by decide +kernel
theorem dX0_read_54 : decode cX0_read 54 = .ok (.aload_n 0, 1) := by decide +kernel
theorem dX0_read_55 : decode cX0_read 55 = .ok (.getfield 32, 3) := by decide +kernel
theorem dX0_read_58 : decode cX0_read 58 = .ok (.sipush 3600, 3) := by decide +kernel
theorem dX0_read_61 : decode cX0_read 61 = .ok (.if_icmp .eq 11, 3) := by decide +kernel
theorem dX0_read_64 : decode cX0_read 64 = .ok (.aload_n 1, 1) := by decide +kernel
theorem dX0_read_65 : decode cX0_read 65 = .ok (.iconst 4, 1) := by decide +kernel
theorem dX0_read_66 : decode cX0_read 66 = .ok (.invokevirtual 48, 3) := by decide +kernel
theorem dX0_read_69 : decode cX0_read 69 = .ok (.ifCond .eq 7, 3) := by decide +kernel
theorem dX0_read_72 : decode cX0_read 72 = .ok (.iconst 1, 1) := by decide +kernel
theorem dX0_read_73 : decode cX0_read 73 = .ok (.goto 4, 3) := by decide +kernel
theorem dX0_read_76 : decode cX0_read 76 = .ok (.iconst 0, 1) := by decide +kernel
theorem dX0_read_77 : decode cX0_read 77 = .ok (.ireturn, 1) := by decide +kernel
theorem dX0_readOne_0 : decode cX0_readOne 0 = .ok (.aload_n 1, 1) := by decide +kernel
theorem dX0_readOne_1 : decode cX0_readOne 1 = .ok (.ldc 52, 2) := by decide +kernel
theorem dX0_readOne_3 : decode cX0_readOne 3 = .ok (.invokevirtual 54, 3) := by decide +kernel
theorem dX0_readOne_6 : decode cX0_readOne 6 = .ok (.istore_n 2, 1) := by decide +kernel
theorem dX0_readOne_7 : decode cX0_readOne 7 = .ok (.iload_n 2, 1) := by decide +kernel
theorem dX0_readOne_8 : decode cX0_readOne 8 = .ok (.ifCond .ne 18, 3) := by decide +kernel
theorem dX0_readOne_11 : decode cX0_readOne 11 = .ok (.aload_n 1, 1) := by decide +kernel
theorem dX0_readOne_12 : decode cX0_readOne 12 = .ok (.ldc 58, 2) := by decide +kernel
theorem dX0_readOne_14 : decode cX0_readOne 14 = .ok (.invokevirtual 54, 3) := by decide +kernel
theorem dX0_readOne_17 : decode cX0_readOne 17 = .ok (.ifCond .ne 9, 3) := by decide +kernel
theorem dX0_readOne_20 : decode cX0_readOne 20 = .ok (.aload_n 1, 1) := by decide +kernel
theorem dX0_readOne_21 : decode cX0_readOne 21 = .ok (.iconst 1, 1) := by decide +kernel
theorem dX0_readOne_22 : decode cX0_readOne 22 = .ok (.invokevirtual 48, 3) := by decide +kernel
theorem dX0_readOne_25 : decode cX0_readOne 25 = .ok (.ireturn, 1) := by decide +kernel
theorem dX0_readOne_26 : decode cX0_readOne 26 = .ok (.aload_n 0, 1) := by decide +kernel
theorem dX0_readOne_27 : decode cX0_readOne 27 = .ok (.getfield 25, 3) := by decide +kernel
theorem dX0_readOne_30 : decode cX0_readOne 30 = .ok (.bipush 8, 2) := by decide +kernel
theorem dX0_readOne_32 : decode cX0_readOne 32 = .ok (.if_icmp .lt 9, 3) := by decide +kernel
theorem dX0_readOne_35 : decode cX0_readOne 35 = .ok (.aload_n 1, 1) := by decide +kernel
theorem dX0_readOne_36 : decode cX0_readOne 36 = .ok (.iconst 3, 1) := by decide +kernel
theorem dX0_readOne_37 : decode cX0_readOne 37 = .ok (.invokevirtual 48, 3) := by decide +kernel
theorem dX0_readOne_40 : decode cX0_readOne 40 = .ok (.ireturn, 1) := by decide +kernel
theorem dX0_readOne_41 : decode cX0_readOne 41 = .ok (.aload_n 1, 1) := by decide +kernel
theorem dX0_readOne_42 : decode cX0_readOne 42 = .ok (.iconst 1, 1) := by decide +kernel
theorem dX0_readOne_43 : decode cX0_readOne 43 = .ok (.sipush 3600, 3) := by decide +kernel
theorem dX0_readOne_46 : decode cX0_readOne 46 = .ok (.invokevirtual 60, 3) := by decide +kernel
theorem dX0_readOne_49 : decode cX0_readOne 49 = .ok (.ifCond .ne 5, 3) := by decide +kernel
theorem dX0_readOne_52 : decode cX0_readOne 52 = .ok (.iconst 0, 1) := by decide +kernel
theorem dX0_readOne_53 : decode cX0_readOne 53 = .ok (.ireturn, 1) := by decide +kernel
theorem dX0_readOne_54 : decode cX0_readOne 54 = .ok (.aload_n 1, 1) := by decide +kernel
theorem dX0_readOne_55 : decode cX0_readOne 55 = .ok (.getfield 64, 3) := by decide +kernel
theorem dX0_readOne_58 : decode cX0_readOne 58 = .ok (.sipush 3600, 3) := by decide +kernel
theorem dX0_readOne_61 : decode cX0_readOne 61 = .ok (.aload_n 0, 1) := by decide +kernel
theorem dX0_readOne_62 : decode cX0_readOne 62 = .ok (.getfield 32, 3) := by decide +kernel
theorem dX0_readOne_65 : decode cX0_readOne 65 = .ok (.isub, 1) := by decide +kernel
theorem dX0_readOne_66 : decode cX0_readOne 66 = .ok (.if_icmp .le 9, 3) := by decide +kernel
theorem dX0_readOne_69 : decode cX0_readOne 69 = .ok (.aload_n 1, 1) := by decide +kernel
theorem dX0_readOne_70 : decode cX0_readOne 70 = .ok (.iconst 3, 1) := by decide +kernel
theorem dX0_readOne_71 : decode cX0_readOne 71 = .ok (.invokevirtual 48, 3) := by decide +kernel
theorem dX0_readOne_74 : decode cX0_readOne 74 = .ok (.ireturn, 1) := by decide +kernel
theorem dX0_readOne_75 : decode cX0_readOne 75 = .ok (.aload_n 0, 1) := by decide +kernel
theorem dX0_readOne_76 : decode cX0_readOne 76 = .ok (.iload_n 2, 1) := by decide +kernel
theorem dX0_readOne_77 : decode cX0_readOne 77 = .ok (.aload_n 1, 1) := by decide +kernel
theorem dX0_readOne_78 : decode cX0_readOne 78 = .ok (.getfield 64, 3) := by decide +kernel
theorem dX0_readOne_81 : decode cX0_readOne 81 = .ok (.invokevirtual 67, 3) := by decide +kernel
theorem dX0_readOne_84 : decode cX0_readOne 84 = .ok (.istore_n 3, 1) := by decide +kernel
theorem dX0_readOne_85 : decode cX0_readOne 85 = .ok (.aload_n 1, 1) := by decide +kernel
theorem dX0_readOne_86 : decode cX0_readOne 86 = .ok (.invokevirtual 71, 3) := by decide +kernel
theorem dX0_readOne_89 : decode cX0_readOne 89 = .ok (.iload_n 2, 1) := by decide +kernel
theorem dX0_readOne_90 : decode cX0_readOne 90 = .ok (.ifCond .eq 14, 3) := by decide +kernel
theorem dX0_readOne_93 : decode cX0_readOne 93 = .ok (.aload_n 0, 1) := by decide +kernel
theorem dX0_readOne_94 : decode cX0_readOne 94 = .ok (.aload_n 1, 1) := by decide +kernel
theorem dX0_readOne_95 : decode cX0_readOne 95 = .ok (.iload_n 3, 1) := by decide +kernel
theorem dX0_readOne_96 : decode cX0_readOne 96 = .ok (.invokevirtual 74, 3) := by decide +kernel
theorem dX0_readOne_99 : decode cX0_readOne 99 = .ok (.ifCond .ne 5, 3) := by decide +kernel
theorem dX0_readOne_102 : decode cX0_readOne 102 = .ok (.iconst 0, 1) := by decide +kernel
theorem dX0_readOne_103 : decode cX0_readOne 103 = .ok (.ireturn, 1) := by decide +kernel
theorem dX0_readOne_104 : decode cX0_readOne 104 = .ok (.aload_n 1, 1) := by decide +kernel
theorem dX0_readOne_105 : decode cX0_readOne 105 = .ok (.invokevirtual 78, 3) := by decide +kernel
theorem dX0_readOne_108 : decode cX0_readOne 108 = .ok (.ireturn, 1) := by decide +kernel
theorem dX0_add_0 : decode cX0_add 0 = .ok (.aload_n 0, 1) := by decide +kernel
theorem dX0_add_1 : decode cX0_add 1 = .ok (.getfield 25, 3) := by decide +kernel
theorem dX0_add_4 : decode cX0_add 4 = .ok (.istore_n 3, 1) := by decide +kernel
theorem dX0_add_5 : decode cX0_add 5 = .ok (.aload_n 0, 1) := by decide +kernel
theorem dX0_add_6 : decode cX0_add 6 = .ok (.getfield 9, 3) := by decide +kernel
theorem dX0_add_9 : decode cX0_add 9 = .ok (.iload_n 3, 1) := by decide +kernel
theorem dX0_add_10 : decode cX0_add 10 = .ok (.iload_n 2, 1) := by decide +kernel
theorem dX0_add_11 : decode cX0_add 11 = .ok (.iastore, 1) := by decide +kernel
theorem dX0_add_12 : decode cX0_add 12 = .ok (.aload_n 0, 1) := by decide +kernel
theorem dX0_add_13 : decode cX0_add 13 = .ok (.getfield 15, 3) := by decide +kernel
theorem dX0_add_16 : decode cX0_add 16 = .ok (.iload_n 3, 1) := by decide +kernel
theorem dX0_add_17 : decode cX0_add 17 = .ok (.iconst (-1), 1) := by decide +kernel
theorem dX0_add_18 : decode cX0_add 18 = .ok (.iastore, 1) := by decide +kernel
theorem dX0_add_19 : decode cX0_add 19 = .ok (.aload_n 0, 1) := by decide +kernel
theorem dX0_add_20 : decode cX0_add 20 = .ok (.getfield 18, 3) := by decide +kernel
theorem dX0_add_23 : decode cX0_add 23 = .ok (.iload_n 3, 1) := by decide +kernel
theorem dX0_add_24 : decode cX0_add 24 = .ok (.iconst 0, 1) := by decide +kernel
theorem dX0_add_25 : decode cX0_add 25 = .ok (.iastore, 1) := by decide +kernel
theorem dX0_add_26 : decode cX0_add 26 = .ok (.aload_n 0, 1) := by decide +kernel
theorem dX0_add_27 : decode cX0_add 27 = .ok (.getfield 21, 3) := by decide +kernel
theorem dX0_add_30 : decode cX0_add 30 = .ok (.iload_n 3, 1) := by decide +kernel
theorem dX0_add_31 : decode cX0_add 31 = .ok (.iload_n 1, 1) := by decide +kernel
theorem dX0_add_32 : decode cX0_add 32 = .ok (.bastore, 1) := by decide +kernel
theorem dX0_add_33 : decode cX0_add 33 = .ok (.aload_n 0, 1) := by decide +kernel
theorem dX0_add_34 : decode cX0_add 34 = .ok (.dup, 1) := by decide +kernel
theorem dX0_add_35 : decode cX0_add 35 = .ok (.getfield 29, 3) := by decide +kernel
theorem dX0_add_38 : decode cX0_add 38 = .ok (.iload_n 1, 1) := by decide +kernel
theorem dX0_add_39 : decode cX0_add 39 = .ok (.ifCond .eq 7, 3) := by decide +kernel
theorem dX0_add_42 : decode cX0_add 42 = .ok (.iconst 1, 1) := by decide +kernel
theorem dX0_add_43 : decode cX0_add 43 = .ok (.goto 4, 3) := by decide +kernel
theorem dX0_add_46 : decode cX0_add 46 = .ok (.iconst 0, 1) := by decide +kernel
theorem dX0_add_47 : decode cX0_add 47 = .ok (.iadd, 1) := by decide +kernel
theorem dX0_add_48 : decode cX0_add 48 = .ok (.putfield 29, 3) := by decide +kernel
theorem dX0_add_51 : decode cX0_add 51 = .ok (.aload_n 0, 1) := by decide +kernel
theorem dX0_add_52 : decode cX0_add 52 = .ok (.dup, 1) := by decide +kernel
theorem dX0_add_53 : decode cX0_add 53 = .ok (.getfield 32, 3) := by decide +kernel
theorem dX0_add_56 : decode cX0_add 56 = .ok (.iload_n 2, 1) := by decide +kernel
theorem dX0_add_57 : decode cX0_add 57 = .ok (.iadd, 1) := by decide +kernel
theorem dX0_add_58 : decode cX0_add 58 = .ok (.putfield 32, 3) := by decide +kernel
theorem dX0_add_61 : decode cX0_add 61 = .ok (.aload_n 0, 1) := by decide +kernel
theorem dX0_add_62 : decode cX0_add 62 = .ok (.dup, 1) := by decide +kernel
theorem dX0_add_63 : decode cX0_add 63 = .ok (.getfield 25, 3) := by decide +kernel
theorem dX0_add_66 : decode cX0_add 66 = .ok (.iconst 1, 1) := by decide +kernel
theorem dX0_add_67 : decode cX0_add 67 = .ok (.iadd, 1) := by decide +kernel
theorem dX0_add_68 : decode cX0_add 68 = .ok (.putfield 25, 3) := by decide +kernel
theorem dX0_add_71 : decode cX0_add 71 = .ok (.iload_n 3, 1) := by decide +kernel
theorem dX0_add_72 : decode cX0_add 72 = .ok (.ireturn, 1) := by decide +kernel
theorem dX0_readWishes_0 : decode cX0_readWishes 0 = .ok (.aload_n 1, 1) := by decide +kernel
theorem dX0_readWishes_1 : decode cX0_readWishes 1 = .ok (.ldc 82, 2) := by decide +kernel
theorem dX0_readWishes_3 : decode cX0_readWishes 3 = .ok (.invokevirtual 54, 3) := by decide +kernel
theorem dX0_readWishes_6 : decode cX0_readWishes 6 = .ok (.ifCond .eq 28, 3) := by decide +kernel
theorem dX0_readWishes_9 : decode cX0_readWishes 9 = .ok (.aload_n 1, 1) := by decide +kernel
theorem dX0_readWishes_10 : decode cX0_readWishes 10 = .ok (.iconst 0, 1) := by decide +kernel
theorem dX0_readWishes_11 : decode cX0_readWishes 11 = .ok (.iconst 3, 1) := by decide +kernel
theorem dX0_readWishes_12 : decode cX0_readWishes 12 = .ok (.invokevirtual 60, 3) := by decide +kernel
theorem dX0_readWishes_15 : decode cX0_readWishes 15 = .ok (.ifCond .ne 5, 3) := by decide +kernel
theorem dX0_readWishes_18 : decode cX0_readWishes 18 = .ok (.iconst 0, 1) := by decide +kernel
theorem dX0_readWishes_19 : decode cX0_readWishes 19 = .ok (.ireturn, 1) := by decide +kernel
theorem dX0_readWishes_20 : decode cX0_readWishes 20 = .ok (.aload_n 0, 1) := by decide +kernel
theorem dX0_readWishes_21 : decode cX0_readWishes 21 = .ok (.getfield 15, 3) := by decide +kernel
theorem dX0_readWishes_24 : decode cX0_readWishes 24 = .ok (.iload_n 2, 1) := by decide +kernel
theorem dX0_readWishes_25 : decode cX0_readWishes 25 = .ok (.aload_n 1, 1) := by decide +kernel
theorem dX0_readWishes_26 : decode cX0_readWishes 26 = .ok (.getfield 64, 3) := by decide +kernel
theorem dX0_readWishes_29 : decode cX0_readWishes 29 = .ok (.iastore, 1) := by decide +kernel
theorem dX0_readWishes_30 : decode cX0_readWishes 30 = .ok (.aload_n 1, 1) := by decide +kernel
theorem dX0_readWishes_31 : decode cX0_readWishes 31 = .ok (.invokevirtual 71, 3) := by decide +kernel
theorem dX0_readWishes_34 : decode cX0_readWishes 34 = .ok (.aload_n 1, 1) := by decide +kernel
theorem dX0_readWishes_35 : decode cX0_readWishes 35 = .ok (.ldc 83, 2) := by decide +kernel
theorem dX0_readWishes_37 : decode cX0_readWishes 37 = .ok (.invokevirtual 54, 3) := by decide +kernel
theorem dX0_readWishes_40 : decode cX0_readWishes 40 = .ok (.ifCond .eq 28, 3) := by decide +kernel
theorem dX0_readWishes_43 : decode cX0_readWishes 43 = .ok (.aload_n 1, 1) := by decide +kernel
theorem dX0_readWishes_44 : decode cX0_readWishes 44 = .ok (.iconst 0, 1) := by decide +kernel
theorem dX0_readWishes_45 : decode cX0_readWishes 45 = .ok (.iconst 4, 1) := by decide +kernel
theorem dX0_readWishes_46 : decode cX0_readWishes 46 = .ok (.invokevirtual 60, 3) := by decide +kernel
theorem dX0_readWishes_49 : decode cX0_readWishes 49 = .ok (.ifCond .ne 5, 3) := by decide +kernel
theorem dX0_readWishes_52 : decode cX0_readWishes 52 = .ok (.iconst 0, 1) := by decide +kernel
theorem dX0_readWishes_53 : decode cX0_readWishes 53 = .ok (.ireturn, 1) := by decide +kernel
theorem dX0_readWishes_54 : decode cX0_readWishes 54 = .ok (.aload_n 0, 1) := by decide +kernel
theorem dX0_readWishes_55 : decode cX0_readWishes 55 = .ok (.getfield 18, 3) := by decide +kernel
theorem dX0_readWishes_58 : decode cX0_readWishes 58 = .ok (.iload_n 2, 1) := by decide +kernel
theorem dX0_readWishes_59 : decode cX0_readWishes 59 = .ok (.aload_n 1, 1) := by decide +kernel
theorem dX0_readWishes_60 : decode cX0_readWishes 60 = .ok (.getfield 64, 3) := by decide +kernel
theorem dX0_readWishes_63 : decode cX0_readWishes 63 = .ok (.iastore, 1) := by decide +kernel
theorem dX0_readWishes_64 : decode cX0_readWishes 64 = .ok (.aload_n 1, 1) := by decide +kernel
theorem dX0_readWishes_65 : decode cX0_readWishes 65 = .ok (.invokevirtual 71, 3) := by decide +kernel
theorem dX0_readWishes_68 : decode cX0_readWishes 68 = .ok (.iconst 1, 1) := by decide +kernel
theorem dX0_readWishes_69 : decode cX0_readWishes 69 = .ok (.ireturn, 1) := by decide +kernel
theorem dX1_init_0 : decode cX1_init 0 = .ok (.aload_n 0, 1) := by decide +kernel
theorem dX1_init_1 : decode cX1_init 1 = .ok (.invokespecial 3, 3) := by decide +kernel
theorem dX1_init_4 : decode cX1_init 4 = .ok (.aload_n 0, 1) := by decide +kernel
theorem dX1_init_5 : decode cX1_init 5 = .ok (.sipush 168, 3) := by decide +kernel
theorem dX1_init_8 : decode cX1_init 8 = .ok (.newarray .int, 2) := by decide +kernel
theorem dX1_init_10 : decode cX1_init 10 = .ok (.putfield 9, 3) := by decide +kernel
theorem dX1_init_13 : decode cX1_init 13 = .ok (.aload_n 0, 1) := by decide +kernel
theorem dX1_init_14 : decode cX1_init 14 = .ok (.sipush 1344, 3) := by decide +kernel
theorem dX1_init_17 : decode cX1_init 17 = .ok (.newarray .int, 2) := by decide +kernel
theorem dX1_init_19 : decode cX1_init 19 = .ok (.putfield 15, 3) := by decide +kernel
theorem dX1_init_22 : decode cX1_init 22 = .ok (.aload_n 0, 1) := by decide +kernel
theorem dX1_init_23 : decode cX1_init 23 = .ok (.sipush 300, 3) := by decide +kernel
theorem dX1_init_26 : decode cX1_init 26 = .ok (.newarray .int, 2) := by decide +kernel
theorem dX1_init_28 : decode cX1_init 28 = .ok (.putfield 18, 3) := by decide +kernel
theorem dX1_init_31 : decode cX1_init 31 = .ok (.aload_n 0, 1) := by decide +kernel
theorem dX1_init_32 : decode cX1_init 32 = .ok (.sipush 300, 3) := by decide +kernel
theorem dX1_init_35 : decode cX1_init 35 = .ok (.newarray .int, 2) := by decide +kernel
theorem dX1_init_37 : decode cX1_init 37 = .ok (.putfield 21, 3) := by decide +kernel
theorem dX1_init_40 : decode cX1_init 40 = .ok (.aload_n 0, 1) := by decide +kernel
theorem dX1_init_41 : decode cX1_init 41 = .ok (.sipush 300, 3) := by decide +kernel
theorem dX1_init_44 : decode cX1_init 44 = .ok (.newarray .int, 2) := by decide +kernel
theorem dX1_init_46 : decode cX1_init 46 = .ok (.putfield 24, 3) := by decide +kernel
theorem dX1_init_49 : decode cX1_init 49 = .ok (.aload_n 0, 1) := by decide +kernel
theorem dX1_init_50 : decode cX1_init 50 = .ok (.sipush 300, 3) := by decide +kernel
theorem dX1_init_53 : decode cX1_init 53 = .ok (.newarray .int, 2) := by decide +kernel
theorem dX1_init_55 : decode cX1_init 55 = .ok (.putfield 27, 3) := by decide +kernel
theorem dX1_init_58 : decode cX1_init 58 = .ok (.return_, 1) := by decide +kernel
theorem dX1_hasRoomFor_0 : decode cX1_hasRoomFor 0 = .ok (.aload_n 0, 1) := by decide +kernel
theorem dX1_hasRoomFor_1 : decode cX1_hasRoomFor 1 = .ok (.getfield 30, 3) := by decide +kernel
theorem dX1_hasRoomFor_4 : decode cX1_hasRoomFor 4 = .ok (.sipush 168, 3) := by decide +kernel
theorem dX1_hasRoomFor_7 : decode cX1_hasRoomFor 7 = .ok (.if_icmp .ge 21, 3) := by decide +kernel
theorem dX1_hasRoomFor_10 : decode cX1_hasRoomFor 10 = .ok (.aload_n 0, 1) := by decide +kernel
theorem dX1_hasRoomFor_11 : decode cX1_hasRoomFor 11 = .ok (.getfield 34, 3) := by decide +kernel
theorem dX1_hasRoomFor_14 : decode cX1_hasRoomFor 14 = .ok (.iconst 4, 1) := by decide +kernel
theorem dX1_hasRoomFor_15 : decode cX1_hasRoomFor 15 = .ok (.iload_n 1, 1) := by decide +kernel
theorem dX1_hasRoomFor_16 : decode cX1_hasRoomFor 16 = .ok (.imul, 1) := by decide +kernel
theorem dX1_hasRoomFor_17 : decode cX1_hasRoomFor 17 = .ok (.iadd, 1) := by decide +kernel
theorem dX1_hasRoomFor_18 : decode cX1_hasRoomFor 18 = .ok (.sipush 300, 3) := by decide +kernel
theorem dX1_hasRoomFor_21 : decode cX1_hasRoomFor 21 = .ok (.if_icmp .gt 7, 3) := by decide +kernel
theorem dX1_hasRoomFor_24 : decode cX1_hasRoomFor 24 = .ok (.iconst 1, 1) := by decide +kernel
theorem dX1_hasRoomFor_25 : decode cX1_hasRoomFor 25 = .ok (.goto 4, 3) := by decide +kernel
theorem dX1_hasRoomFor_28 : decode cX1_hasRoomFor 28 = .ok (.iconst 0, 1) := by decide +kernel
theorem dX1_hasRoomFor_29 : decode cX1_hasRoomFor 29 = .ok (.ireturn, 1) := by decide +kernel
theorem dX1_addPlay_0 : decode cX1_addPlay 0 = .ok (.aload_n 0, 1) := by decide +kernel
theorem dX1_addPlay_1 : decode cX1_addPlay 1 = .ok (.getfield 18, 3) := by decide +kernel
theorem dX1_addPlay_4 : decode cX1_addPlay 4 = .ok (.aload_n 0, 1) := by decide +kernel
theorem dX1_addPlay_5 : decode cX1_addPlay 5 = .ok (.getfield 34, 3) := by decide +kernel
theorem dX1_addPlay_8 : decode cX1_addPlay 8 = .ok (.iload_n 1, 1) := by decide +kernel
theorem dX1_addPlay_9 : decode cX1_addPlay 9 = .ok (.iastore, 1) := by decide +kernel
theorem dX1_addPlay_10 : decode cX1_addPlay 10 = .ok (.aload_n 0, 1) := by decide +kernel
theorem dX1_addPlay_11 : decode cX1_addPlay 11 = .ok (.getfield 21, 3) := by decide +kernel
theorem dX1_addPlay_14 : decode cX1_addPlay 14 = .ok (.aload_n 0, 1) := by decide +kernel
theorem dX1_addPlay_15 : decode cX1_addPlay 15 = .ok (.getfield 34, 3) := by decide +kernel
theorem dX1_addPlay_18 : decode cX1_addPlay 18 = .ok (.iload_n 2, 1) := by decide +kernel
theorem dX1_addPlay_19 : decode cX1_addPlay 19 = .ok (.iastore, 1) := by decide +kernel
theorem dX1_addPlay_20 : decode cX1_addPlay 20 = .ok (.aload_n 0, 1) := by decide +kernel
theorem dX1_addPlay_21 : decode cX1_addPlay 21 = .ok (.getfield 24, 3) := by decide +kernel
theorem dX1_addPlay_24 : decode cX1_addPlay 24 = .ok (.aload_n 0, 1) := by decide +kernel
theorem dX1_addPlay_25 : decode cX1_addPlay 25 = .ok (.getfield 34, 3) := by decide +kernel
theorem dX1_addPlay_28 : decode cX1_addPlay 28 = .ok (.aload_n 0, 1) := by decide +kernel
theorem dX1_addPlay_29 : decode cX1_addPlay 29 = .ok (.getfield 30, 3) := by decide +kernel
theorem dX1_addPlay_32 : decode cX1_addPlay 32 = .ok (.iastore, 1) := by decide +kernel
theorem dX1_addPlay_33 : decode cX1_addPlay 33 = .ok (.aload_n 0, 1) := by decide +kernel
theorem dX1_addPlay_34 : decode cX1_addPlay 34 = .ok (.getfield 27, 3) := by decide +kernel
theorem dX1_addPlay_37 : decode cX1_addPlay 37 = .ok (.aload_n 0, 1) := by decide +kernel
theorem dX1_addPlay_38 : decode cX1_addPlay 38 = .ok (.getfield 34, 3) := by decide +kernel
theorem dX1_addPlay_41 : decode cX1_addPlay 41 = .ok (.iload_n 3, 1) := by decide +kernel
theorem dX1_addPlay_42 : decode cX1_addPlay 42 = .ok (.iastore, 1) := by decide +kernel
theorem dX1_addPlay_43 : decode cX1_addPlay 43 = .ok (.aload_n 0, 1) := by decide +kernel
theorem dX1_addPlay_44 : decode cX1_addPlay 44 = .ok (.dup, 1) := by decide +kernel
theorem dX1_addPlay_45 : decode cX1_addPlay 45 = .ok (.getfield 34, 3) := by decide +kernel
theorem dX1_addPlay_48 : decode cX1_addPlay 48 = .ok (.iconst 1, 1) := by decide +kernel
theorem dX1_addPlay_49 : decode cX1_addPlay 49 = .ok (.iadd, 1) := by decide +kernel
theorem dX1_addPlay_50 : decode cX1_addPlay 50 = .ok (.putfield 34, 3) := by decide +kernel
theorem dX1_addPlay_53 : decode cX1_addPlay 53 = .ok (.return_, 1) := by decide +kernel
theorem dX1_noteStretch_0 : decode cX1_noteStretch 0 = .ok (.aload_n 0, 1) := by decide +kernel
theorem dX1_noteStretch_1 : decode cX1_noteStretch 1 = .ok (.getfield 15, 3) := by decide +kernel
theorem dX1_noteStretch_4 : decode cX1_noteStretch 4 = .ok (.aload_n 0, 1) := by decide +kernel
theorem dX1_noteStretch_5 : decode cX1_noteStretch 5 = .ok (.getfield 30, 3) := by decide +kernel
theorem dX1_noteStretch_8 : decode cX1_noteStretch 8 = .ok (.bipush 8, 2) := by decide +kernel
theorem dX1_noteStretch_10 : decode cX1_noteStretch 10 = .ok (.imul, 1) := by decide +kernel
theorem dX1_noteStretch_11 : decode cX1_noteStretch 11 = .ok (.iload_n 1, 1) := by decide +kernel
theorem dX1_noteStretch_12 : decode cX1_noteStretch 12 = .ok (.iadd, 1) := by decide +kernel
theorem dX1_noteStretch_13 : decode cX1_noteStretch 13 = .ok (.iload_n 2, 1) := by decide +kernel
theorem dX1_noteStretch_14 : decode cX1_noteStretch 14 = .ok (.iastore, 1) := by decide +kernel
theorem dX1_noteStretch_15 : decode cX1_noteStretch 15 = .ok (.aload_n 0, 1) := by decide +kernel
theorem dX1_noteStretch_16 : decode cX1_noteStretch 16 = .ok (.dup, 1) := by decide +kernel
theorem dX1_noteStretch_17 : decode cX1_noteStretch 17 = .ok (.getfield 37, 3) := by decide +kernel
theorem dX1_noteStretch_20 : decode cX1_noteStretch 20 = .ok (.iload_n 2, 1) := by decide +kernel
theorem dX1_noteStretch_21 : decode cX1_noteStretch 21 = .ok (.iadd, 1) := by decide +kernel
theorem dX1_noteStretch_22 : decode cX1_noteStretch 22 = .ok (.putfield 37, 3) := by decide +kernel
theorem dX1_noteStretch_25 : decode cX1_noteStretch 25 = .ok (.aload_n 0, 1) := by decide +kernel
theorem dX1_noteStretch_26 : decode cX1_noteStretch 26 = .ok (.dup, 1) := by decide +kernel
theorem dX1_noteStretch_27 : decode cX1_noteStretch 27 = .ok (.getfield 40, 3) := by decide +kernel
theorem dX1_noteStretch_30 : decode cX1_noteStretch 30 = .ok (.iload_n 3, 1) := by decide +kernel
theorem dX1_noteStretch_31 : decode cX1_noteStretch 31 = .ok (.ifCond .eq 7, 3) := by decide +kernel
theorem dX1_noteStretch_34 : decode cX1_noteStretch 34 = .ok (.iconst 1, 1) := by decide +kernel
theorem dX1_noteStretch_35 : decode cX1_noteStretch 35 = .ok (.goto 4, 3) := by decide +kernel
theorem dX1_noteStretch_38 : decode cX1_noteStretch 38 = .ok (.iconst 0, 1) := by decide +kernel
theorem dX1_noteStretch_39 : decode cX1_noteStretch 39 = .ok (.iadd, 1) := by decide +kernel
theorem dX1_noteStretch_40 : decode cX1_noteStretch 40 = .ok (.putfield 40, 3) := by decide +kernel
theorem dX1_noteStretch_43 : decode cX1_noteStretch 43 = .ok (.return_, 1) := by decide +kernel
theorem dX1_closeHour_0 : decode cX1_closeHour 0 = .ok (.aload_n 0, 1) := by decide +kernel
theorem dX1_closeHour_1 : decode cX1_closeHour 1 = .ok (.getfield 9, 3) := by decide +kernel
theorem dX1_closeHour_4 : decode cX1_closeHour 4 = .ok (.aload_n 0, 1) := by decide +kernel
theorem dX1_closeHour_5 : decode cX1_closeHour 5 = .ok (.getfield 30, 3) := by decide +kernel
theorem dX1_closeHour_8 : decode cX1_closeHour 8 = .ok (.iload_n 1, 1) := by decide +kernel
theorem dX1_closeHour_9 : decode cX1_closeHour 9 = .ok (.iastore, 1) := by decide +kernel
theorem dX1_closeHour_10 : decode cX1_closeHour 10 = .ok (.aload_n 0, 1) := by decide +kernel
theorem dX1_closeHour_11 : decode cX1_closeHour 11 = .ok (.dup, 1) := by decide +kernel
theorem dX1_closeHour_12 : decode cX1_closeHour 12 = .ok (.getfield 30, 3) := by decide +kernel
theorem dX1_closeHour_15 : decode cX1_closeHour 15 = .ok (.iconst 1, 1) := by decide +kernel
theorem dX1_closeHour_16 : decode cX1_closeHour 16 = .ok (.iadd, 1) := by decide +kernel
theorem dX1_closeHour_17 : decode cX1_closeHour 17 = .ok (.putfield 30, 3) := by decide +kernel
theorem dX1_closeHour_20 : decode cX1_closeHour 20 = .ok (.return_, 1) := by decide +kernel
theorem dX2_init_0 : decode cX2_init 0 = .ok (.aload_n 0, 1) := by decide +kernel
theorem dX2_init_1 : decode cX2_init 1 = .ok (.invokespecial 3, 3) := by decide +kernel
theorem dX2_init_4 : decode cX2_init 4 = .ok (.aload_n 0, 1) := by decide +kernel
theorem dX2_init_5 : decode cX2_init 5 = .ok (.iconst 4, 1) := by decide +kernel
theorem dX2_init_6 : decode cX2_init 6 = .ok (.newarray .int, 2) := by decide +kernel
theorem dX2_init_8 : decode cX2_init 8 = .ok (.putfield 9, 3) := by decide +kernel
theorem dX2_init_11 : decode cX2_init 11 = .ok (.aload_n 0, 1) := by decide +kernel
theorem dX2_init_12 : decode cX2_init 12 = .ok (.iconst 4, 1) := by decide +kernel
theorem dX2_init_13 : decode cX2_init 13 = .ok (.newarray .int, 2) := by decide +kernel
theorem dX2_init_15 : decode cX2_init 15 = .ok (.putfield 15, 3) := by decide +kernel
theorem dX2_init_18 : decode cX2_init 18 = .ok (.aload_n 0, 1) := by decide +kernel
theorem dX2_init_19 : decode cX2_init 19 = .ok (.bipush 24, 2) := by decide +kernel
theorem dX2_init_21 : decode cX2_init 21 = .ok (.newarray .int, 2) := by decide +kernel
theorem dX2_init_23 : decode cX2_init 23 = .ok (.putfield 18, 3) := by decide +kernel
theorem dX2_init_26 : decode cX2_init 26 = .ok (.aload_n 0, 1) := by decide +kernel
theorem dX2_init_27 : decode cX2_init 27 = .ok (.bipush 24, 2) := by decide +kernel
theorem dX2_init_29 : decode cX2_init 29 = .ok (.newarray .int, 2) := by decide +kernel
theorem dX2_init_31 : decode cX2_init 31 = .ok (.putfield 21, 3) := by decide +kernel
theorem dX2_init_34 : decode cX2_init 34 = .ok (.aload_n 0, 1) := by decide +kernel
theorem dX2_init_35 : decode cX2_init 35 = .ok (.bipush 12, 2) := by decide +kernel
theorem dX2_init_37 : decode cX2_init 37 = .ok (.newarray .int, 2) := by decide +kernel
theorem dX2_init_39 : decode cX2_init 39 = .ok (.putfield 24, 3) := by decide +kernel
theorem dX2_init_42 : decode cX2_init 42 = .ok (.aload_n 0, 1) := by decide +kernel
theorem dX2_init_43 : decode cX2_init 43 = .ok (.bipush 24, 2) := by decide +kernel
theorem dX2_init_45 : decode cX2_init 45 = .ok (.newarray .int, 2) := by decide +kernel
theorem dX2_init_47 : decode cX2_init 47 = .ok (.putfield 27, 3) := by decide +kernel
theorem dX2_init_50 : decode cX2_init 50 = .ok (.aload_n 0, 1) := by decide +kernel
theorem dX2_init_51 : decode cX2_init 51 = .ok (.bipush 24, 2) := by decide +kernel
theorem dX2_init_53 : decode cX2_init 53 = .ok (.newarray .int, 2) := by decide +kernel
theorem dX2_init_55 : decode cX2_init 55 = .ok (.putfield 30, 3) := by decide +kernel
theorem dX2_init_58 : decode cX2_init 58 = .ok (.return_, 1) := by decide +kernel
theorem dX2_prepare_0 : decode cX2_prepare 0 = .ok (.aload_n 0, 1) := by decide +kernel
theorem dX2_prepare_1 : decode cX2_prepare 1 = .ok (.aload_n 2, 1) := by decide +kernel
theorem dX2_prepare_2 : decode cX2_prepare 2 = .ok (.getfield 33, 3) := by decide +kernel
theorem dX2_prepare_5 : decode cX2_prepare 5 = .ok (.iconst 0, 1) := by decide +kernel
theorem dX2_prepare_6 : decode cX2_prepare 6 = .ok (.iaload, 1) := by decide +kernel
theorem dX2_prepare_7 : decode cX2_prepare 7 = .ok (.bipush 60, 2) := by decide +kernel
theorem dX2_prepare_9 : decode cX2_prepare 9 = .ok (.imul, 1) := by decide +kernel
theorem dX2_prepare_10 : decode cX2_prepare 10 = .ok (.putfield 38, 3) := by decide +kernel
theorem dX2_prepare_13 : decode cX2_prepare 13 = .ok (.aload_n 0, 1) := by decide +kernel
theorem dX2_prepare_14 : decode cX2_prepare 14 = .ok (.aload_n 2, 1) := by decide +kernel
theorem dX2_prepare_15 : decode cX2_prepare 15 = .ok (.getfield 33, 3) := by decide +kernel
theorem dX2_prepare_18 : decode cX2_prepare 18 = .ok (.iconst 1, 1) := by decide +kernel
theorem dX2_prepare_19 : decode cX2_prepare 19 = .ok (.iaload, 1) := by decide +kernel
theorem dX2_prepare_20 : decode cX2_prepare 20 = .ok (.bipush 60, 2) := by decide +kernel
theorem dX2_prepare_22 : decode cX2_prepare 22 = .ok (.imul, 1) := by decide +kernel
theorem dX2_prepare_23 : decode cX2_prepare 23 = .ok (.putfield 42, 3) := by decide +kernel
theorem dX2_prepare_26 : decode cX2_prepare 26 = .ok (.aload_n 0, 1) := by decide +kernel
theorem dX2_prepare_27 : decode cX2_prepare 27 = .ok (.aload_n 2, 1) := by decide +kernel
theorem dX2_prepare_28 : decode cX2_prepare 28 = .ok (.getfield 33, 3) := by decide +kernel
theorem dX2_prepare_31 : decode cX2_prepare 31 = .ok (.iconst 2, 1) := by decide +kernel
theorem dX2_prepare_32 : decode cX2_prepare 32 = .ok (.iaload, 1) := by decide +kernel
theorem dX2_prepare_33 : decode cX2_prepare 33 = .ok (.putfield 45, 3) := by decide +kernel
theorem dX2_prepare_36 : decode cX2_prepare 36 = .ok (.aload_n 0, 1) := by decide +kernel
theorem dX2_prepare_37 : decode cX2_prepare 37 = .ok (.aload_n 2, 1) := by decide +kernel
theorem dX2_prepare_38 : decode cX2_prepare 38 = .ok (.getfield 33, 3) := by decide +kernel
theorem dX2_prepare_41 : decode cX2_prepare 41 = .ok (.iconst 3, 1) := by decide +kernel
theorem dX2_prepare_42 : decode cX2_prepare 42 = .ok (.iaload, 1) := by decide +kernel
theorem dX2_prepare_43 : decode cX2_prepare 43 = .ok (.putfield 48, 3) := by decide +kernel
theorem dX2_prepare_46 : decode cX2_prepare 46 = .ok (.aload_n 0, 1) := by decide +kernel
theorem dX2_prepare_47 : decode cX2_prepare 47 = .ok (.aload_n 2, 1) := by decide +kernel
theorem dX2_prepare_48 : decode cX2_prepare 48 = .ok (.getfield 33, 3) := by decide +kernel
theorem dX2_prepare_51 : decode cX2_prepare 51 = .ok (.iconst 4, 1) := by decide +kernel
theorem dX2_prepare_52 : decode cX2_prepare 52 = .ok (.iaload, 1) := by decide +kernel
theorem dX2_prepare_53 : decode cX2_prepare 53 = .ok (.iconst 4, 1) := by decide +kernel
theorem dX2_prepare_54 : decode cX2_prepare 54 = .ok (.invokestatic 51, 3) := by decide +kernel
theorem dX2_prepare_57 : decode cX2_prepare 57 = .ok (.putfield 57, 3) := by decide +kernel
theorem dX2_prepare_60 : decode cX2_prepare 60 = .ok (.iconst 0, 1) := by decide +kernel
theorem dX2_prepare_61 : decode cX2_prepare 61 = .ok (.istore_n 3, 1) := by decide +kernel
theorem dX2_prepare_62 : decode cX2_prepare 62 = .ok (.iload_n 3, 1) := by decide +kernel
theorem dX2_prepare_63 : decode cX2_prepare 63 = .ok (.aload_n 1, 1) := by decide +kernel
theorem dX2_prepare_64 : decode cX2_prepare 64 = .ok (.getfield 60, 3) := by decide +kernel
theorem dX2_prepare_67 : decode cX2_prepare 67 = .ok (.if_icmp .ge 20, 3) := by decide +kernel
theorem dX2_prepare_70 : decode cX2_prepare 70 = .ok (.aload_n 0, 1) := by decide +kernel
theorem dX2_prepare_71 : decode cX2_prepare 71 = .ok (.getfield 18, 3) := by decide +kernel
theorem dX2_prepare_74 : decode cX2_prepare 74 = .ok (.iload_n 3, 1) := by decide +kernel
theorem dX2_prepare_75 : decode cX2_prepare 75 = .ok (.aload_n 1, 1) := by decide +kernel
theorem dX2_prepare_76 : decode cX2_prepare 76 = .ok (.iload_n 3, 1) := by decide +kernel
theorem dX2_prepare_77 : decode cX2_prepare 77 = .ok (.invokevirtual 65, 3) := by decide +kernel
theorem dX2_prepare_80 : decode cX2_prepare 80 = .ok (.iastore, 1) := by decide +kernel
theorem dX2_prepare_81 : decode cX2_prepare 81 = .ok (.iinc 3 1, 3) := by decide +kernel
theorem dX2_prepare_84 : decode cX2_prepare 84 = .ok (.goto (-22), 3) := by decide +kernel
theorem dX2_prepare_87 : decode cX2_prepare 87 = .ok (.return_, 1) := by decide +kernel
theorem dX2_aim_0 : decode cX2_aim 0 = .ok (.aload_n 0, 1) := by decide +kernel
theorem dX2_aim_1 : decode cX2_aim 1 = .ok (.iload_n 2, 1) := by decide +kernel
theorem dX2_aim_2 : decode cX2_aim 2 = .ok (.iload_n 3, 1) := by decide +kernel
theorem dX2_aim_3 : decode cX2_aim 3 = .ok (.iadd, 1) := by decide +kernel
theorem dX2_aim_4 : decode cX2_aim 4 = .ok (.putfield 68, 3) := by decide +kernel
theorem dX2_aim_7 : decode cX2_aim 7 = .ok (.aload_n 0, 1) := by decide +kernel
theorem dX2_aim_8 : decode cX2_aim 8 = .ok (.iload 5, 2) := by decide +kernel
theorem dX2_aim_10 : decode cX2_aim 10 = .ok (.putfield 71, 3) := by decide +kernel
theorem dX2_aim_13 : decode cX2_aim 13 = .ok (.aload_n 0, 1) := by decide +kernel
theorem dX2_aim_14 : decode cX2_aim 14 = .ok (.iconst 0, 1) := by decide +kernel
theorem dX2_aim_15 : decode cX2_aim 15 = .ok (.putfield 74, 3) := by decide +kernel
theorem dX2_aim_18 : decode cX2_aim 18 = .ok (.aload_n 0, 1) := by decide +kernel
theorem dX2_aim_19 : decode cX2_aim 19 = .ok (.aload_n 0, 1) := by decide +kernel
theorem dX2_aim_20 : decode cX2_aim 20 = .ok (.getfield 48, 3) := by decide +kernel
theorem dX2_aim_23 : decode cX2_aim 23 = .ok (.putfield 77, 3) := by decide +kernel
theorem dX2_aim_26 : decode cX2_aim 26 = .ok (.aload_n 0, 1) := by decide +kernel
theorem dX2_aim_27 : decode cX2_aim 27 = .ok (.iconst (-1), 1) := by decide +kernel
theorem dX2_aim_28 : decode cX2_aim 28 = .ok (.putfield 80, 3) := by decide +kernel
theorem dX2_aim_31 : decode cX2_aim 31 = .ok (.iconst 0, 1) := by decide +kernel
theorem dX2_aim_32 : decode cX2_aim 32 = .ok (.istore 6, 2) := by decide +kernel
theorem dX2_aim_34 : decode cX2_aim 34 = .ok (.iload 6, 2) := by decide +kernel
theorem dX2_aim_36 : decode cX2_aim 36 = .ok (.aload_n 1, 1) := by decide +kernel
theorem dX2_aim_37 : decode cX2_aim 37 = .ok (.getfield 60, 3) := by decide +kernel
theorem dX2_aim_40 : decode cX2_aim 40 = .ok (.if_icmp .ge 43, 3) := by decide +kernel
theorem dX2_aim_43 : decode cX2_aim 43 = .ok (.aload_n 0, 1) := by decide +kernel
theorem dX2_aim_44 : decode cX2_aim 44 = .ok (.getfield 21, 3) := by decide +kernel
theorem dX2_aim_47 : decode cX2_aim 47 = .ok (.iload 6, 2) := by decide +kernel
theorem dX2_aim_49 : decode cX2_aim 49 = .ok (.aload_n 1, 1) := by decide +kernel
theorem dX2_aim_50 : decode cX2_aim 50 = .ok (.getfield 83, 3) := by decide +kernel
theorem dX2_aim_53 : decode cX2_aim 53 = .ok (.iload 6, 2) := by decide +kernel
theorem dX2_aim_55 : decode cX2_aim 55 = .ok (.iaload, 1) := by decide +kernel
theorem dX2_aim_56 : decode cX2_aim 56 = .ok (.iconst (-1), 1) := by decide +kernel
theorem dX2_aim_57 : decode cX2_aim 57 = .ok (.if_icmp .ne 7, 3) := by decide +kernel
theorem dX2_aim_60 : decode cX2_aim 60 = .ok (.iconst 0, 1) := by decide +kernel
theorem dX2_aim_61 : decode cX2_aim 61 = .ok (.goto 15, 3) := by decide +kernel
theorem dX2_aim_64 : decode cX2_aim 64 = .ok (.aload_n 1, 1) := by decide +kernel
theorem dX2_aim_65 : decode cX2_aim 65 = .ok (.getfield 83, 3) := by decide +kernel
theorem dX2_aim_68 : decode cX2_aim 68 = .ok (.iload 6, 2) := by decide +kernel
theorem dX2_aim_70 : decode cX2_aim 70 = .ok (.iaload, 1) := by decide +kernel
theorem dX2_aim_71 : decode cX2_aim 71 = .ok (.aload_n 0, 1) := by decide +kernel
theorem dX2_aim_72 : decode cX2_aim 72 = .ok (.getfield 38, 3) := by decide +kernel
theorem dX2_aim_75 : decode cX2_aim 75 = .ok (.iadd, 1) := by decide +kernel
theorem dX2_aim_76 : decode cX2_aim 76 = .ok (.iastore, 1) := by decide +kernel
theorem dX2_aim_77 : decode cX2_aim 77 = .ok (.iinc 6 1, 3) := by decide +kernel
theorem dX2_aim_80 : decode cX2_aim 80 = .ok (.goto (-46), 3) := by decide +kernel
theorem dX2_aim_83 : decode cX2_aim 83 = .ok (.iconst 0, 1) := by decide +kernel
theorem dX2_aim_84 : decode cX2_aim 84 = .ok (.istore 6, 2) := by decide +kernel
theorem dX2_aim_86 : decode cX2_aim 86 = .ok (.iload 6, 2) := by decide +kernel
theorem dX2_aim_88 : decode cX2_aim 88 = .ok (.bipush 12, 2) := by decide +kernel
theorem dX2_aim_90 : decode cX2_aim 90 = .ok (.if_icmp .ge 43, 3) := by decide +kernel
theorem dX2_aim_93 : decode cX2_aim 93 = .ok (.aload_n 0, 1) := by decide +kernel
theorem dX2_aim_94 : decode cX2_aim 94 = .ok (.getfield 24, 3) := by decide +kernel
theorem dX2_aim_97 : decode cX2_aim 97 = .ok (.iload 6, 2) := by decide +kernel
theorem dX2_aim_99 : decode cX2_aim 99 = .ok (.aload_n 1, 1) := by decide +kernel
theorem dX2_aim_100 : decode cX2_aim 100 = .ok (.getfield 86, 3) := by decide +kernel
theorem dX2_aim_103 : decode cX2_aim 103 = .ok (.iload 6, 2) := by decide +kernel
theorem dX2_aim_105 : decode cX2_aim 105 = .ok (.iaload, 1) := by decide +kernel
theorem dX2_aim_106 : decode cX2_aim 106 = .ok (.iconst (-1), 1) := by decide +kernel
theorem dX2_aim_107 : decode cX2_aim 107 = .ok (.if_icmp .ne 7, 3) := by decide +kernel
theorem dX2_aim_110 : decode cX2_aim 110 = .ok (.iconst 0, 1) := by decide +kernel
theorem dX2_aim_111 : decode cX2_aim 111 = .ok (.goto 15, 3) := by decide +kernel
theorem dX2_aim_114 : decode cX2_aim 114 = .ok (.aload_n 1, 1) := by decide +kernel
theorem dX2_aim_115 : decode cX2_aim 115 = .ok (.getfield 86, 3) := by decide +kernel
theorem dX2_aim_118 : decode cX2_aim 118 = .ok (.iload 6, 2) := by decide +kernel
theorem dX2_aim_120 : decode cX2_aim 120 = .ok (.iaload, 1) := by decide +kernel
theorem dX2_aim_121 : decode cX2_aim 121 = .ok (.aload_n 0, 1) := by decide +kernel
theorem dX2_aim_122 : decode cX2_aim 122 = .ok (.getfield 42, 3) := by decide +kernel
theorem dX2_aim_125 : decode cX2_aim 125 = .ok (.iadd, 1) := by decide +kernel
theorem dX2_aim_126 : decode cX2_aim 126 = .ok (.iastore, 1) := by decide +kernel
theorem dX2_aim_127 : decode cX2_aim 127 = .ok (.iinc 6 1, 3) := by decide +kernel
theorem dX2_aim_130 : decode cX2_aim 130 = .ok (.goto (-44), 3) := by decide +kernel
theorem dX2_aim_133 : decode cX2_aim 133 = .ok (.aload_n 0, 1) := by decide +kernel
theorem dX2_aim_134 : decode cX2_aim 134 = .ok (.aload_n 1, 1) := by decide +kernel
theorem dX2_aim_135 : decode cX2_aim 135 = .ok (.iload 4, 2) := by decide +kernel
theorem dX2_aim_137 : decode cX2_aim 137 = .ok (.invokevirtual 89, 3) := by decide +kernel
theorem dX2_aim_140 : decode cX2_aim 140 = .ok (.return_, 1) := by decide +kernel
theorem dX2_run_0 : decode cX2_run 0 = .ok (.aload_n 0, 1) := by decide +kernel
theorem dX2_run_1 : decode cX2_run 1 = .ok (.aload_n 1, 1) := by decide +kernel
theorem dX2_run_2 : decode cX2_run 2 = .ok (.iconst 0, 1) := by decide +kernel
theorem dX2_run_3 : decode cX2_run 3 = .ok (.iload_n 2, 1) := by decide +kernel
theorem dX2_run_4 : decode cX2_run 4 = .ok (.iload_n 3, 1) := by decide +kernel
theorem dX2_run_5 : decode cX2_run 5 = .ok (.iconst 0, 1) := by decide +kernel
theorem dX2_run_6 : decode cX2_run 6 = .ok (.iconst 0, 1) := by decide +kernel
theorem dX2_run_7 : decode cX2_run 7 = .ok (.invokevirtual 93, 3) := by decide +kernel
theorem dX2_run_10 : decode cX2_run 10 = .ok (.return_, 1) := by decide +kernel
theorem dX2_gather_0 : decode cX2_gather 0 = .ok (.aload_n 0, 1) := by decide +kernel
theorem dX2_gather_1 : decode cX2_gather 1 = .ok (.iconst 0, 1) := by decide +kernel
theorem dX2_gather_2 : decode cX2_gather 2 = .ok (.putfield 97, 3) := by decide +kernel
theorem dX2_gather_5 : decode cX2_gather 5 = .ok (.aload_n 0, 1) := by decide +kernel
theorem dX2_gather_6 : decode cX2_gather 6 = .ok (.iconst 0, 1) := by decide +kernel
theorem dX2_gather_7 : decode cX2_gather 7 = .ok (.putfield 100, 3) := by decide +kernel
theorem dX2_gather_10 : decode cX2_gather 10 = .ok (.aload_n 0, 1) := by decide +kernel
theorem dX2_gather_11 : decode cX2_gather 11 = .ok (.iconst 0, 1) := by decide +kernel
theorem dX2_gather_12 : decode cX2_gather 12 = .ok (.putfield 103, 3) := by decide +kernel
theorem dX2_gather_15 : decode cX2_gather 15 = .ok (.iconst 0, 1) := by decide +kernel
theorem dX2_gather_16 : decode cX2_gather 16 = .ok (.istore_n 3, 1) := by decide +kernel
theorem dX2_gather_17 : decode cX2_gather 17 = .ok (.iconst 0, 1) := by decide +kernel
theorem dX2_gather_18 : decode cX2_gather 18 = .ok (.istore 4, 2) := by decide +kernel
theorem dX2_gather_20 : decode cX2_gather 20 = .ok (.iload 4, 2) := by decide +kernel
theorem dX2_gather_22 : decode cX2_gather 22 = .ok (.aload_n 1, 1) := by decide +kernel
theorem dX2_gather_23 : decode cX2_gather 23 = .ok (.getfield 60, 3) := by decide +kernel
theorem dX2_gather_26 : decode cX2_gather 26 = .ok (.if_icmp .ge 109, 3) := by decide +kernel
theorem dX2_gather_29 : decode cX2_gather 29 = .ok (.iload_n 2, 1) := by decide +kernel
theorem dX2_gather_30 : decode cX2_gather 30 = .ok (.iconst (-1), 1) := by decide +kernel
theorem dX2_gather_31 : decode cX2_gather 31 = .ok (.if_icmp .eq 14, 3) := by decide +kernel
theorem dX2_gather_34 : decode cX2_gather 34 = .ok (.aload_n 1, 1) := by decide +kernel
theorem dX2_gather_35 : decode cX2_gather 35 = .ok (.getfield 106, 3) := by decide +kernel
theorem dX2_gather_38 : decode cX2_gather 38 = .ok (.iload 4, 2) := by decide +kernel
theorem dX2_gather_40 : decode cX2_gather 40 = .ok (.iaload, 1) := by decide +kernel
theorem dX2_gather_41 : decode cX2_gather 41 = .ok (.iload_n 2, 1) := by decide +kernel
theorem dX2_gather_42 : decode cX2_gather 42 = .ok (.if_icmp .ne 87, 3) := by decide +kernel
theorem dX2_gather_45 : decode cX2_gather 45 = .ok (.aload_n 0, 1) := by decide +kernel
theorem dX2_gather_46 : decode cX2_gather 46 = .ok (.aload_n 1, 1) := by decide +kernel
theorem dX2_gather_47 : decode cX2_gather 47 = .ok (.iload 4, 2) := by decide +kernel
theorem dX2_gather_49 : decode cX2_gather 49 = .ok (.invokevirtual 109, 3) := by decide +kernel
theorem dX2_gather_52 : decode cX2_gather 52 = .ok (.ifCond .eq 77, 3) := by decide +kernel
theorem dX2_gather_55 : decode cX2_gather 55 = .ok (.aload_n 0, 1) := by decide +kernel
theorem dX2_gather_56 : decode cX2_gather 56 = .ok (.getfield 27, 3) := by decide +kernel
theorem dX2_gather_59 : decode cX2_gather 59 = .ok (.aload_n 0, 1) := by decide +kernel
theorem dX2_gather_60 : decode cX2_gather 60 = .ok (.getfield 97, 3) := by decide +kernel
theorem dX2_gather_63 : decode cX2_gather 63 = .ok (.iload 4, 2) := by decide +kernel
theorem dX2_gather_65 : decode cX2_gather 65 = .ok (.iastore, 1) := by decide +kernel
theorem dX2_gather_66 : decode cX2_gather 66 = .ok (.aload_n 0, 1) := by decide +kernel
theorem dX2_gather_67 : decode cX2_gather 67 = .ok (.aload_n 1, 1) := by decide +kernel
theorem dX2_gather_68 : decode cX2_gather 68 = .ok (.iload 4, 2) := by decide +kernel
theorem dX2_gather_70 : decode cX2_gather 70 = .ok (.invokevirtual 113, 3) := by decide +kernel
theorem dX2_gather_73 : decode cX2_gather 73 = .ok (.aload_n 0, 1) := by decide +kernel
theorem dX2_gather_74 : decode cX2_gather 74 = .ok (.dup, 1) := by decide +kernel
theorem dX2_gather_75 : decode cX2_gather 75 = .ok (.getfield 97, 3) := by decide +kernel
theorem dX2_gather_78 : decode cX2_gather 78 = .ok (.iconst 1, 1) := by decide +kernel
theorem dX2_gather_79 : decode cX2_gather 79 = .ok (.iadd, 1) := by decide +kernel
theorem dX2_gather_80 : decode cX2_gather 80 = .ok (.putfield 97, 3) := by decide +kernel
theorem dX2_gather_83 : decode cX2_gather 83 = .ok (.aload_n 0, 1) := by decide +kernel
theorem dX2_gather_84 : decode cX2_gather 84 = .ok (.aload_n 0, 1) := by decide +kernel
theorem dX2_gather_85 : decode cX2_gather 85 = .ok (.getfield 100, 3) := by decide +kernel
theorem dX2_gather_88 : decode cX2_gather 88 = .ok (.aload_n 1, 1) := by decide +kernel
theorem dX2_gather_89 : decode cX2_gather 89 = .ok (.getfield 116, 3) := by decide +kernel
theorem dX2_gather_92 : decode cX2_gather 92 = .ok (.iload 4, 2) := by decide +kernel
theorem dX2_gather_94 : decode cX2_gather 94 = .ok (.iaload, 1) := by decide +kernel
theorem dX2_gather_95 : decode cX2_gather 95 = .ok (.invokestatic 119, 3) := by decide +kernel
theorem dX2_gather_98 : decode cX2_gather 98 = .ok (.putfield 100, 3) := by decide +kernel
theorem dX2_gather_101 : decode cX2_gather 101 = .ok (.aload_n 0, 1) := by decide +kernel
theorem dX2_gather_102 : decode cX2_gather 102 = .ok (.aload_n 0, 1) := by decide +kernel
theorem dX2_gather_103 : decode cX2_gather 103 = .ok (.getfield 103, 3) := by decide +kernel
theorem dX2_gather_106 : decode cX2_gather 106 = .ok (.aload_n 0, 1) := by decide +kernel
theorem dX2_gather_107 : decode cX2_gather 107 = .ok (.getfield 18, 3) := by decide +kernel
theorem dX2_gather_110 : decode cX2_gather 110 = .ok (.iload 4, 2) := by decide +kernel
theorem dX2_gather_112 : decode cX2_gather 112 = .ok (.iaload, 1) := by decide +kernel
theorem dX2_gather_113 : decode cX2_gather 113 = .ok (.invokestatic 119, 3) := by decide +kernel
theorem dX2_gather_116 : decode cX2_gather 116 = .ok (.putfield 103, 3) := by decide +kernel
theorem dX2_gather_119 : decode cX2_gather 119 = .ok (.iload_n 3, 1) := by decide +kernel
theorem dX2_gather_120 : decode cX2_gather 120 = .ok (.aload_n 1, 1) := by decide +kernel
theorem dX2_gather_121 : decode cX2_gather 121 = .ok (.getfield 122, 3) := by decide +kernel
theorem dX2_gather_124 : decode cX2_gather 124 = .ok (.iload 4, 2) := by decide +kernel
theorem dX2_gather_126 : decode cX2_gather 126 = .ok (.iaload, 1) := by decide +kernel
theorem dX2_gather_127 : decode cX2_gather 127 = .ok (.iadd, 1) := by decide +kernel
theorem dX2_gather_128 : decode cX2_gather 128 = .ok (.istore_n 3, 1) := by decide +kernel
theorem dX2_gather_129 : decode cX2_gather 129 = .ok (.iinc 4 1, 3) := by decide +kernel
theorem dX2_gather_132 : decode cX2_gather 132 = .ok (.goto (-112), 3) := by decide +kernel
theorem dX2_gather_135 : decode cX2_gather 135 = .ok (.aload_n 0, 1) := by decide +kernel
theorem dX2_gather_136 : decode cX2_gather 136 = .ok (.getfield 71, 3) := by decide +kernel
theorem dX2_gather_139 : decode cX2_gather 139 = .ok (.ifCond .le 12, 3) := by decide +kernel
theorem dX2_gather_142 : decode cX2_gather 142 = .ok (.iload_n 3, 1) := by decide +kernel
theorem dX2_gather_143 : decode cX2_gather 143 = .ok (.ifCond .ne 8, 3) := by decide +kernel
theorem dX2_gather_146 : decode cX2_gather 146 = .ok (.aload_n 0, 1) := by decide +kernel
theorem dX2_gather_147 : decode cX2_gather 147 = .ok (.iconst 0, 1) := by decide +kernel
theorem dX2_gather_148 : decode cX2_gather 148 = .ok (.putfield 97, 3) := by decide +kernel
theorem dX2_gather_151 : decode cX2_gather 151 = .ok (.return_, 1) := by decide +kernel
theorem dX2_isFreeInTime_0 : decode cX2_isFreeInTime 0 = .ok (.aload_n 0, 1) := by decide +kernel
theorem dX2_isFreeInTime_1 : decode cX2_isFreeInTime 1 = .ok (.getfield 68, 3) := by decide +kernel
theorem dX2_isFreeInTime_4 : decode cX2_isFreeInTime 4 = .ok (.aload_n 1, 1) := by decide +kernel
theorem dX2_isFreeInTime_5 : decode cX2_isFreeInTime 5 = .ok (.getfield 116, 3) := by decide +kernel
theorem dX2_isFreeInTime_8 : decode cX2_isFreeInTime 8 = .ok (.iload_n 2, 1) := by decide +kernel
theorem dX2_isFreeInTime_9 : decode cX2_isFreeInTime 9 = .ok (.iaload, 1) := by decide +kernel
theorem dX2_isFreeInTime_10 : decode cX2_isFreeInTime 10 = .ok (.isub, 1) := by decide +kernel
theorem dX2_isFreeInTime_11 : decode cX2_isFreeInTime 11 = .ok (.istore_n 3, 1) := by decide +kernel
theorem dX2_isFreeInTime_12 : decode cX2_isFreeInTime 12 = .ok (.aload_n 0, 1) := by decide +kernel
theorem dX2_isFreeInTime_13 : decode cX2_isFreeInTime 13 = .ok (.getfield 21, 3) := by decide +kernel
theorem dX2_isFreeInTime_16 : decode cX2_isFreeInTime 16 = .ok (.iload_n 2, 1) := by decide +kernel
theorem dX2_isFreeInTime_17 : decode cX2_isFreeInTime 17 = .ok (.iaload, 1) := by decide +kernel
theorem dX2_isFreeInTime_18 : decode cX2_isFreeInTime 18 = .ok (.iload_n 3, 1) := by decide +kernel
theorem dX2_isFreeInTime_19 : decode cX2_isFreeInTime 19 = .ok (.if_icmp .gt 22, 3) := by decide +kernel
theorem dX2_isFreeInTime_22 : decode cX2_isFreeInTime 22 = .ok (.aload_n 0, 1) := by decide +kernel
theorem dX2_isFreeInTime_23 : decode cX2_isFreeInTime 23 = .ok (.getfield 24, 3) := by decide +kernel
theorem dX2_isFreeInTime_26 : decode cX2_isFreeInTime 26 = .ok (.aload_n 1, 1) := by decide +kernel
theorem dX2_isFreeInTime_27 : decode cX2_isFreeInTime 27 = .ok (.getfield 125, 3) := by decide +kernel
theorem dX2_isFreeInTime_30 : decode cX2_isFreeInTime 30 = .ok (.iload_n 2, 1) := by decide +kernel
theorem dX2_isFreeInTime_31 : decode cX2_isFreeInTime 31 = .ok (.iaload, 1) := by decide +kernel
theorem dX2_isFreeInTime_32 : decode cX2_isFreeInTime 32 = .ok (.iaload, 1) := by decide +kernel
theorem dX2_isFreeInTime_33 : decode cX2_isFreeInTime 33 = .ok (.iload_n 3, 1) := by decide +kernel
theorem dX2_isFreeInTime_34 : decode cX2_isFreeInTime 34 = .ok (.if_icmp .gt 7, 3) := by decide +kernel
theorem dX2_isFreeInTime_37 : decode cX2_isFreeInTime 37 = .ok (.iconst 1, 1) := by decide +kernel
theorem dX2_isFreeInTime_38 : decode cX2_isFreeInTime 38 = .ok (.goto 4, 3) := by decide +kernel
theorem dX2_isFreeInTime_41 : decode cX2_isFreeInTime 41 = .ok (.iconst 0, 1) := by decide +kernel
theorem dX2_isFreeInTime_42 : decode cX2_isFreeInTime 42 = .ok (.ireturn, 1) := by decide +kernel
theorem dX2_sortIn_0 : decode cX2_sortIn 0 = .ok (.aload_n 0, 1) := by decide +kernel
theorem dX2_sortIn_1 : decode cX2_sortIn 1 = .ok (.getfield 97, 3) := by decide +kernel
theorem dX2_sortIn_4 : decode cX2_sortIn 4 = .ok (.istore_n 3, 1) := by decide +kernel
theorem dX2_sortIn_5 : decode cX2_sortIn 5 = .ok (.iload_n 3, 1) := by decide +kernel
theorem dX2_sortIn_6 : decode cX2_sortIn 6 = .ok (.ifCond .le 45, 3) := by decide +kernel
theorem dX2_sortIn_9 : decode cX2_sortIn 9 = .ok (.aload_n 1, 1) := by decide +kernel
theorem dX2_sortIn_10 : decode cX2_sortIn 10 = .ok (.getfield 116, 3) := by decide +kernel
theorem dX2_sortIn_13 : decode cX2_sortIn 13 = .ok (.aload_n 0, 1) := by decide +kernel
theorem dX2_sortIn_14 : decode cX2_sortIn 14 = .ok (.getfield 30, 3) := by decide +kernel
theorem dX2_sortIn_17 : decode cX2_sortIn 17 = .ok (.iload_n 3, 1) := by decide +kernel
theorem dX2_sortIn_18 : decode cX2_sortIn 18 = .ok (.iconst 1, 1) := by decide +kernel
theorem dX2_sortIn_19 : decode cX2_sortIn 19 = .ok (.isub, 1) := by decide +kernel
theorem dX2_sortIn_20 : decode cX2_sortIn 20 = .ok (.iaload, 1) := by decide +kernel
theorem dX2_sortIn_21 : decode cX2_sortIn 21 = .ok (.iaload, 1) := by decide +kernel
theorem dX2_sortIn_22 : decode cX2_sortIn 22 = .ok (.aload_n 1, 1) := by decide +kernel
theorem dX2_sortIn_23 : decode cX2_sortIn 23 = .ok (.getfield 116, 3) := by decide +kernel
theorem dX2_sortIn_26 : decode cX2_sortIn 26 = .ok (.iload_n 2, 1) := by decide +kernel
theorem dX2_sortIn_27 : decode cX2_sortIn 27 = .ok (.iaload, 1) := by decide +kernel
theorem dX2_sortIn_28 : decode cX2_sortIn 28 = .ok (.if_icmp .ge 23, 3) := by decide +kernel
theorem dX2_sortIn_31 : decode cX2_sortIn 31 = .ok (.aload_n 0, 1) := by decide +kernel
theorem dX2_sortIn_32 : decode cX2_sortIn 32 = .ok (.getfield 30, 3) := by decide +kernel
theorem dX2_sortIn_35 : decode cX2_sortIn 35 = .ok (.iload_n 3, 1) := by decide +kernel
theorem dX2_sortIn_36 : decode cX2_sortIn 36 = .ok (.aload_n 0, 1) := by decide +kernel
theorem dX2_sortIn_37 : decode cX2_sortIn 37 = .ok (.getfield 30, 3) := by decide +kernel
theorem dX2_sortIn_40 : decode cX2_sortIn 40 = .ok (.iload_n 3, 1) := by decide +kernel
theorem dX2_sortIn_41 : decode cX2_sortIn 41 = .ok (.iconst 1, 1) := by decide +kernel
theorem dX2_sortIn_42 : decode cX2_sortIn 42 = .ok (.isub, 1) := by decide +kernel
theorem dX2_sortIn_43 : decode cX2_sortIn 43 = .ok (.iaload, 1) := by decide +kernel
theorem dX2_sortIn_44 : decode cX2_sortIn 44 = .ok (.iastore, 1) := by decide +kernel
theorem dX2_sortIn_45 : decode cX2_sortIn 45 = .ok (.iinc 3 (-1), 3) := by decide +kernel
theorem dX2_sortIn_48 : decode cX2_sortIn 48 = .ok (.goto (-43), 3) := by decide +kernel
theorem dX2_sortIn_51 : decode cX2_sortIn 51 = .ok (.aload_n 0, 1) := by decide +kernel
theorem dX2_sortIn_52 : decode cX2_sortIn 52 = .ok (.getfield 30, 3) := by decide +kernel
theorem dX2_sortIn_55 : decode cX2_sortIn 55 = .ok (.iload_n 3, 1) := by decide +kernel
theorem dX2_sortIn_56 : decode cX2_sortIn 56 = .ok (.iload_n 2, 1) := by decide +kernel
theorem dX2_sortIn_57 : decode cX2_sortIn 57 = .ok (.iastore, 1) := by decide +kernel
theorem dX2_sortIn_58 : decode cX2_sortIn 58 = .ok (.return_, 1) := by decide +kernel
theorem dX2_extend_0 : decode cX2_extend 0 = .ok (.aload_n 0, 1) := by decide +kernel
theorem dX2_extend_1 : decode cX2_extend 1 = .ok (.getfield 57, 3) := by decide +kernel
theorem dX2_extend_4 : decode cX2_extend 4 = .ok (.iload_n 2, 1) := by decide +kernel
theorem dX2_extend_5 : decode cX2_extend 5 = .ok (.isub, 1) := by decide +kernel
theorem dX2_extend_6 : decode cX2_extend 6 = .ok (.istore 7, 2) := by decide +kernel
theorem dX2_extend_8 : decode cX2_extend 8 = .ok (.iload 7, 2) := by decide +kernel
theorem dX2_extend_10 : decode cX2_extend 10 = .ok (.ifCond .le 22, 3) := by decide +kernel
theorem dX2_extend_13 : decode cX2_extend 13 = .ok (.aload_n 0, 1) := by decide +kernel
theorem dX2_extend_14 : decode cX2_extend 14 = .ok (.iload 7, 2) := by decide +kernel
theorem dX2_extend_16 : decode cX2_extend 16 = .ok (.aload_n 0, 1) := by decide +kernel
theorem dX2_extend_17 : decode cX2_extend 17 = .ok (.getfield 68, 3) := by decide +kernel
theorem dX2_extend_20 : decode cX2_extend 20 = .ok (.iload_n 3, 1) := by decide +kernel
theorem dX2_extend_21 : decode cX2_extend 21 = .ok (.isub, 1) := by decide +kernel
theorem dX2_extend_22 : decode cX2_extend 22 = .ok (.iload 5, 2) := by decide +kernel
theorem dX2_extend_24 : decode cX2_extend 24 = .ok (.iload 6, 2) := by decide +kernel
theorem dX2_extend_26 : decode cX2_extend 26 = .ok (.invokevirtual 128, 3) := by decide +kernel
theorem dX2_extend_29 : decode cX2_extend 29 = .ok (.ifCond .eq 4, 3) := by decide +kernel
theorem dX2_extend_32 : decode cX2_extend 32 = .ok (.return_, 1) := by decide +kernel
theorem dX2_extend_33 : decode cX2_extend 33 = .ok (.iload 7, 2) := by decide +kernel
theorem dX2_extend_35 : decode cX2_extend 35 = .ok (.iconst 1, 1) := by decide +kernel
theorem dX2_extend_36 : decode cX2_extend 36 = .ok (.if_icmp .ne 17, 3) := by decide +kernel
theorem dX2_extend_39 : decode cX2_extend 39 = .ok (.aload_n 0, 1) := by decide +kernel
theorem dX2_extend_40 : decode cX2_extend 40 = .ok (.aload_n 1, 1) := by decide +kernel
theorem dX2_extend_41 : decode cX2_extend 41 = .ok (.iload_n 2, 1) := by decide +kernel
theorem dX2_extend_42 : decode cX2_extend 42 = .ok (.iload_n 3, 1) := by decide +kernel
theorem dX2_extend_43 : decode cX2_extend 43 = .ok (.iload 4, 2) := by decide +kernel
theorem dX2_extend_45 : decode cX2_extend 45 = .ok (.iload 5, 2) := by decide +kernel
theorem dX2_extend_47 : decode cX2_extend 47 = .ok (.iload 6, 2) := by decide +kernel
theorem dX2_extend_49 : decode cX2_extend 49 = .ok (.invokevirtual 132, 3) := by decide +kernel
theorem dX2_extend_52 : decode cX2_extend 52 = .ok (.return_, 1) := by decide +kernel
theorem dX2_extend_53 : decode cX2_extend 53 = .ok (.iconst 0, 1) := by decide +kernel
theorem dX2_extend_54 : decode cX2_extend 54 = .ok (.istore 8, 2) := by decide +kernel
theorem dX2_extend_56 : decode cX2_extend 56 = .ok (.iload 8, 2) := by decide +kernel
theorem dX2_extend_58 : decode cX2_extend 58 = .ok (.aload_n 0, 1) := by decide +kernel
theorem dX2_extend_59 : decode cX2_extend 59 = .ok (.getfield 97, 3) := by decide +kernel
theorem dX2_extend_62 : decode cX2_extend 62 = .ok (.if_icmp .ge 60, 3) := by decide +kernel
theorem dX2_extend_65 : decode cX2_extend 65 = .ok (.aload_n 0, 1) := by decide +kernel
theorem dX2_extend_66 : decode cX2_extend 66 = .ok (.getfield 27, 3) := by decide +kernel
theorem dX2_extend_69 : decode cX2_extend 69 = .ok (.iload 8, 2) := by decide +kernel
theorem dX2_extend_71 : decode cX2_extend 71 = .ok (.iaload, 1) := by decide +kernel
theorem dX2_extend_72 : decode cX2_extend 72 = .ok (.istore 9, 2) := by decide +kernel
theorem dX2_extend_74 : decode cX2_extend 74 = .ok (.aload_n 1, 1) := by decide +kernel
theorem dX2_extend_75 : decode cX2_extend 75 = .ok (.getfield 116, 3) := by decide +kernel
theorem dX2_extend_78 : decode cX2_extend 78 = .ok (.iload 9, 2) := by decide +kernel
theorem dX2_extend_80 : decode cX2_extend 80 = .ok (.iaload, 1) := by decide +kernel
theorem dX2_extend_81 : decode cX2_extend 81 = .ok (.aload_n 0, 1) := by decide +kernel
theorem dX2_extend_82 : decode cX2_extend 82 = .ok (.getfield 68, 3) := by decide +kernel
theorem dX2_extend_85 : decode cX2_extend 85 = .ok (.iload_n 3, 1) := by decide +kernel
theorem dX2_extend_86 : decode cX2_extend 86 = .ok (.isub, 1) := by decide +kernel
theorem dX2_extend_87 : decode cX2_extend 87 = .ok (.if_icmp .gt 29, 3) := by decide +kernel
theorem dX2_extend_90 : decode cX2_extend 90 = .ok (.aload_n 0, 1) := by decide +kernel
theorem dX2_extend_91 : decode cX2_extend 91 = .ok (.aload_n 1, 1) := by decide +kernel
theorem dX2_extend_92 : decode cX2_extend 92 = .ok (.iload 9, 2) := by decide +kernel
theorem dX2_extend_94 : decode cX2_extend 94 = .ok (.iload_n 3, 1) := by decide +kernel
theorem dX2_extend_95 : decode cX2_extend 95 = .ok (.iload 4, 2) := by decide +kernel
theorem dX2_extend_97 : decode cX2_extend 97 = .ok (.invokevirtual 135, 3) := by decide +kernel
theorem dX2_extend_100 : decode cX2_extend 100 = .ok (.ifCond .eq 16, 3) := by decide +kernel
theorem dX2_extend_103 : decode cX2_extend 103 = .ok (.aload_n 0, 1) := by decide +kernel
theorem dX2_extend_104 : decode cX2_extend 104 = .ok (.aload_n 1, 1) := by decide +kernel
theorem dX2_extend_105 : decode cX2_extend 105 = .ok (.iload_n 2, 1) := by decide +kernel
theorem dX2_extend_106 : decode cX2_extend 106 = .ok (.iload 9, 2) := by decide +kernel
theorem dX2_extend_108 : decode cX2_extend 108 = .ok (.iload_n 3, 1) := by decide +kernel
theorem dX2_extend_109 : decode cX2_extend 109 = .ok (.iload 5, 2) := by decide +kernel
theorem dX2_extend_111 : decode cX2_extend 111 = .ok (.iload 6, 2) := by decide +kernel
theorem dX2_extend_113 : decode cX2_extend 113 = .ok (.invokevirtual 139, 3) := by decide +kernel
theorem dX2_extend_116 : decode cX2_extend 116 = .ok (.iinc 8 1, 3) := by decide +kernel
theorem dX2_extend_119 : decode cX2_extend 119 = .ok (.goto (-63), 3) := by decide +kernel
theorem dX2_extend_122 : decode cX2_extend 122 = .ok (.return_, 1) := by decide +kernel
theorem dX2_isHopeless_0 : decode cX2_isHopeless 0 = .ok (.iload 4, 2) := by decide +kernel
theorem dX2_isHopeless_2 : decode cX2_isHopeless 2 = .ok (.iload_n 1, 1) := by decide +kernel
theorem dX2_isHopeless_3 : decode cX2_isHopeless 3 = .ok (.iadd, 1) := by decide +kernel
theorem dX2_isHopeless_4 : decode cX2_isHopeless 4 = .ok (.aload_n 0, 1) := by decide +kernel
theorem dX2_isHopeless_5 : decode cX2_isHopeless 5 = .ok (.getfield 71, 3) := by decide +kernel
theorem dX2_isHopeless_8 : decode cX2_isHopeless 8 = .ok (.if_icmp .ge 5, 3) := by decide +kernel
theorem dX2_isHopeless_11 : decode cX2_isHopeless 11 = .ok (.iconst 1, 1) := by decide +kernel
theorem dX2_isHopeless_12 : decode cX2_isHopeless 12 = .ok (.ireturn, 1) := by decide +kernel
theorem dX2_isHopeless_13 : decode cX2_isHopeless 13 = .ok (.iconst 0, 1) := by decide +kernel
theorem dX2_isHopeless_14 : decode cX2_isHopeless 14 = .ok (.iload_n 2, 1) := by decide +kernel
theorem dX2_isHopeless_15 : decode cX2_isHopeless 15 = .ok (.iload_n 1, 1) := by decide +kernel
theorem dX2_isHopeless_16 : decode cX2_isHopeless 16 = .ok (.aload_n 0, 1) := by decide +kernel
theorem dX2_isHopeless_17 : decode cX2_isHopeless 17 = .ok (.getfield 100, 3) := by decide +kernel
theorem dX2_isHopeless_20 : decode cX2_isHopeless 20 = .ok (.imul, 1) := by decide +kernel
theorem dX2_isHopeless_21 : decode cX2_isHopeless 21 = .ok (.isub, 1) := by decide +kernel
theorem dX2_isHopeless_22 : decode cX2_isHopeless 22 = .ok (.invokestatic 119, 3) := by decide +kernel
theorem dX2_isHopeless_25 : decode cX2_isHopeless 25 = .ok (.istore 5, 2) := by decide +kernel
theorem dX2_isHopeless_27 : decode cX2_isHopeless 27 = .ok (.iload 5, 2) := by decide +kernel
theorem dX2_isHopeless_29 : decode cX2_isHopeless 29 = .ok (.aload_n 0, 1) := by decide +kernel
theorem dX2_isHopeless_30 : decode cX2_isHopeless 30 = .ok (.getfield 77, 3) := by decide +kernel
theorem dX2_isHopeless_33 : decode cX2_isHopeless 33 = .ok (.if_icmp .gt 27, 3) := by decide +kernel
theorem dX2_isHopeless_36 : decode cX2_isHopeless 36 = .ok (.iload 5, 2) := by decide +kernel
theorem dX2_isHopeless_38 : decode cX2_isHopeless 38 = .ok (.aload_n 0, 1) := by decide +kernel
theorem dX2_isHopeless_39 : decode cX2_isHopeless 39 = .ok (.getfield 77, 3) := by decide +kernel
theorem dX2_isHopeless_42 : decode cX2_isHopeless 42 = .ok (.if_icmp .ne 22, 3) := by decide +kernel
theorem dX2_isHopeless_45 : decode cX2_isHopeless 45 = .ok (.iload_n 3, 1) := by decide +kernel
theorem dX2_isHopeless_46 : decode cX2_isHopeless 46 = .ok (.iload_n 1, 1) := by decide +kernel
theorem dX2_isHopeless_47 : decode cX2_isHopeless 47 = .ok (.aload_n 0, 1) := by decide +kernel
theorem dX2_isHopeless_48 : decode cX2_isHopeless 48 = .ok (.getfield 103, 3) := by decide +kernel
theorem dX2_isHopeless_51 : decode cX2_isHopeless 51 = .ok (.imul, 1) := by decide +kernel
theorem dX2_isHopeless_52 : decode cX2_isHopeless 52 = .ok (.iadd, 1) := by decide +kernel
theorem dX2_isHopeless_53 : decode cX2_isHopeless 53 = .ok (.aload_n 0, 1) := by decide +kernel
theorem dX2_isHopeless_54 : decode cX2_isHopeless 54 = .ok (.getfield 80, 3) := by decide +kernel
theorem dX2_isHopeless_57 : decode cX2_isHopeless 57 = .ok (.if_icmp .gt 7, 3) := by decide +kernel
theorem dX2_isHopeless_60 : decode cX2_isHopeless 60 = .ok (.iconst 1, 1) := by decide +kernel
theorem dX2_isHopeless_61 : decode cX2_isHopeless 61 = .ok (.goto 4, 3) := by decide +kernel
theorem dX2_isHopeless_64 : decode cX2_isHopeless 64 = .ok (.iconst 0, 1) := by decide +kernel
theorem dX2_isHopeless_65 : decode cX2_isHopeless 65 = .ok (.ireturn, 1) := by decide +kernel
theorem dX2_tryNext_0 : decode cX2_tryNext 0 = .ok (.aload_n 1, 1) := by decide +kernel
theorem dX2_tryNext_1 : decode cX2_tryNext 1 = .ok (.getfield 125, 3) := by decide +kernel
theorem dX2_tryNext_4 : decode cX2_tryNext 4 = .ok (.iload_n 3, 1) := by decide +kernel
theorem dX2_tryNext_5 : decode cX2_tryNext 5 = .ok (.iaload, 1) := by decide +kernel
theorem dX2_tryNext_6 : decode cX2_tryNext 6 = .ok (.istore 7, 2) := by decide +kernel
theorem dX2_tryNext_8 : decode cX2_tryNext 8 = .ok (.aload_n 0, 1) := by decide +kernel
theorem dX2_tryNext_9 : decode cX2_tryNext 9 = .ok (.getfield 21, 3) := by decide +kernel
theorem dX2_tryNext_12 : decode cX2_tryNext 12 = .ok (.iload_n 3, 1) := by decide +kernel
theorem dX2_tryNext_13 : decode cX2_tryNext 13 = .ok (.iaload, 1) := by decide +kernel
theorem dX2_tryNext_14 : decode cX2_tryNext 14 = .ok (.istore 8, 2) := by decide +kernel
theorem dX2_tryNext_16 : decode cX2_tryNext 16 = .ok (.aload_n 0, 1) := by decide +kernel
theorem dX2_tryNext_17 : decode cX2_tryNext 17 = .ok (.getfield 24, 3) := by decide +kernel
theorem dX2_tryNext_20 : decode cX2_tryNext 20 = .ok (.iload 7, 2) := by decide +kernel
theorem dX2_tryNext_22 : decode cX2_tryNext 22 = .ok (.iaload, 1) := by decide +kernel
theorem dX2_tryNext_23 : decode cX2_tryNext 23 = .ok (.istore 9, 2) := by decide +kernel
theorem dX2_tryNext_25 : decode cX2_tryNext 25 = .ok (.iload 4, 2) := by decide +kernel
theorem dX2_tryNext_27 : decode cX2_tryNext 27 = .ok (.aload_n 1, 1) := by decide +kernel
theorem dX2_tryNext_28 : decode cX2_tryNext 28 = .ok (.getfield 116, 3) := by decide +kernel
theorem dX2_tryNext_31 : decode cX2_tryNext 31 = .ok (.iload_n 3, 1) := by decide +kernel
theorem dX2_tryNext_32 : decode cX2_tryNext 32 = .ok (.iaload, 1) := by decide +kernel
theorem dX2_tryNext_33 : decode cX2_tryNext 33 = .ok (.iadd, 1) := by decide +kernel
theorem dX2_tryNext_34 : decode cX2_tryNext 34 = .ok (.istore 10, 2) := by decide +kernel
theorem dX2_tryNext_36 : decode cX2_tryNext 36 = .ok (.iload 5, 2) := by decide +kernel
theorem dX2_tryNext_38 : decode cX2_tryNext 38 = .ok (.aload_n 0, 1) := by decide +kernel
theorem dX2_tryNext_39 : decode cX2_tryNext 39 = .ok (.getfield 18, 3) := by decide +kernel
theorem dX2_tryNext_42 : decode cX2_tryNext 42 = .ok (.iload_n 3, 1) := by decide +kernel
theorem dX2_tryNext_43 : decode cX2_tryNext 43 = .ok (.iaload, 1) := by decide +kernel
theorem dX2_tryNext_44 : decode cX2_tryNext 44 = .ok (.iadd, 1) := by decide +kernel
theorem dX2_tryNext_45 : decode cX2_tryNext 45 = .ok (.istore 11, 2) := by decide +kernel
theorem dX2_tryNext_47 : decode cX2_tryNext 47 = .ok (.iload 6, 2) := by decide +kernel
theorem dX2_tryNext_49 : decode cX2_tryNext 49 = .ok (.aload_n 1, 1) := by decide +kernel
theorem dX2_tryNext_50 : decode cX2_tryNext 50 = .ok (.getfield 122, 3) := by decide +kernel
theorem dX2_tryNext_53 : decode cX2_tryNext 53 = .ok (.iload_n 3, 1) := by decide +kernel
theorem dX2_tryNext_54 : decode cX2_tryNext 54 = .ok (.iaload, 1) := by decide +kernel
theorem dX2_tryNext_55 : decode cX2_tryNext 55 = .ok (.iadd, 1) := by decide +kernel
theorem dX2_tryNext_56 : decode cX2_tryNext 56 = .ok (.istore 12, 2) := by decide +kernel
theorem dX2_tryNext_58 : decode cX2_tryNext 58 = .ok (.aload_n 0, 1) := by decide +kernel
theorem dX2_tryNext_59 : decode cX2_tryNext 59 = .ok (.getfield 15, 3) := by decide +kernel
theorem dX2_tryNext_62 : decode cX2_tryNext 62 = .ok (.iload_n 2, 1) := by decide +kernel
theorem dX2_tryNext_63 : decode cX2_tryNext 63 = .ok (.iload_n 3, 1) := by decide +kernel
theorem dX2_tryNext_64 : decode cX2_tryNext 64 = .ok (.iastore, 1) := by decide +kernel
theorem dX2_tryNext_65 : decode cX2_tryNext 65 = .ok (.aload_n 0, 1) := by decide +kernel
theorem dX2_tryNext_66 : decode cX2_tryNext 66 = .ok (.iload_n 2, 1) := by decide +kernel
theorem dX2_tryNext_67 : decode cX2_tryNext 67 = .ok (.iconst 1, 1) := by decide +kernel
theorem dX2_tryNext_68 : decode cX2_tryNext 68 = .ok (.iadd, 1) := by decide +kernel
theorem dX2_tryNext_69 : decode cX2_tryNext 69 = .ok (.aload_n 0, 1) := by decide +kernel
theorem dX2_tryNext_70 : decode cX2_tryNext 70 = .ok (.getfield 68, 3) := by decide +kernel
theorem dX2_tryNext_73 : decode cX2_tryNext 73 = .ok (.iload 10, 2) := by decide +kernel
theorem dX2_tryNext_75 : decode cX2_tryNext 75 = .ok (.isub, 1) := by decide +kernel
theorem dX2_tryNext_76 : decode cX2_tryNext 76 = .ok (.iload 11, 2) := by decide +kernel
theorem dX2_tryNext_78 : decode cX2_tryNext 78 = .ok (.iload 12, 2) := by decide +kernel
theorem dX2_tryNext_80 : decode cX2_tryNext 80 = .ok (.invokevirtual 142, 3) := by decide +kernel
theorem dX2_tryNext_83 : decode cX2_tryNext 83 = .ok (.aload_n 0, 1) := by decide +kernel
theorem dX2_tryNext_84 : decode cX2_tryNext 84 = .ok (.getfield 21, 3) := by decide +kernel
theorem dX2_tryNext_87 : decode cX2_tryNext 87 = .ok (.iload_n 3, 1) := by decide +kernel
theorem dX2_tryNext_88 : decode cX2_tryNext 88 = .ok (.iload 4, 2) := by decide +kernel
theorem dX2_tryNext_90 : decode cX2_tryNext 90 = .ok (.aload_n 0, 1) := by decide +kernel
theorem dX2_tryNext_91 : decode cX2_tryNext 91 = .ok (.getfield 38, 3) := by decide +kernel
theorem dX2_tryNext_94 : decode cX2_tryNext 94 = .ok (.iadd, 1) := by decide +kernel
theorem dX2_tryNext_95 : decode cX2_tryNext 95 = .ok (.iastore, 1) := by decide +kernel
theorem dX2_tryNext_96 : decode cX2_tryNext 96 = .ok (.aload_n 0, 1) := by decide +kernel
theorem dX2_tryNext_97 : decode cX2_tryNext 97 = .ok (.getfield 24, 3) := by decide +kernel
theorem dX2_tryNext_100 : decode cX2_tryNext 100 = .ok (.iload 7, 2) := by decide +kernel
theorem dX2_tryNext_102 : decode cX2_tryNext 102 = .ok (.iload 4, 2) := by decide +kernel
theorem dX2_tryNext_104 : decode cX2_tryNext 104 = .ok (.aload_n 0, 1) := by decide +kernel
theorem dX2_tryNext_105 : decode cX2_tryNext 105 = .ok (.getfield 42, 3) := by decide +kernel
theorem dX2_tryNext_108 : decode cX2_tryNext 108 = .ok (.iadd, 1) := by decide +kernel
theorem dX2_tryNext_109 : decode cX2_tryNext 109 = .ok (.iastore, 1) := by decide +kernel
theorem dX2_tryNext_110 : decode cX2_tryNext 110 = .ok (.aload_n 0, 1) := by decide +kernel
theorem dX2_tryNext_111 : decode cX2_tryNext 111 = .ok (.aload_n 1, 1) := by decide +kernel
theorem dX2_tryNext_112 : decode cX2_tryNext 112 = .ok (.iload_n 2, 1) := by decide +kernel
theorem dX2_tryNext_113 : decode cX2_tryNext 113 = .ok (.iconst 1, 1) := by decide +kernel
theorem dX2_tryNext_114 : decode cX2_tryNext 114 = .ok (.iadd, 1) := by decide +kernel
theorem dX2_tryNext_115 : decode cX2_tryNext 115 = .ok (.iload 10, 2) := by decide +kernel
theorem dX2_tryNext_117 : decode cX2_tryNext 117 = .ok (.aload_n 1, 1) := by decide +kernel
theorem dX2_tryNext_118 : decode cX2_tryNext 118 = .ok (.getfield 146, 3) := by decide +kernel
theorem dX2_tryNext_121 : decode cX2_tryNext 121 = .ok (.iload_n 3, 1) := by decide +kernel
theorem dX2_tryNext_122 : decode cX2_tryNext 122 = .ok (.iaload, 1) := by decide +kernel
theorem dX2_tryNext_123 : decode cX2_tryNext 123 = .ok (.iload 11, 2) := by decide +kernel
theorem dX2_tryNext_125 : decode cX2_tryNext 125 = .ok (.iload 12, 2) := by decide +kernel
theorem dX2_tryNext_127 : decode cX2_tryNext 127 = .ok (.invokevirtual 93, 3) := by decide +kernel
theorem dX2_tryNext_130 : decode cX2_tryNext 130 = .ok (.aload_n 0, 1) := by decide +kernel
theorem dX2_tryNext_131 : decode cX2_tryNext 131 = .ok (.getfield 21, 3) := by decide +kernel
theorem dX2_tryNext_134 : decode cX2_tryNext 134 = .ok (.iload_n 3, 1) := by decide +kernel
theorem dX2_tryNext_135 : decode cX2_tryNext 135 = .ok (.iload 8, 2) := by decide +kernel
theorem dX2_tryNext_137 : decode cX2_tryNext 137 = .ok (.iastore, 1) := by decide +kernel
theorem dX2_tryNext_138 : decode cX2_tryNext 138 = .ok (.aload_n 0, 1) := by decide +kernel
theorem dX2_tryNext_139 : decode cX2_tryNext 139 = .ok (.getfield 24, 3) := by decide +kernel
theorem dX2_tryNext_142 : decode cX2_tryNext 142 = .ok (.iload 7, 2) := by decide +kernel
theorem dX2_tryNext_144 : decode cX2_tryNext 144 = .ok (.iload 9, 2) := by decide +kernel
theorem dX2_tryNext_146 : decode cX2_tryNext 146 = .ok (.iastore, 1) := by decide +kernel
theorem dX2_tryNext_147 : decode cX2_tryNext 147 = .ok (.return_, 1) := by decide +kernel
theorem dX2_tryLast_0 : decode cX2_tryLast 0 = .ok (.aload_n 0, 1) := by decide +kernel
theorem dX2_tryLast_1 : decode cX2_tryLast 1 = .ok (.getfield 68, 3) := by decide +kernel
theorem dX2_tryLast_4 : decode cX2_tryLast 4 = .ok (.iload_n 3, 1) := by decide +kernel
theorem dX2_tryLast_5 : decode cX2_tryLast 5 = .ok (.isub, 1) := by decide +kernel
theorem dX2_tryLast_6 : decode cX2_tryLast 6 = .ok (.istore 7, 2) := by decide +kernel
theorem dX2_tryLast_8 : decode cX2_tryLast 8 = .ok (.aload_n 0, 1) := by decide +kernel
theorem dX2_tryLast_9 : decode cX2_tryLast 9 = .ok (.aload_n 1, 1) := by decide +kernel
theorem dX2_tryLast_10 : decode cX2_tryLast 10 = .ok (.iload 7, 2) := by decide +kernel
theorem dX2_tryLast_12 : decode cX2_tryLast 12 = .ok (.invokevirtual 149, 3) := by decide +kernel
theorem dX2_tryLast_15 : decode cX2_tryLast 15 = .ok (.istore 8, 2) := by decide +kernel
theorem dX2_tryLast_17 : decode cX2_tryLast 17 = .ok (.iload 8, 2) := by decide +kernel
theorem dX2_tryLast_19 : decode cX2_tryLast 19 = .ok (.aload_n 0, 1) := by decide +kernel
theorem dX2_tryLast_20 : decode cX2_tryLast 20 = .ok (.getfield 97, 3) := by decide +kernel
theorem dX2_tryLast_23 : decode cX2_tryLast 23 = .ok (.if_icmp .ge 90, 3) := by decide +kernel
theorem dX2_tryLast_26 : decode cX2_tryLast 26 = .ok (.aload_n 0, 1) := by decide +kernel
theorem dX2_tryLast_27 : decode cX2_tryLast 27 = .ok (.getfield 30, 3) := by decide +kernel
theorem dX2_tryLast_30 : decode cX2_tryLast 30 = .ok (.iload 8, 2) := by decide +kernel
theorem dX2_tryLast_32 : decode cX2_tryLast 32 = .ok (.iaload, 1) := by decide +kernel
theorem dX2_tryLast_33 : decode cX2_tryLast 33 = .ok (.istore 9, 2) := by decide +kernel
theorem dX2_tryLast_35 : decode cX2_tryLast 35 = .ok (.iload 7, 2) := by decide +kernel
theorem dX2_tryLast_37 : decode cX2_tryLast 37 = .ok (.aload_n 1, 1) := by decide +kernel
theorem dX2_tryLast_38 : decode cX2_tryLast 38 = .ok (.getfield 116, 3) := by decide +kernel
theorem dX2_tryLast_41 : decode cX2_tryLast 41 = .ok (.iload 9, 2) := by decide +kernel
theorem dX2_tryLast_43 : decode cX2_tryLast 43 = .ok (.iaload, 1) := by decide +kernel
theorem dX2_tryLast_44 : decode cX2_tryLast 44 = .ok (.isub, 1) := by decide +kernel
theorem dX2_tryLast_45 : decode cX2_tryLast 45 = .ok (.istore 10, 2) := by decide +kernel
theorem dX2_tryLast_47 : decode cX2_tryLast 47 = .ok (.iload 10, 2) := by decide +kernel
theorem dX2_tryLast_49 : decode cX2_tryLast 49 = .ok (.aload_n 0, 1) := by decide +kernel
theorem dX2_tryLast_50 : decode cX2_tryLast 50 = .ok (.getfield 77, 3) := by decide +kernel
theorem dX2_tryLast_53 : decode cX2_tryLast 53 = .ok (.if_icmp .le 4, 3) := by decide +kernel
theorem dX2_tryLast_56 : decode cX2_tryLast 56 = .ok (.return_, 1) := by decide +kernel
theorem dX2_tryLast_57 : decode cX2_tryLast 57 = .ok (.aload_n 0, 1) := by decide +kernel
theorem dX2_tryLast_58 : decode cX2_tryLast 58 = .ok (.aload_n 1, 1) := by decide +kernel
theorem dX2_tryLast_59 : decode cX2_tryLast 59 = .ok (.iload 9, 2) := by decide +kernel
theorem dX2_tryLast_61 : decode cX2_tryLast 61 = .ok (.iload_n 3, 1) := by decide +kernel
theorem dX2_tryLast_62 : decode cX2_tryLast 62 = .ok (.iload 4, 2) := by decide +kernel
theorem dX2_tryLast_64 : decode cX2_tryLast 64 = .ok (.invokevirtual 135, 3) := by decide +kernel
theorem dX2_tryLast_67 : decode cX2_tryLast 67 = .ok (.ifCond .eq 40, 3) := by decide +kernel
theorem dX2_tryLast_70 : decode cX2_tryLast 70 = .ok (.aload_n 0, 1) := by decide +kernel
theorem dX2_tryLast_71 : decode cX2_tryLast 71 = .ok (.getfield 15, 3) := by decide +kernel
theorem dX2_tryLast_74 : decode cX2_tryLast 74 = .ok (.iload_n 2, 1) := by decide +kernel
theorem dX2_tryLast_75 : decode cX2_tryLast 75 = .ok (.iload 9, 2) := by decide +kernel
theorem dX2_tryLast_77 : decode cX2_tryLast 77 = .ok (.iastore, 1) := by decide +kernel
theorem dX2_tryLast_78 : decode cX2_tryLast 78 = .ok (.aload_n 0, 1) := by decide +kernel
theorem dX2_tryLast_79 : decode cX2_tryLast 79 = .ok (.iload_n 2, 1) := by decide +kernel
theorem dX2_tryLast_80 : decode cX2_tryLast 80 = .ok (.iconst 1, 1) := by decide +kernel
theorem dX2_tryLast_81 : decode cX2_tryLast 81 = .ok (.iadd, 1) := by decide +kernel
theorem dX2_tryLast_82 : decode cX2_tryLast 82 = .ok (.iload 10, 2) := by decide +kernel
theorem dX2_tryLast_84 : decode cX2_tryLast 84 = .ok (.iload 5, 2) := by decide +kernel
theorem dX2_tryLast_86 : decode cX2_tryLast 86 = .ok (.aload_n 0, 1) := by decide +kernel
theorem dX2_tryLast_87 : decode cX2_tryLast 87 = .ok (.getfield 18, 3) := by decide +kernel
theorem dX2_tryLast_90 : decode cX2_tryLast 90 = .ok (.iload 9, 2) := by decide +kernel
theorem dX2_tryLast_92 : decode cX2_tryLast 92 = .ok (.iaload, 1) := by decide +kernel
theorem dX2_tryLast_93 : decode cX2_tryLast 93 = .ok (.iadd, 1) := by decide +kernel
theorem dX2_tryLast_94 : decode cX2_tryLast 94 = .ok (.iload 6, 2) := by decide +kernel
theorem dX2_tryLast_96 : decode cX2_tryLast 96 = .ok (.aload_n 1, 1) := by decide +kernel
theorem dX2_tryLast_97 : decode cX2_tryLast 97 = .ok (.getfield 122, 3) := by decide +kernel
theorem dX2_tryLast_100 : decode cX2_tryLast 100 = .ok (.iload 9, 2) := by decide +kernel
theorem dX2_tryLast_102 : decode cX2_tryLast 102 = .ok (.iaload, 1) := by decide +kernel
theorem dX2_tryLast_103 : decode cX2_tryLast 103 = .ok (.iadd, 1) := by decide +kernel
theorem dX2_tryLast_104 : decode cX2_tryLast 104 = .ok (.invokevirtual 142, 3) := by decide +kernel
theorem dX2_tryLast_107 : decode cX2_tryLast 107 = .ok (.iinc 8 1, 3) := by decide +kernel
theorem dX2_tryLast_110 : decode cX2_tryLast 110 = .ok (.goto (-93), 3) := by decide +kernel
theorem dX2_tryLast_113 : decode cX2_tryLast 113 = .ok (.return_, 1) := by decide +kernel
theorem dX2_firstThatFits_0 : decode cX2_firstThatFits 0 = .ok (.iconst 0, 1) := by decide +kernel
theorem dX2_firstThatFits_1 : decode cX2_firstThatFits 1 = .ok (.istore_n 3, 1) := by decide +kernel
theorem dX2_firstThatFits_2 : decode cX2_firstThatFits 2 = .ok (.aload_n 0, 1) := by decide +kernel
theorem dX2_firstThatFits_3 : decode cX2_firstThatFits 3 = .ok (.getfield 97, 3) := by decide +kernel
theorem dX2_firstThatFits_6 : decode cX2_firstThatFits 6 = .ok (.istore 4, 2) := by decide +kernel
theorem dX2_firstThatFits_8 : decode cX2_firstThatFits 8 = .ok (.iload_n 3, 1) := by decide +kernel
theorem dX2_firstThatFits_9 : decode cX2_firstThatFits 9 = .ok (.iload 4, 2) := by decide +kernel
theorem dX2_firstThatFits_11 : decode cX2_firstThatFits 11 = .ok (.if_icmp .ge 42, 3) := by decide +kernel
theorem dX2_firstThatFits_14 : decode cX2_firstThatFits 14 = .ok (.iload_n 3, 1) := by decide +kernel
theorem dX2_firstThatFits_15 : decode cX2_firstThatFits 15 = .ok (.iload 4, 2) := by decide +kernel
theorem dX2_firstThatFits_17 : decode cX2_firstThatFits 17 = .ok (.iadd, 1) := by decide +kernel
theorem dX2_firstThatFits_18 : decode cX2_firstThatFits 18 = .ok (.iconst 1, 1) := by decide +kernel
theorem dX2_firstThatFits_19 : decode cX2_firstThatFits 19 = .ok (.iushr, 1) := by decide +kernel
theorem dX2_firstThatFits_20 : decode cX2_firstThatFits 20 = .ok (.istore 5, 2) := by decide +kernel
theorem dX2_firstThatFits_22 : decode cX2_firstThatFits 22 = .ok (.aload_n 1, 1) := by decide +kernel
theorem dX2_firstThatFits_23 : decode cX2_firstThatFits 23 = .ok (.getfield 116, 3) := by decide +kernel
theorem dX2_firstThatFits_26 : decode cX2_firstThatFits 26 = .ok (.aload_n 0, 1) := by decide +kernel
theorem dX2_firstThatFits_27 : decode cX2_firstThatFits 27 = .ok (.getfield 30, 3) := by decide +kernel
theorem dX2_firstThatFits_30 : decode cX2_firstThatFits 30 = .ok (.iload 5, 2) := by decide +kernel
theorem dX2_firstThatFits_32 : decode cX2_firstThatFits 32 = .ok (.iaload, 1) := by decide +kernel
theorem dX2_firstThatFits_33 : decode cX2_firstThatFits 33 = .ok (.iaload, 1) := by decide +kernel
theorem dX2_firstThatFits_34 : decode cX2_firstThatFits 34 = .ok (.iload_n 2, 1) := by decide +kernel
theorem dX2_firstThatFits_35 : decode cX2_firstThatFits 35 = .ok (.if_icmp .le 11, 3) := by decide +kernel
theorem dX2_firstThatFits_38 : decode cX2_firstThatFits 38 = .ok (.iload 5, 2) := by decide +kernel
theorem dX2_firstThatFits_40 : decode cX2_firstThatFits 40 = .ok (.iconst 1, 1) := by decide +kernel
theorem dX2_firstThatFits_41 : decode cX2_firstThatFits 41 = .ok (.iadd, 1) := by decide +kernel
theorem dX2_firstThatFits_42 : decode cX2_firstThatFits 42 = .ok (.istore_n 3, 1) := by decide +kernel
theorem dX2_firstThatFits_43 : decode cX2_firstThatFits 43 = .ok (.goto 7, 3) := by decide +kernel
theorem dX2_firstThatFits_46 : decode cX2_firstThatFits 46 = .ok (.iload 5, 2) := by decide +kernel
theorem dX2_firstThatFits_48 : decode cX2_firstThatFits 48 = .ok (.istore 4, 2) := by decide +kernel
theorem dX2_firstThatFits_50 : decode cX2_firstThatFits 50 = .ok (.goto (-42), 3) := by decide +kernel
theorem dX2_firstThatFits_53 : decode cX2_firstThatFits 53 = .ok (.iload_n 3, 1) := by decide +kernel
theorem dX2_firstThatFits_54 : decode cX2_firstThatFits 54 = .ok (.ireturn, 1) := by decide +kernel
theorem dX2_mayBegin_0 : decode cX2_mayBegin 0 = .ok (.iload_n 3, 1) := by decide +kernel
theorem dX2_mayBegin_1 : decode cX2_mayBegin 1 = .ok (.aload_n 0, 1) := by decide +kernel
theorem dX2_mayBegin_2 : decode cX2_mayBegin 2 = .ok (.getfield 21, 3) := by decide +kernel
theorem dX2_mayBegin_5 : decode cX2_mayBegin 5 = .ok (.iload_n 2, 1) := by decide +kernel
theorem dX2_mayBegin_6 : decode cX2_mayBegin 6 = .ok (.iaload, 1) := by decide +kernel
theorem dX2_mayBegin_7 : decode cX2_mayBegin 7 = .ok (.if_icmp .lt 46, 3) := by decide +kernel
theorem dX2_mayBegin_10 : decode cX2_mayBegin 10 = .ok (.iload_n 3, 1) := by decide +kernel
theorem dX2_mayBegin_11 : decode cX2_mayBegin 11 = .ok (.aload_n 0, 1) := by decide +kernel
theorem dX2_mayBegin_12 : decode cX2_mayBegin 12 = .ok (.getfield 24, 3) := by decide +kernel
theorem dX2_mayBegin_15 : decode cX2_mayBegin 15 = .ok (.aload_n 1, 1) := by decide +kernel
theorem dX2_mayBegin_16 : decode cX2_mayBegin 16 = .ok (.getfield 125, 3) := by decide +kernel
theorem dX2_mayBegin_19 : decode cX2_mayBegin 19 = .ok (.iload_n 2, 1) := by decide +kernel
theorem dX2_mayBegin_20 : decode cX2_mayBegin 20 = .ok (.iaload, 1) := by decide +kernel
theorem dX2_mayBegin_21 : decode cX2_mayBegin 21 = .ok (.iaload, 1) := by decide +kernel
theorem dX2_mayBegin_22 : decode cX2_mayBegin 22 = .ok (.if_icmp .lt 31, 3) := by decide +kernel
theorem dX2_mayBegin_25 : decode cX2_mayBegin 25 = .ok (.iload 4, 2) := by decide +kernel
theorem dX2_mayBegin_27 : decode cX2_mayBegin 27 = .ok (.iconst (-1), 1) := by decide +kernel
theorem dX2_mayBegin_28 : decode cX2_mayBegin 28 = .ok (.if_icmp .eq 21, 3) := by decide +kernel
theorem dX2_mayBegin_31 : decode cX2_mayBegin 31 = .ok (.iload 4, 2) := by decide +kernel
theorem dX2_mayBegin_33 : decode cX2_mayBegin 33 = .ok (.aload_n 1, 1) := by decide +kernel
theorem dX2_mayBegin_34 : decode cX2_mayBegin 34 = .ok (.getfield 146, 3) := by decide +kernel
theorem dX2_mayBegin_37 : decode cX2_mayBegin 37 = .ok (.iload_n 2, 1) := by decide +kernel
theorem dX2_mayBegin_38 : decode cX2_mayBegin 38 = .ok (.iaload, 1) := by decide +kernel
theorem dX2_mayBegin_39 : decode cX2_mayBegin 39 = .ok (.invokestatic 153, 3) := by decide +kernel
theorem dX2_mayBegin_42 : decode cX2_mayBegin 42 = .ok (.aload_n 0, 1) := by decide +kernel
theorem dX2_mayBegin_43 : decode cX2_mayBegin 43 = .ok (.getfield 45, 3) := by decide +kernel
theorem dX2_mayBegin_46 : decode cX2_mayBegin 46 = .ok (.if_icmp .gt 7, 3) := by decide +kernel
theorem dX2_mayBegin_49 : decode cX2_mayBegin 49 = .ok (.iconst 1, 1) := by decide +kernel
theorem dX2_mayBegin_50 : decode cX2_mayBegin 50 = .ok (.goto 4, 3) := by decide +kernel
theorem dX2_mayBegin_53 : decode cX2_mayBegin 53 = .ok (.iconst 0, 1) := by decide +kernel
theorem dX2_mayBegin_54 : decode cX2_mayBegin 54 = .ok (.ireturn, 1) := by decide +kernel
theorem dX2_stepsApart_0 : decode cX2_stepsApart 0 = .ok (.iload_n 0, 1) := by decide +kernel
theorem dX2_stepsApart_1 : decode cX2_stepsApart 1 = .ok (.iload_n 1, 1) := by decide +kernel
theorem dX2_stepsApart_2 : decode cX2_stepsApart 2 = .ok (.isub, 1) := by decide +kernel
theorem dX2_stepsApart_3 : decode cX2_stepsApart 3 = .ok (.invokestatic 156, 3) := by decide +kernel
theorem dX2_stepsApart_6 : decode cX2_stepsApart 6 = .ok (.istore_n 2, 1) := by decide +kernel
theorem dX2_stepsApart_7 : decode cX2_stepsApart 7 = .ok (.iload_n 2, 1) := by decide +kernel
theorem dX2_stepsApart_8 : decode cX2_stepsApart 8 = .ok (.bipush 12, 2) := by decide +kernel
theorem dX2_stepsApart_10 : decode cX2_stepsApart 10 = .ok (.iload_n 2, 1) := by decide +kernel
theorem dX2_stepsApart_11 : decode cX2_stepsApart 11 = .ok (.isub, 1) := by decide +kernel
theorem dX2_stepsApart_12 : decode cX2_stepsApart 12 = .ok (.invokestatic 51, 3) := by decide +kernel
theorem dX2_stepsApart_15 : decode cX2_stepsApart 15 = .ok (.ireturn, 1) := by decide +kernel
theorem dX2_compare_0 : decode cX2_compare 0 = .ok (.iload_n 2, 1) := by decide +kernel
theorem dX2_compare_1 : decode cX2_compare 1 = .ok (.aload_n 0, 1) := by decide +kernel
theorem dX2_compare_2 : decode cX2_compare 2 = .ok (.getfield 77, 3) := by decide +kernel
theorem dX2_compare_5 : decode cX2_compare 5 = .ok (.if_icmp .lt 19, 3) := by decide +kernel
theorem dX2_compare_8 : decode cX2_compare 8 = .ok (.iload_n 2, 1) := by decide +kernel
theorem dX2_compare_9 : decode cX2_compare 9 = .ok (.aload_n 0, 1) := by decide +kernel
theorem dX2_compare_10 : decode cX2_compare 10 = .ok (.getfield 77, 3) := by decide +kernel
theorem dX2_compare_13 : decode cX2_compare 13 = .ok (.if_icmp .ne 15, 3) := by decide +kernel
theorem dX2_compare_16 : decode cX2_compare 16 = .ok (.iload_n 3, 1) := by decide +kernel
theorem dX2_compare_17 : decode cX2_compare 17 = .ok (.aload_n 0, 1) := by decide +kernel
theorem dX2_compare_18 : decode cX2_compare 18 = .ok (.getfield 80, 3) := by decide +kernel
theorem dX2_compare_21 : decode cX2_compare 21 = .ok (.if_icmp .le 7, 3) := by decide +kernel
theorem dX2_compare_24 : decode cX2_compare 24 = .ok (.iconst 1, 1) := by decide +kernel
theorem dX2_compare_25 : decode cX2_compare 25 = .ok (.goto 4, 3) := by decide +kernel
theorem dX2_compare_28 : decode cX2_compare 28 = .ok (.iconst 0, 1) := by decide +kernel
theorem dX2_compare_29 : decode cX2_compare 29 = .ok (.istore 5, 2) := by decide +kernel
theorem dX2_compare_31 : decode cX2_compare 31 = .ok (.iload 5, 2) := by decide +kernel
theorem dX2_compare_33 : decode cX2_compare 33 = .ok (.ifCond .eq 12, 3) := by decide +kernel
theorem dX2_compare_36 : decode cX2_compare 36 = .ok (.iload 4, 2) := by decide +kernel
theorem dX2_compare_38 : decode cX2_compare 38 = .ok (.aload_n 0, 1) := by decide +kernel
theorem dX2_compare_39 : decode cX2_compare 39 = .ok (.getfield 71, 3) := by decide +kernel
theorem dX2_compare_42 : decode cX2_compare 42 = .ok (.if_icmp .ge 4, 3) := by decide +kernel
theorem dX2_compare_45 : decode cX2_compare 45 = .ok (.return_, 1) := by decide +kernel
theorem dX2_compare_46 : decode cX2_compare 46 = .ok (.aload_n 0, 1) := by decide +kernel
theorem dX2_compare_47 : decode cX2_compare 47 = .ok (.iload_n 1, 1) := by decide +kernel
theorem dX2_compare_48 : decode cX2_compare 48 = .ok (.putfield 74, 3) := by decide +kernel
theorem dX2_compare_51 : decode cX2_compare 51 = .ok (.aload_n 0, 1) := by decide +kernel
theorem dX2_compare_52 : decode cX2_compare 52 = .ok (.iload_n 2, 1) := by decide +kernel
theorem dX2_compare_53 : decode cX2_compare 53 = .ok (.putfield 77, 3) := by decide +kernel
theorem dX2_compare_56 : decode cX2_compare 56 = .ok (.aload_n 0, 1) := by decide +kernel
theorem dX2_compare_57 : decode cX2_compare 57 = .ok (.iload_n 3, 1) := by decide +kernel
theorem dX2_compare_58 : decode cX2_compare 58 = .ok (.putfield 80, 3) := by decide +kernel
theorem dX2_compare_61 : decode cX2_compare 61 = .ok (.iconst 0, 1) := by decide +kernel
theorem dX2_compare_62 : decode cX2_compare 62 = .ok (.istore 6, 2) := by decide +kernel
theorem dX2_compare_64 : decode cX2_compare 64 = .ok (.iload 6, 2) := by decide +kernel
theorem dX2_compare_66 : decode cX2_compare 66 = .ok (.iload_n 1, 1) := by decide +kernel
theorem dX2_compare_67 : decode cX2_compare 67 = .ok (.if_icmp .ge 23, 3) := by decide +kernel
theorem dX2_compare_70 : decode cX2_compare 70 = .ok (.aload_n 0, 1) := by decide +kernel
theorem dX2_compare_71 : decode cX2_compare 71 = .ok (.getfield 9, 3) := by decide +kernel
theorem dX2_compare_74 : decode cX2_compare 74 = .ok (.iload 6, 2) := by decide +kernel
theorem dX2_compare_76 : decode cX2_compare 76 = .ok (.aload_n 0, 1) := by decide +kernel
theorem dX2_compare_77 : decode cX2_compare 77 = .ok (.getfield 15, 3) := by decide +kernel
theorem dX2_compare_80 : decode cX2_compare 80 = .ok (.iload 6, 2) := by decide +kernel
theorem dX2_compare_82 : decode cX2_compare 82 = .ok (.iaload, 1) := by decide +kernel
theorem dX2_compare_83 : decode cX2_compare 83 = .ok (.iastore, 1) := by decide +kernel
theorem dX2_compare_84 : decode cX2_compare 84 = .ok (.iinc 6 1, 3) := by decide +kernel
theorem dX2_compare_87 : decode cX2_compare 87 = .ok (.goto (-23), 3) := by decide +kernel
theorem dX2_compare_90 : decode cX2_compare 90 = .ok (.return_, 1) := by decide +kernel
theorem dX3_init_0 : decode cX3_init 0 = .ok (.aload_n 0, 1) := by decide +kernel
theorem dX3_init_1 : decode cX3_init 1 = .ok (.invokespecial 3, 3) := by decide +kernel
theorem dX3_init_4 : decode cX3_init 4 = .ok (.aload_n 0, 1) := by decide +kernel
theorem dX3_init_5 : decode cX3_init 5 = .ok (.iconst 5, 1) := by decide +kernel
theorem dX3_init_6 : decode cX3_init 6 = .ok (.newarray .int, 2) := by decide +kernel
theorem dX3_init_8 : decode cX3_init 8 = .ok (.putfield 11, 3) := by decide +kernel
theorem dX3_init_11 : decode cX3_init 11 = .ok (.aload_n 0, 1) := by decide +kernel
theorem dX3_init_12 : decode cX3_init 12 = .ok (.iconst 5, 1) := by decide +kernel
theorem dX3_init_13 : decode cX3_init 13 = .ok (.newarray .int, 2) := by decide +kernel
theorem dX3_init_15 : decode cX3_init 15 = .ok (.putfield 15, 3) := by decide +kernel
theorem dX3_init_18 : decode cX3_init 18 = .ok (.aload_n 0, 1) := by decide +kernel
theorem dX3_init_19 : decode cX3_init 19 = .ok (.iconst 5, 1) := by decide +kernel
theorem dX3_init_20 : decode cX3_init 20 = .ok (.newarray .boolean, 2) := by decide +kernel
theorem dX3_init_22 : decode cX3_init 22 = .ok (.putfield 18, 3) := by decide +kernel
theorem dX3_init_25 : decode cX3_init 25 = .ok (.getstatic 22, 3) := by decide +kernel
theorem dX3_init_28 : decode cX3_init 28 = .ok (.iconst 0, 1) := by decide +kernel
theorem dX3_init_29 : decode cX3_init 29 = .ok (.aload_n 0, 1) := by decide +kernel
theorem dX3_init_30 : decode cX3_init 30 = .ok (.getfield 11, 3) := by decide +kernel
theorem dX3_init_33 : decode cX3_init 33 = .ok (.iconst 0, 1) := by decide +kernel
theorem dX3_init_34 : decode cX3_init 34 = .ok (.iconst 5, 1) := by decide +kernel
theorem dX3_init_35 : decode cX3_init 35 = .ok (.invokestatic 25, 3) := by decide +kernel
theorem dX3_init_38 : decode cX3_init 38 = .ok (.return_, 1) := by decide +kernel
theorem dX3_read_0 : decode cX3_read 0 = .ok (.aload_n 0, 1) := by decide +kernel
theorem dX3_read_1 : decode cX3_read 1 = .ok (.invokevirtual 31, 3) := by decide +kernel
theorem dX3_read_4 : decode cX3_read 4 = .ok (.aload_n 1, 1) := by decide +kernel
theorem dX3_read_5 : decode cX3_read 5 = .ok (.bipush 120, 2) := by decide +kernel
theorem dX3_read_7 : decode cX3_read 7 = .ok (.invokevirtual 34, 3) := by decide +kernel
theorem dX3_read_10 : decode cX3_read 10 = .ok (.iconst 0, 1) := by decide +kernel
theorem dX3_read_11 : decode cX3_read 11 = .ok (.istore_n 2, 1) := by decide +kernel
theorem dX3_read_12 : decode cX3_read 12 = .ok (.iload_n 2, 1) := by decide +kernel
theorem dX3_read_13 : decode cX3_read 13 = .ok (.iconst 5, 1) := by decide +kernel
theorem dX3_read_14 : decode cX3_read 14 = .ok (.if_icmp .gt 27, 3) := by decide +kernel
theorem dX3_read_17 : decode cX3_read 17 = .ok (.aload_n 1, 1) := by decide +kernel
theorem dX3_read_18 : decode cX3_read 18 = .ok (.getfield 40, 3) := by decide +kernel
theorem dX3_read_21 : decode cX3_read 21 = .ok (.iconst 1, 1) := by decide +kernel
theorem dX3_read_22 : decode cX3_read 22 = .ok (.if_icmp .eq 19, 3) := by decide +kernel
theorem dX3_read_25 : decode cX3_read 25 = .ok (.aload_n 0, 1) := by decide +kernel
theorem dX3_read_26 : decode cX3_read 26 = .ok (.aload_n 1, 1) := by decide +kernel
theorem dX3_read_27 : decode cX3_read 27 = .ok (.invokevirtual 44, 3) := by decide +kernel
theorem dX3_read_30 : decode cX3_read 30 = .ok (.ifCond .ne 5, 3) := by decide +kernel
theorem dX3_read_33 : decode cX3_read 33 = .ok (.iconst 0, 1) := by decide +kernel
theorem dX3_read_34 : decode cX3_read 34 = .ok (.ireturn, 1) := by decide +kernel
theorem dX3_read_35 : decode cX3_read 35 = .ok (.iinc 2 1, 3) := by decide +kernel
theorem dX3_read_38 : decode cX3_read 38 = .ok (.goto (-26), 3) := by decide +kernel
theorem dX3_read_41 : decode cX3_read 41 = .ok (.aload_n 0, 1) := by decide +kernel
theorem dX3_read_42 : decode cX3_read 42 = .ok (.getfield 15, 3) := by decide +kernel
theorem dX3_read_45 : decode cX3_read 45 = .ok (.iconst 0, 1) := by decide +kernel
theorem dX3_read_46 : decode cX3_read 46 = .ok (.aload_n 0, 1) := by decide +kernel
theorem dX3_read_47 : decode cX3_read 47 = .ok (.getfield 11, 3) := by decide +kernel
theorem dX3_read_50 : decode cX3_read 50 = .ok (.iconst 0, 1) := by decide +kernel
theorem dX3_read_51 : decode cX3_read 51 = .ok (.iconst 5, 1) := by decide +kernel
theorem dX3_read_52 : decode cX3_read 52 = .ok (.invokestatic 25, 3) := by decide +kernel
theorem dX3_read_55 : decode cX3_read 55 = .ok (.iconst 1, 1) := by decide +kernel
theorem dX3_read_56 : decode cX3_read 56 = .ok (.ireturn, 1) := by decide +kernel
theorem dX3_startAnew_0 : decode cX3_startAnew 0 = .ok (.getstatic 22, 3) := by decide +kernel
theorem dX3_startAnew_3 : decode cX3_startAnew 3 = .ok (.iconst 0, 1) := by decide +kernel
theorem dX3_startAnew_4 : decode cX3_startAnew 4 = .ok (.aload_n 0, 1) := by decide +kernel
theorem dX3_startAnew_5 : decode cX3_startAnew 5 = .ok (.getfield 15, 3) := by decide +kernel
theorem dX3_startAnew_8 : decode cX3_startAnew 8 = .ok (.iconst 0, 1) := by decide +kernel
theorem dX3_startAnew_9 : decode cX3_startAnew 9 = .ok (.iconst 5, 1) := by decide +kernel
theorem dX3_startAnew_10 : decode cX3_startAnew 10 = .ok (.invokestatic 25, 3) := by decide +kernel
theorem dX3_startAnew_13 : decode cX3_startAnew 13 = .ok (.iconst 0, 1) := by decide +kernel
theorem dX3_startAnew_14 : decode cX3_startAnew 14 = .ok (.istore_n 1, 1) := by decide +kernel
theorem dX3_startAnew_15 : decode cX3_startAnew 15 = .ok (.iload_n 1, 1) := by decide +kernel
theorem dX3_startAnew_16 : decode cX3_startAnew 16 = .ok (.iconst 5, 1) := by decide +kernel
theorem dX3_startAnew_17 : decode cX3_startAnew 17 = .ok (.if_icmp .ge 16, 3) := by decide +kernel
theorem dX3_startAnew_20 : decode cX3_startAnew 20 = .ok (.aload_n 0, 1) := by decide +kernel
theorem dX3_startAnew_21 : decode cX3_startAnew 21 = .ok (.getfield 18, 3) := by decide +kernel
theorem dX3_startAnew_24 : decode cX3_startAnew 24 = .ok (.iload_n 1, 1) := by decide +kernel
theorem dX3_startAnew_25 : decode cX3_startAnew 25 = .ok (.iconst 0, 1) := by decide +kernel
theorem dX3_startAnew_26 : decode cX3_startAnew 26 = .ok (.bastore, 1) := by decide +kernel
theorem dX3_startAnew_27 : decode cX3_startAnew 27 = .ok (.iinc 1 1, 3) := by decide +kernel
theorem dX3_startAnew_30 : decode cX3_startAnew 30 = .ok (.goto (-15), 3) := by decide +kernel
theorem dX3_startAnew_33 : decode cX3_startAnew 33 = .ok (.aload_n 0, 1) := by decide +kernel
theorem dX3_startAnew_34 : decode cX3_startAnew 34 = .ok (.iconst 0, 1) := by decide +kernel
theorem dX3_startAnew_35 : decode cX3_startAnew 35 = .ok (.putfield 48, 3) := by decide +kernel
theorem dX3_startAnew_38 : decode cX3_startAnew 38 = .ok (.return_, 1) := by decide +kernel
theorem dX3_readOne_0 : decode cX3_readOne 0 = .ok (.aload_n 1, 1) := by decide +kernel
theorem dX3_readOne_1 : decode cX3_readOne 1 = .ok (.invokestatic 51, 3) := by decide +kernel
theorem dX3_readOne_4 : decode cX3_readOne 4 = .ok (.istore_n 2, 1) := by decide +kernel
theorem dX3_readOne_5 : decode cX3_readOne 5 = .ok (.iload_n 2, 1) := by decide +kernel
theorem dX3_readOne_6 : decode cX3_readOne 6 = .ok (.iconst (-1), 1) := by decide +kernel
theorem dX3_readOne_7 : decode cX3_readOne 7 = .ok (.if_icmp .ne 9, 3) := by decide +kernel
theorem dX3_readOne_10 : decode cX3_readOne 10 = .ok (.aload_n 1, 1) := by decide +kernel
theorem dX3_readOne_11 : decode cX3_readOne 11 = .ok (.iconst 1, 1) := by decide +kernel
theorem dX3_readOne_12 : decode cX3_readOne 12 = .ok (.invokevirtual 55, 3) := by decide +kernel
theorem dX3_readOne_15 : decode cX3_readOne 15 = .ok (.ireturn, 1) := by decide +kernel
theorem dX3_readOne_16 : decode cX3_readOne 16 = .ok (.aload_n 0, 1) := by decide +kernel
theorem dX3_readOne_17 : decode cX3_readOne 17 = .ok (.getfield 18, 3) := by decide +kernel
theorem dX3_readOne_20 : decode cX3_readOne 20 = .ok (.iload_n 2, 1) := by decide +kernel
theorem dX3_readOne_21 : decode cX3_readOne 21 = .ok (.baload, 1) := by decide +kernel
theorem dX3_readOne_22 : decode cX3_readOne 22 = .ok (.ifCond .eq 9, 3) := by decide +kernel
theorem dX3_readOne_25 : decode cX3_readOne 25 = .ok (.aload_n 1, 1) := by decide +kernel
theorem dX3_readOne_26 : decode cX3_readOne 26 = .ok (.iconst 3, 1) := by decide +kernel
theorem dX3_readOne_27 : decode cX3_readOne 27 = .ok (.invokevirtual 55, 3) := by decide +kernel
theorem dX3_readOne_30 : decode cX3_readOne 30 = .ok (.ireturn, 1) := by decide +kernel
theorem dX3_readOne_31 : decode cX3_readOne 31 = .ok (.aload_n 1, 1) := by decide +kernel
theorem dX3_readOne_32 : decode cX3_readOne 32 = .ok (.getstatic 59, 3) := by decide +kernel
theorem dX3_readOne_35 : decode cX3_readOne 35 = .ok (.iload_n 2, 1) := by decide +kernel
theorem dX3_readOne_36 : decode cX3_readOne 36 = .ok (.iaload, 1) := by decide +kernel
theorem dX3_readOne_37 : decode cX3_readOne 37 = .ok (.getstatic 62, 3) := by decide +kernel
theorem dX3_readOne_40 : decode cX3_readOne 40 = .ok (.iload_n 2, 1) := by decide +kernel
theorem dX3_readOne_41 : decode cX3_readOne 41 = .ok (.iaload, 1) := by decide +kernel
theorem dX3_readOne_42 : decode cX3_readOne 42 = .ok (.invokevirtual 65, 3) := by decide +kernel
theorem dX3_readOne_45 : decode cX3_readOne 45 = .ok (.ifCond .ne 5, 3) := by decide +kernel
theorem dX3_readOne_48 : decode cX3_readOne 48 = .ok (.iconst 0, 1) := by decide +kernel
theorem dX3_readOne_49 : decode cX3_readOne 49 = .ok (.ireturn, 1) := by decide +kernel
theorem dX3_readOne_50 : decode cX3_readOne 50 = .ok (.aload_n 0, 1) := by decide +kernel
theorem dX3_readOne_51 : decode cX3_readOne 51 = .ok (.getfield 15, 3) := by decide +kernel
theorem dX3_readOne_54 : decode cX3_readOne 54 = .ok (.iload_n 2, 1) := by decide +kernel
theorem dX3_readOne_55 : decode cX3_readOne 55 = .ok (.aload_n 1, 1) := by decide +kernel
theorem dX3_readOne_56 : decode cX3_readOne 56 = .ok (.getfield 69, 3) := by decide +kernel
theorem dX3_readOne_59 : decode cX3_readOne 59 = .ok (.iastore, 1) := by decide +kernel
theorem dX3_readOne_60 : decode cX3_readOne 60 = .ok (.aload_n 0, 1) := by decide +kernel
theorem dX3_readOne_61 : decode cX3_readOne 61 = .ok (.getfield 18, 3) := by decide +kernel
theorem dX3_readOne_64 : decode cX3_readOne 64 = .ok (.iload_n 2, 1) := by decide +kernel
theorem dX3_readOne_65 : decode cX3_readOne 65 = .ok (.iconst 1, 1) := by decide +kernel
theorem dX3_readOne_66 : decode cX3_readOne 66 = .ok (.bastore, 1) := by decide +kernel
theorem dX3_readOne_67 : decode cX3_readOne 67 = .ok (.aload_n 0, 1) := by decide +kernel
theorem dX3_readOne_68 : decode cX3_readOne 68 = .ok (.dup, 1) := by decide +kernel
theorem dX3_readOne_69 : decode cX3_readOne 69 = .ok (.getfield 48, 3) := by decide +kernel
theorem dX3_readOne_72 : decode cX3_readOne 72 = .ok (.iconst 1, 1) := by decide +kernel
theorem dX3_readOne_73 : decode cX3_readOne 73 = .ok (.iadd, 1) := by decide +kernel
theorem dX3_readOne_74 : decode cX3_readOne 74 = .ok (.putfield 48, 3) := by decide +kernel
theorem dX3_readOne_77 : decode cX3_readOne 77 = .ok (.aload_n 1, 1) := by decide +kernel
theorem dX3_readOne_78 : decode cX3_readOne 78 = .ok (.invokevirtual 72, 3) := by decide +kernel
theorem dX3_readOne_81 : decode cX3_readOne 81 = .ok (.aload_n 1, 1) := by decide +kernel
theorem dX3_readOne_82 : decode cX3_readOne 82 = .ok (.invokevirtual 75, 3) := by decide +kernel
theorem dX3_readOne_85 : decode cX3_readOne 85 = .ok (.ireturn, 1) := by decide +kernel
theorem dX3_named_0 : decode cX3_named 0 = .ok (.aload_n 0, 1) := by decide +kernel
theorem dX3_named_1 : decode cX3_named 1 = .ok (.ldc 79, 2) := by decide +kernel
theorem dX3_named_3 : decode cX3_named 3 = .ok (.invokevirtual 81, 3) := by decide +kernel
theorem dX3_named_6 : decode cX3_named 6 = .ok (.ifCond .eq 5, 3) := by decide +kernel
theorem dX3_named_9 : decode cX3_named 9 = .ok (.iconst 0, 1) := by decide +kernel
theorem dX3_named_10 : decode cX3_named 10 = .ok (.ireturn, 1) := by decide +kernel
theorem dX3_named_11 : decode cX3_named 11 = .ok (.aload_n 0, 1) := by decide +kernel
theorem dX3_named_12 : decode cX3_named 12 = .ok (.ldc 85, 2) := by decide +kernel
theorem dX3_named_14 : decode cX3_named 14 = .ok (.invokevirtual 81, 3) := by decide +kernel
theorem dX3_named_17 : decode cX3_named 17 = .ok (.ifCond .eq 5, 3) := by decide +kernel
theorem dX3_named_20 : decode cX3_named 20 = .ok (.iconst 1, 1) := by decide +kernel
theorem dX3_named_21 : decode cX3_named 21 = .ok (.ireturn, 1) := by decide +kernel
theorem dX3_named_22 : decode cX3_named 22 = .ok (.aload_n 0, 1) := by decide +kernel
theorem dX3_named_23 : decode cX3_named 23 = .ok (.ldc 87, 2) := by decide +kernel
theorem dX3_named_25 : decode cX3_named 25 = .ok (.invokevirtual 81, 3) := by decide +kernel
theorem dX3_named_28 : decode cX3_named 28 = .ok (.ifCond .eq 5, 3) := by decide +kernel
theorem dX3_named_31 : decode cX3_named 31 = .ok (.iconst 2, 1) := by decide +kernel
theorem dX3_named_32 : decode cX3_named 32 = .ok (.ireturn, 1) := by decide +kernel
theorem dX3_named_33 : decode cX3_named 33 = .ok (.aload_n 0, 1) := by decide +kernel
theorem dX3_named_34 : decode cX3_named 34 = .ok (.ldc 89, 2) := by decide +kernel
theorem dX3_named_36 : decode cX3_named 36 = .ok (.invokevirtual 81, 3) := by decide +kernel
theorem dX3_named_39 : decode cX3_named 39 = .ok (.ifCond .eq 5, 3) := by decide +kernel
theorem dX3_named_42 : decode cX3_named 42 = .ok (.iconst 3, 1) := by decide +kernel
theorem dX3_named_43 : decode cX3_named 43 = .ok (.ireturn, 1) := by decide +kernel
theorem dX3_named_44 : decode cX3_named 44 = .ok (.aload_n 0, 1) := by decide +kernel
theorem dX3_named_45 : decode cX3_named 45 = .ok (.ldc 91, 2) := by decide +kernel
theorem dX3_named_47 : decode cX3_named 47 = .ok (.invokevirtual 81, 3) := by decide +kernel
theorem dX3_named_50 : decode cX3_named 50 = .ok (.ifCond .eq 7, 3) := by decide +kernel
theorem dX3_named_53 : decode cX3_named 53 = .ok (.iconst 4, 1) := by decide +kernel
theorem dX3_named_54 : decode cX3_named 54 = .ok (.goto 4, 3) := by decide +kernel
theorem dX3_named_57 : decode cX3_named 57 = .ok (.iconst (-1), 1) := by decide +kernel
theorem dX3_named_58 : decode cX3_named 58 = .ok (.ireturn, 1) := by decide +kernel
theorem dX4_init_0 : decode cX4_init 0 = .ok (.aload_n 0, 1) := by decide +kernel
theorem dX4_init_1 : decode cX4_init 1 = .ok (.invokespecial 3, 3) := by decide +kernel
theorem dX4_init_4 : decode cX4_init 4 = .ok (.aload_n 0, 1) := by decide +kernel
theorem dX4_init_5 : decode cX4_init 5 = .ok (.bipush 24, 2) := by decide +kernel
theorem dX4_init_7 : decode cX4_init 7 = .ok (.newarray .int, 2) := by decide +kernel
theorem dX4_init_9 : decode cX4_init 9 = .ok (.putfield 9, 3) := by decide +kernel
theorem dX4_init_12 : decode cX4_init 12 = .ok (.aload_n 0, 1) := by decide +kernel
theorem dX4_init_13 : decode cX4_init 13 = .ok (.bipush 24, 2) := by decide +kernel
theorem dX4_init_15 : decode cX4_init 15 = .ok (.newarray .int, 2) := by decide +kernel
theorem dX4_init_17 : decode cX4_init 17 = .ok (.putfield 15, 3) := by decide +kernel
theorem dX4_init_20 : decode cX4_init 20 = .ok (.aload_n 0, 1) := by decide +kernel
theorem dX4_init_21 : decode cX4_init 21 = .ok (.bipush 24, 2) := by decide +kernel
theorem dX4_init_23 : decode cX4_init 23 = .ok (.newarray .int, 2) := by decide +kernel
theorem dX4_init_25 : decode cX4_init 25 = .ok (.putfield 18, 3) := by decide +kernel
theorem dX4_init_28 : decode cX4_init 28 = .ok (.aload_n 0, 1) := by decide +kernel
theorem dX4_init_29 : decode cX4_init 29 = .ok (.bipush 24, 2) := by decide +kernel
theorem dX4_init_31 : decode cX4_init 31 = .ok (.newarray .int, 2) := by decide +kernel
theorem dX4_init_33 : decode cX4_init 33 = .ok (.putfield 21, 3) := by decide +kernel
theorem dX4_init_36 : decode cX4_init 36 = .ok (.aload_n 0, 1) := by decide +kernel
theorem dX4_init_37 : decode cX4_init 37 = .ok (.bipush 24, 2) := by decide +kernel
theorem dX4_init_39 : decode cX4_init 39 = .ok (.newarray .int, 2) := by decide +kernel
theorem dX4_init_41 : decode cX4_init 41 = .ok (.putfield 24, 3) := by decide +kernel
theorem dX4_init_44 : decode cX4_init 44 = .ok (.aload_n 0, 1) := by decide +kernel
theorem dX4_init_45 : decode cX4_init 45 = .ok (.bipush 24, 2) := by decide +kernel
theorem dX4_init_47 : decode cX4_init 47 = .ok (.newarray .int, 2) := by decide +kernel
theorem dX4_init_49 : decode cX4_init 49 = .ok (.putfield 27, 3) := by decide +kernel
theorem dX4_init_52 : decode cX4_init 52 = .ok (.aload_n 0, 1) := by decide +kernel
theorem dX4_init_53 : decode cX4_init 53 = .ok (.bipush 24, 2) := by decide +kernel
theorem dX4_init_55 : decode cX4_init 55 = .ok (.newarray .int, 2) := by decide +kernel
theorem dX4_init_57 : decode cX4_init 57 = .ok (.putfield 30, 3) := by decide +kernel
theorem dX4_init_60 : decode cX4_init 60 = .ok (.aload_n 0, 1) := by decide +kernel
theorem dX4_init_61 : decode cX4_init 61 = .ok (.bipush 24, 2) := by decide +kernel
theorem dX4_init_63 : decode cX4_init 63 = .ok (.newarray .int, 2) := by decide +kernel
theorem dX4_init_65 : decode cX4_init 65 = .ok (.putfield 33, 3) := by decide +kernel
theorem dX4_init_68 : decode cX4_init 68 = .ok (.aload_n 0, 1) := by decide +kernel
theorem dX4_init_69 : decode cX4_init 69 = .ok (.bipush 24, 2) := by decide +kernel
theorem dX4_init_71 : decode cX4_init 71 = .ok (.newarray .int, 2) := by decide +kernel
theorem dX4_init_73 : decode cX4_init 73 = .ok (.putfield 36, 3) := by decide +kernel
theorem dX4_init_76 : decode cX4_init 76 = .ok (.aload_n 0, 1) := by decide +kernel
theorem dX4_init_77 : decode cX4_init 77 = .ok (.bipush 12, 2) := by decide +kernel
theorem dX4_init_79 : decode cX4_init 79 = .ok (.newarray .int, 2) := by decide +kernel
theorem dX4_init_81 : decode cX4_init 81 = .ok (.putfield 39, 3) := by decide +kernel
theorem dX4_init_84 : decode cX4_init 84 = .ok (.aload_n 0, 1) := by decide +kernel
theorem dX4_init_85 : decode cX4_init 85 = .ok (.bipush 24, 2) := by decide +kernel
theorem dX4_init_87 : decode cX4_init 87 = .ok (.newarray .int, 2) := by decide +kernel
theorem dX4_init_89 : decode cX4_init 89 = .ok (.putfield 42, 3) := by decide +kernel
theorem dX4_init_92 : decode cX4_init 92 = .ok (.aload_n 0, 1) := by decide +kernel
theorem dX4_init_93 : decode cX4_init 93 = .ok (.bipush 24, 2) := by decide +kernel
theorem dX4_init_95 : decode cX4_init 95 = .ok (.newarray .int, 2) := by decide +kernel
theorem dX4_init_97 : decode cX4_init 97 = .ok (.putfield 45, 3) := by decide +kernel
theorem dX4_init_100 : decode cX4_init 100 = .ok (.aload_n 0, 1) := by decide +kernel
theorem dX4_init_101 : decode cX4_init 101 = .ok (.sipush 240, 3) := by decide +kernel
theorem dX4_init_104 : decode cX4_init 104 = .ok (.newarray .byte, 2) := by decide +kernel
theorem dX4_init_106 : decode cX4_init 106 = .ok (.putfield 48, 3) := by decide +kernel
theorem dX4_init_109 : decode cX4_init 109 = .ok (.aload_n 0, 1) := by decide +kernel
theorem dX4_init_110 : decode cX4_init 110 = .ok (.getfield 36, 3) := by decide +kernel
theorem dX4_init_113 : decode cX4_init 113 = .ok (.iconst (-1), 1) := by decide +kernel
theorem dX4_init_114 : decode cX4_init 114 = .ok (.invokestatic 52, 3) := by decide +kernel
theorem dX4_init_117 : decode cX4_init 117 = .ok (.aload_n 0, 1) := by decide +kernel
theorem dX4_init_118 : decode cX4_init 118 = .ok (.getfield 39, 3) := by decide +kernel
theorem dX4_init_121 : decode cX4_init 121 = .ok (.iconst (-1), 1) := by decide +kernel
theorem dX4_init_122 : decode cX4_init 122 = .ok (.invokestatic 52, 3) := by decide +kernel
theorem dX4_init_125 : decode cX4_init 125 = .ok (.return_, 1) := by decide +kernel
theorem dX4_has_0 : decode cX4_has 0 = .ok (.iload_n 1, 1) := by decide +kernel
theorem dX4_has_1 : decode cX4_has 1 = .ok (.ifCond .lt 15, 3) := by decide +kernel
theorem dX4_has_4 : decode cX4_has 4 = .ok (.iload_n 1, 1) := by decide +kernel
theorem dX4_has_5 : decode cX4_has 5 = .ok (.aload_n 0, 1) := by decide +kernel
theorem dX4_has_6 : decode cX4_has 6 = .ok (.getfield 58, 3) := by decide +kernel
theorem dX4_has_9 : decode cX4_has 9 = .ok (.if_icmp .ge 7, 3) := by decide +kernel
theorem dX4_has_12 : decode cX4_has 12 = .ok (.iconst 1, 1) := by decide +kernel
theorem dX4_has_13 : decode cX4_has 13 = .ok (.goto 4, 3) := by decide +kernel
theorem dX4_has_16 : decode cX4_has 16 = .ok (.iconst 0, 1) := by decide +kernel
theorem dX4_has_17 : decode cX4_has 17 = .ok (.ireturn, 1) := by decide +kernel
theorem dX4_add_0 : decode cX4_add 0 = .ok (.aload_n 0, 1) := by decide +kernel
theorem dX4_add_1 : decode cX4_add 1 = .ok (.getfield 58, 3) := by decide +kernel
theorem dX4_add_4 : decode cX4_add 4 = .ok (.istore 6, 2) := by decide +kernel
theorem dX4_add_6 : decode cX4_add 6 = .ok (.aload_n 0, 1) := by decide +kernel
theorem dX4_add_7 : decode cX4_add 7 = .ok (.getfield 9, 3) := by decide +kernel
theorem dX4_add_10 : decode cX4_add 10 = .ok (.iload 6, 2) := by decide +kernel
theorem dX4_add_12 : decode cX4_add 12 = .ok (.iload_n 1, 1) := by decide +kernel
theorem dX4_add_13 : decode cX4_add 13 = .ok (.iastore, 1) := by decide +kernel
theorem dX4_add_14 : decode cX4_add 14 = .ok (.aload_n 0, 1) := by decide +kernel
theorem dX4_add_15 : decode cX4_add 15 = .ok (.getfield 15, 3) := by decide +kernel
theorem dX4_add_18 : decode cX4_add 18 = .ok (.iload 6, 2) := by decide +kernel
theorem dX4_add_20 : decode cX4_add 20 = .ok (.iload_n 2, 1) := by decide +kernel
theorem dX4_add_21 : decode cX4_add 21 = .ok (.iastore, 1) := by decide +kernel
theorem dX4_add_22 : decode cX4_add 22 = .ok (.aload_n 0, 1) := by decide +kernel
theorem dX4_add_23 : decode cX4_add 23 = .ok (.getfield 18, 3) := by decide +kernel
theorem dX4_add_26 : decode cX4_add 26 = .ok (.iload 6, 2) := by decide +kernel
theorem dX4_add_28 : decode cX4_add 28 = .ok (.iload_n 3, 1) := by decide +kernel
theorem dX4_add_29 : decode cX4_add 29 = .ok (.iastore, 1) := by decide +kernel
theorem dX4_add_30 : decode cX4_add 30 = .ok (.aload_n 0, 1) := by decide +kernel
theorem dX4_add_31 : decode cX4_add 31 = .ok (.getfield 21, 3) := by decide +kernel
theorem dX4_add_34 : decode cX4_add 34 = .ok (.iload 6, 2) := by decide +kernel
theorem dX4_add_36 : decode cX4_add 36 = .ok (.iload 4, 2) := by decide +kernel
theorem dX4_add_38 : decode cX4_add 38 = .ok (.iastore, 1) := by decide +kernel
theorem dX4_add_39 : decode cX4_add 39 = .ok (.aload_n 0, 1) := by decide +kernel
theorem dX4_add_40 : decode cX4_add 40 = .ok (.getfield 24, 3) := by decide +kernel
theorem dX4_add_43 : decode cX4_add 43 = .ok (.iload 6, 2) := by decide +kernel
theorem dX4_add_45 : decode cX4_add 45 = .ok (.iload 5, 2) := by decide +kernel
theorem dX4_add_47 : decode cX4_add 47 = .ok (.iastore, 1) := by decide +kernel
theorem dX4_add_48 : decode cX4_add 48 = .ok (.aload_n 0, 1) := by decide +kernel
theorem dX4_add_49 : decode cX4_add 49 = .ok (.dup, 1) := by decide +kernel
theorem dX4_add_50 : decode cX4_add 50 = .ok (.getfield 58, 3) := by decide +kernel
theorem dX4_add_53 : decode cX4_add 53 = .ok (.iconst 1, 1) := by decide +kernel
theorem dX4_add_54 : decode cX4_add 54 = .ok (.iadd, 1) := by decide +kernel
theorem dX4_add_55 : decode cX4_add 55 = .ok (.putfield 58, 3) := by decide +kernel
theorem dX4_add_58 : decode cX4_add 58 = .ok (.iload 6, 2) := by decide +kernel
theorem dX4_add_60 : decode cX4_add 60 = .ok (.ireturn, 1) := by decide +kernel
theorem dX4_takeVote_0 : decode cX4_takeVote 0 = .ok (.iload_n 1, 1) := by decide +kernel
theorem dX4_takeVote_1 : decode cX4_takeVote 1 = .ok (.bipush 10, 2) := by decide +kernel
theorem dX4_takeVote_3 : decode cX4_takeVote 3 = .ok (.imul, 1) := by decide +kernel
theorem dX4_takeVote_4 : decode cX4_takeVote 4 = .ok (.aload_n 0, 1) := by decide +kernel
theorem dX4_takeVote_5 : decode cX4_takeVote 5 = .ok (.getfield 45, 3) := by decide +kernel
theorem dX4_takeVote_8 : decode cX4_takeVote 8 = .ok (.iload_n 1, 1) := by decide +kernel
theorem dX4_takeVote_9 : decode cX4_takeVote 9 = .ok (.iaload, 1) := by decide +kernel
theorem dX4_takeVote_10 : decode cX4_takeVote 10 = .ok (.iadd, 1) := by decide +kernel
theorem dX4_takeVote_11 : decode cX4_takeVote 11 = .ok (.istore_n 3, 1) := by decide +kernel
theorem dX4_takeVote_12 : decode cX4_takeVote 12 = .ok (.aload_n 0, 1) := by decide +kernel
theorem dX4_takeVote_13 : decode cX4_takeVote 13 = .ok (.getfield 42, 3) := by decide +kernel
theorem dX4_takeVote_16 : decode cX4_takeVote 16 = .ok (.iload_n 1, 1) := by decide +kernel
theorem dX4_takeVote_17 : decode cX4_takeVote 17 = .ok (.dup2, 1) := by decide +kernel
theorem dX4_takeVote_18 : decode cX4_takeVote 18 = .ok (.iaload, 1) := by decide +kernel
theorem dX4_takeVote_19 : decode cX4_takeVote 19 = .ok (.iload_n 2, 1) := by decide +kernel
theorem dX4_takeVote_20 : decode cX4_takeVote 20 = .ok (.aload_n 0, 1) := by decide +kernel
theorem dX4_takeVote_21 : decode cX4_takeVote 21 = .ok (.getfield 48, 3) := by decide +kernel
theorem dX4_takeVote_24 : decode cX4_takeVote 24 = .ok (.iload_n 3, 1) := by decide +kernel
theorem dX4_takeVote_25 : decode cX4_takeVote 25 = .ok (.baload, 1) := by decide +kernel
theorem dX4_takeVote_26 : decode cX4_takeVote 26 = .ok (.isub, 1) := by decide +kernel
theorem dX4_takeVote_27 : decode cX4_takeVote 27 = .ok (.iadd, 1) := by decide +kernel
theorem dX4_takeVote_28 : decode cX4_takeVote 28 = .ok (.iastore, 1) := by decide +kernel
theorem dX4_takeVote_29 : decode cX4_takeVote 29 = .ok (.aload_n 0, 1) := by decide +kernel
theorem dX4_takeVote_30 : decode cX4_takeVote 30 = .ok (.getfield 48, 3) := by decide +kernel
theorem dX4_takeVote_33 : decode cX4_takeVote 33 = .ok (.iload_n 3, 1) := by decide +kernel
theorem dX4_takeVote_34 : decode cX4_takeVote 34 = .ok (.iload_n 2, 1) := by decide +kernel
theorem dX4_takeVote_35 : decode cX4_takeVote 35 = .ok (.i2b, 1) := by decide +kernel
theorem dX4_takeVote_36 : decode cX4_takeVote 36 = .ok (.bastore, 1) := by decide +kernel
theorem dX4_takeVote_37 : decode cX4_takeVote 37 = .ok (.aload_n 0, 1) := by decide +kernel
theorem dX4_takeVote_38 : decode cX4_takeVote 38 = .ok (.getfield 45, 3) := by decide +kernel
theorem dX4_takeVote_41 : decode cX4_takeVote 41 = .ok (.iload_n 1, 1) := by decide +kernel
theorem dX4_takeVote_42 : decode cX4_takeVote 42 = .ok (.aload_n 0, 1) := by decide +kernel
theorem dX4_takeVote_43 : decode cX4_takeVote 43 = .ok (.getfield 45, 3) := by decide +kernel
theorem dX4_takeVote_46 : decode cX4_takeVote 46 = .ok (.iload_n 1, 1) := by decide +kernel
theorem dX4_takeVote_47 : decode cX4_takeVote 47 = .ok (.iaload, 1) := by decide +kernel
theorem dX4_takeVote_48 : decode cX4_takeVote 48 = .ok (.iconst 1, 1) := by decide +kernel
theorem dX4_takeVote_49 : decode cX4_takeVote 49 = .ok (.iadd, 1) := by decide +kernel
theorem dX4_takeVote_50 : decode cX4_takeVote 50 = .ok (.bipush 10, 2) := by decide +kernel
theorem dX4_takeVote_52 : decode cX4_takeVote 52 = .ok (.if_icmp .ge 14, 3) := by decide +kernel
theorem dX4_takeVote_55 : decode cX4_takeVote 55 = .ok (.aload_n 0, 1) := by decide +kernel
theorem dX4_takeVote_56 : decode cX4_takeVote 56 = .ok (.getfield 45, 3) := by decide +kernel
theorem dX4_takeVote_59 : decode cX4_takeVote 59 = .ok (.iload_n 1, 1) := by decide +kernel
theorem dX4_takeVote_60 : decode cX4_takeVote 60 = .ok (.iaload, 1) := by decide +kernel
theorem dX4_takeVote_61 : decode cX4_takeVote 61 = .ok (.iconst 1, 1) := by decide +kernel
theorem dX4_takeVote_62 : decode cX4_takeVote 62 = .ok (.iadd, 1) := by decide +kernel
theorem dX4_takeVote_63 : decode cX4_takeVote 63 = .ok (.goto 4, 3) := by decide +kernel
theorem dX4_takeVote_66 : decode cX4_takeVote 66 = .ok (.iconst 0, 1) := by decide +kernel
theorem dX4_takeVote_67 : decode cX4_takeVote 67 = .ok (.iastore, 1) := by decide +kernel
theorem dX4_takeVote_68 : decode cX4_takeVote 68 = .ok (.return_, 1) := by decide +kernel
theorem dX4_heat_0 : decode cX4_heat 0 = .ok (.aload_n 0, 1) := by decide +kernel
theorem dX4_heat_1 : decode cX4_heat 1 = .ok (.getfield 42, 3) := by decide +kernel
theorem dX4_heat_4 : decode cX4_heat 4 = .ok (.iload_n 1, 1) := by decide +kernel
theorem dX4_heat_5 : decode cX4_heat 5 = .ok (.iaload, 1) := by decide +kernel
theorem dX4_heat_6 : decode cX4_heat 6 = .ok (.bipush 15, 2) := by decide +kernel
theorem dX4_heat_8 : decode cX4_heat 8 = .ok (.aload_n 0, 1) := by decide +kernel
theorem dX4_heat_9 : decode cX4_heat 9 = .ok (.getfield 27, 3) := by decide +kernel
theorem dX4_heat_12 : decode cX4_heat 12 = .ok (.iload_n 1, 1) := by decide +kernel
theorem dX4_heat_13 : decode cX4_heat 13 = .ok (.iaload, 1) := by decide +kernel
theorem dX4_heat_14 : decode cX4_heat 14 = .ok (.imul, 1) := by decide +kernel
theorem dX4_heat_15 : decode cX4_heat 15 = .ok (.iadd, 1) := by decide +kernel
theorem dX4_heat_16 : decode cX4_heat 16 = .ok (.ireturn, 1) := by decide +kernel
theorem dX4_allAsksOpen_0 : decode cX4_allAsksOpen 0 = .ok (.iconst 0, 1) := by decide +kernel
theorem dX4_allAsksOpen_1 : decode cX4_allAsksOpen 1 = .ok (.istore_n 1, 1) := by decide +kernel
theorem dX4_allAsksOpen_2 : decode cX4_allAsksOpen 2 = .ok (.iconst 0, 1) := by decide +kernel
theorem dX4_allAsksOpen_3 : decode cX4_allAsksOpen 3 = .ok (.istore_n 2, 1) := by decide +kernel
theorem dX4_allAsksOpen_4 : decode cX4_allAsksOpen 4 = .ok (.iload_n 2, 1) := by decide +kernel
theorem dX4_allAsksOpen_5 : decode cX4_allAsksOpen 5 = .ok (.aload_n 0, 1) := by decide +kernel
theorem dX4_allAsksOpen_6 : decode cX4_allAsksOpen 6 = .ok (.getfield 58, 3) := by decide +kernel
theorem dX4_allAsksOpen_9 : decode cX4_allAsksOpen 9 = .ok (.if_icmp .ge 18, 3) := by decide +kernel
theorem dX4_allAsksOpen_12 : decode cX4_allAsksOpen 12 = .ok (.iload_n 1, 1) := by decide +kernel
theorem dX4_allAsksOpen_13 : decode cX4_allAsksOpen 13 = .ok (.aload_n 0, 1) := by decide +kernel
theorem dX4_allAsksOpen_14 : decode cX4_allAsksOpen 14 = .ok (.getfield 27, 3) := by decide +kernel
theorem dX4_allAsksOpen_17 : decode cX4_allAsksOpen 17 = .ok (.iload_n 2, 1) := by decide +kernel
theorem dX4_allAsksOpen_18 : decode cX4_allAsksOpen 18 = .ok (.iaload, 1) := by decide +kernel
theorem dX4_allAsksOpen_19 : decode cX4_allAsksOpen 19 = .ok (.iadd, 1) := by decide +kernel
theorem dX4_allAsksOpen_20 : decode cX4_allAsksOpen 20 = .ok (.istore_n 1, 1) := by decide +kernel
theorem dX4_allAsksOpen_21 : decode cX4_allAsksOpen 21 = .ok (.iinc 2 1, 3) := by decide +kernel
theorem dX4_allAsksOpen_24 : decode cX4_allAsksOpen 24 = .ok (.goto (-20), 3) := by decide +kernel
theorem dX4_allAsksOpen_27 : decode cX4_allAsksOpen 27 = .ok (.iload_n 1, 1) := by decide +kernel
theorem dX4_allAsksOpen_28 : decode cX4_allAsksOpen 28 = .ok (.ireturn, 1) := by decide +kernel
theorem dX4_begin_0 : decode cX4_begin 0 = .ok (.aload_n 0, 1) := by decide +kernel
theorem dX4_begin_1 : decode cX4_begin 1 = .ok (.getfield 33, 3) := by decide +kernel
theorem dX4_begin_4 : decode cX4_begin 4 = .ok (.iload_n 1, 1) := by decide +kernel
theorem dX4_begin_5 : decode cX4_begin 5 = .ok (.dup2, 1) := by decide +kernel
theorem dX4_begin_6 : decode cX4_begin 6 = .ok (.iaload, 1) := by decide +kernel
theorem dX4_begin_7 : decode cX4_begin 7 = .ok (.iconst 1, 1) := by decide +kernel
theorem dX4_begin_8 : decode cX4_begin 8 = .ok (.iadd, 1) := by decide +kernel
theorem dX4_begin_9 : decode cX4_begin 9 = .ok (.iastore, 1) := by decide +kernel
theorem dX4_begin_10 : decode cX4_begin 10 = .ok (.aload_n 0, 1) := by decide +kernel
theorem dX4_begin_11 : decode cX4_begin 11 = .ok (.getfield 36, 3) := by decide +kernel
theorem dX4_begin_14 : decode cX4_begin 14 = .ok (.iload_n 1, 1) := by decide +kernel
theorem dX4_begin_15 : decode cX4_begin 15 = .ok (.iload_n 2, 1) := by decide +kernel
theorem dX4_begin_16 : decode cX4_begin 16 = .ok (.iastore, 1) := by decide +kernel
theorem dX4_begin_17 : decode cX4_begin 17 = .ok (.aload_n 0, 1) := by decide +kernel
theorem dX4_begin_18 : decode cX4_begin 18 = .ok (.getfield 39, 3) := by decide +kernel
theorem dX4_begin_21 : decode cX4_begin 21 = .ok (.aload_n 0, 1) := by decide +kernel
theorem dX4_begin_22 : decode cX4_begin 22 = .ok (.getfield 15, 3) := by decide +kernel
theorem dX4_begin_25 : decode cX4_begin 25 = .ok (.iload_n 1, 1) := by decide +kernel
theorem dX4_begin_26 : decode cX4_begin 26 = .ok (.iaload, 1) := by decide +kernel
theorem dX4_begin_27 : decode cX4_begin 27 = .ok (.iload_n 2, 1) := by decide +kernel
theorem dX4_begin_28 : decode cX4_begin 28 = .ok (.iastore, 1) := by decide +kernel
theorem dX4_begin_29 : decode cX4_begin 29 = .ok (.aload_n 0, 1) := by decide +kernel
theorem dX4_begin_30 : decode cX4_begin 30 = .ok (.getfield 27, 3) := by decide +kernel
theorem dX4_begin_33 : decode cX4_begin 33 = .ok (.iload_n 1, 1) := by decide +kernel
theorem dX4_begin_34 : decode cX4_begin 34 = .ok (.iaload, 1) := by decide +kernel
theorem dX4_begin_35 : decode cX4_begin 35 = .ok (.ifCond .le 23, 3) := by decide +kernel
theorem dX4_begin_38 : decode cX4_begin 38 = .ok (.aload_n 0, 1) := by decide +kernel
theorem dX4_begin_39 : decode cX4_begin 39 = .ok (.getfield 27, 3) := by decide +kernel
theorem dX4_begin_42 : decode cX4_begin 42 = .ok (.iload_n 1, 1) := by decide +kernel
theorem dX4_begin_43 : decode cX4_begin 43 = .ok (.dup2, 1) := by decide +kernel
theorem dX4_begin_44 : decode cX4_begin 44 = .ok (.iaload, 1) := by decide +kernel
theorem dX4_begin_45 : decode cX4_begin 45 = .ok (.iconst 1, 1) := by decide +kernel
theorem dX4_begin_46 : decode cX4_begin 46 = .ok (.isub, 1) := by decide +kernel
theorem dX4_begin_47 : decode cX4_begin 47 = .ok (.iastore, 1) := by decide +kernel
theorem dX4_begin_48 : decode cX4_begin 48 = .ok (.aload_n 0, 1) := by decide +kernel
theorem dX4_begin_49 : decode cX4_begin 49 = .ok (.getfield 30, 3) := by decide +kernel
theorem dX4_begin_52 : decode cX4_begin 52 = .ok (.iload_n 1, 1) := by decide +kernel
theorem dX4_begin_53 : decode cX4_begin 53 = .ok (.dup2, 1) := by decide +kernel
theorem dX4_begin_54 : decode cX4_begin 54 = .ok (.iaload, 1) := by decide +kernel
theorem dX4_begin_55 : decode cX4_begin 55 = .ok (.iconst 1, 1) := by decide +kernel
theorem dX4_begin_56 : decode cX4_begin 56 = .ok (.iadd, 1) := by decide +kernel
theorem dX4_begin_57 : decode cX4_begin 57 = .ok (.iastore, 1) := by decide +kernel
theorem dX4_begin_58 : decode cX4_begin 58 = .ok (.return_, 1) := by decide +kernel
theorem dX5_init_0 : decode cX5_init 0 = .ok (.aload_n 0, 1) := by decide +kernel
theorem dX5_init_1 : decode cX5_init 1 = .ok (.invokespecial 1, 3) := by decide +kernel
theorem dX5_init_4 : decode cX5_init 4 = .ok (.aload_n 0, 1) := by decide +kernel
theorem dX5_init_5 : decode cX5_init 5 = .ok (.sipush 260, 3) := by decide +kernel
theorem dX5_init_8 : decode cX5_init 8 = .ok (.newarray .byte, 2) := by decide +kernel
theorem dX5_init_10 : decode cX5_init 10 = .ok (.putfield 9, 3) := by decide +kernel
theorem dX5_init_13 : decode cX5_init 13 = .ok (.return_, 1) := by decide +kernel
theorem dX5_hasRoomForFive_0 : decode cX5_hasRoomForFive 0 = .ok (.aload_n 0, 1) := by decide +kernel
theorem dX5_hasRoomForFive_1 : decode cX5_hasRoomForFive 1 = .ok (.getfield 13, 3) := by decide +kernel
theorem dX5_hasRoomForFive_4 : decode cX5_hasRoomForFive 4 = .ok (.sipush 240, 3) := by decide +kernel
theorem dX5_hasRoomForFive_7 : decode cX5_hasRoomForFive 7 = .ok (.if_icmp .gt 7, 3) := by decide +kernel
theorem dX5_hasRoomForFive_10 : decode cX5_hasRoomForFive 10 = .ok (.iconst 1, 1) := by decide +kernel
theorem dX5_hasRoomForFive_11 : decode cX5_hasRoomForFive 11 = .ok (.goto 4, 3) := by decide +kernel
theorem dX5_hasRoomForFive_14 : decode cX5_hasRoomForFive 14 = .ok (.iconst 0, 1) := by decide +kernel
theorem dX5_hasRoomForFive_15 : decode cX5_hasRoomForFive 15 = .ok (.ireturn, 1) := by decide +kernel
theorem dX5_append_0 : decode cX5_append 0 = .ok (.bipush 24, 2) := by decide +kernel
theorem dX5_append_2 : decode cX5_append 2 = .ok (.istore_n 2, 1) := by decide +kernel
theorem dX5_append_3 : decode cX5_append 3 = .ok (.iload_n 2, 1) := by decide +kernel
theorem dX5_append_4 : decode cX5_append 4 = .ok (.ifCond .lt 42, 3) := by decide +kernel
theorem dX5_append_7 : decode cX5_append 7 = .ok (.aload_n 0, 1) := by decide +kernel
theorem dX5_append_8 : decode cX5_append 8 = .ok (.getfield 13, 3) := by decide +kernel
theorem dX5_append_11 : decode cX5_append 11 = .ok (.sipush 260, 3) := by decide +kernel
theorem dX5_append_14 : decode cX5_append 14 = .ok (.if_icmp .ge 32, 3) := by decide +kernel
theorem dX5_append_17 : decode cX5_append 17 = .ok (.aload_n 0, 1) := by decide +kernel
theorem dX5_append_18 : decode cX5_append 18 = .ok (.getfield 9, 3) := by decide +kernel
theorem dX5_append_21 : decode cX5_append 21 = .ok (.aload_n 0, 1) := by decide +kernel
theorem dX5_append_22 : decode cX5_append 22 = .ok (.getfield 13, 3) := by decide +kernel
theorem dX5_append_25 : decode cX5_append 25 = .ok (.iload_n 1, 1) := by decide +kernel
end
section
theorem dX5_append_26 : decode cX5_append 26 = .ok (.iload_n 2, 1) := by decide +kernel
theorem dX5_append_27 : decode cX5_append 27 = .ok (.iushr, 1) := by decide +kernel
theorem dX5_append_28 : decode cX5_append 28 = .ok (.i2b, 1) := by decide +kernel
theorem dX5_append_29 : decode cX5_append 29 = .ok (.bastore, 1) := by decide +kernel
theorem dX5_append_30 : decode cX5_append 30 = .ok (.aload_n 0, 1) := by decide +kernel
theorem dX5_append_31 : decode cX5_append 31 = .ok (.dup, 1) := by decide +kernel
theorem dX5_append_32 : decode cX5_append 32 = .ok (.getfield 13, 3) := by decide +kernel
theorem dX5_append_35 : decode cX5_append 35 = .ok (.iconst 1, 1) := by decide +kernel
theorem dX5_append_36 : decode cX5_append 36 = .ok (.iadd, 1) := by decide +kernel
theorem dX5_append_37 : decode cX5_append 37 = .ok (.putfield 13, 3) := by decide +kernel
theorem dX5_append_40 : decode cX5_append 40 = .ok (.iinc 2 (-8), 3) := by decide +kernel
theorem dX5_append_43 : decode cX5_append 43 = .ok (.goto (-40), 3) := by decide +kernel
theorem dX5_append_46 : decode cX5_append 46 = .ok (.return_, 1) := by decide +kernel
theorem dX5_start_0 : decode cX5_start 0 = .ok (.aload_n 0, 1) := by decide +kernel
theorem dX5_start_1 : decode cX5_start 1 = .ok (.iload_n 1, 1) := by decide +kernel
theorem dX5_start_2 : decode cX5_start 2 = .ok (.putfield 17, 3) := by decide +kernel
theorem dX5_start_5 : decode cX5_start 5 = .ok (.aload_n 0, 1) := by decide +kernel
theorem dX5_start_6 : decode cX5_start 6 = .ok (.iconst 0, 1) := by decide +kernel
theorem dX5_start_7 : decode cX5_start 7 = .ok (.putfield 20, 3) := by decide +kernel
theorem dX5_start_10 : decode cX5_start 10 = .ok (.aload_n 0, 1) := by decide +kernel
theorem dX5_start_11 : decode cX5_start 11 = .ok (.iconst 0, 1) := by decide +kernel
theorem dX5_start_12 : decode cX5_start 12 = .ok (.putfield 23, 3) := by decide +kernel
theorem dX5_start_15 : decode cX5_start 15 = .ok (.aload_n 0, 1) := by decide +kernel
theorem dX5_start_16 : decode cX5_start 16 = .ok (.iconst 0, 1) := by decide +kernel
theorem dX5_start_17 : decode cX5_start 17 = .ok (.putfield 26, 3) := by decide +kernel
theorem dX5_start_20 : decode cX5_start 20 = .ok (.aload_n 0, 1) := by decide +kernel
theorem dX5_start_21 : decode cX5_start 21 = .ok (.invokevirtual 29, 3) := by decide +kernel
theorem dX5_start_24 : decode cX5_start 24 = .ok (.return_, 1) := by decide +kernel
theorem dX5_step_0 : decode cX5_step 0 = .ok (.aload_n 0, 1) := by decide +kernel
theorem dX5_step_1 : decode cX5_step 1 = .ok (.getfield 26, 3) := by decide +kernel
theorem dX5_step_4 : decode cX5_step 4 = .ok (.istore_n 1, 1) := by decide +kernel
theorem dX5_step_5 : decode cX5_step 5 = .ok (.iload_n 1, 1) := by decide +kernel
theorem dX5_step_6 : decode cX5_step 6 = .ok (.aload_n 0, 1) := by decide +kernel
theorem dX5_step_7 : decode cX5_step 7 = .ok (.getfield 13, 3) := by decide +kernel
theorem dX5_step_10 : decode cX5_step 10 = .ok (.if_icmp .ge 21, 3) := by decide +kernel
theorem dX5_step_13 : decode cX5_step 13 = .ok (.aload_n 0, 1) := by decide +kernel
theorem dX5_step_14 : decode cX5_step 14 = .ok (.getfield 9, 3) := by decide +kernel
theorem dX5_step_17 : decode cX5_step 17 = .ok (.iload_n 1, 1) := by decide +kernel
theorem dX5_step_18 : decode cX5_step 18 = .ok (.baload, 1) := by decide +kernel
theorem dX5_step_19 : decode cX5_step 19 = .ok (.invokestatic 32, 3) := by decide +kernel
theorem dX5_step_22 : decode cX5_step 22 = .ok (.ifCond .eq 9, 3) := by decide +kernel
theorem dX5_step_25 : decode cX5_step 25 = .ok (.iinc 1 1, 3) := by decide +kernel
theorem dX5_step_28 : decode cX5_step 28 = .ok (.goto (-23), 3) := by decide +kernel
theorem dX5_step_31 : decode cX5_step 31 = .ok (.iload_n 1, 1) := by decide +kernel
theorem dX5_step_32 : decode cX5_step 32 = .ok (.aload_n 0, 1) := by decide +kernel
theorem dX5_step_33 : decode cX5_step 33 = .ok (.getfield 13, 3) := by decide +kernel
theorem dX5_step_36 : decode cX5_step 36 = .ok (.if_icmp .ge 17, 3) := by decide +kernel
theorem dX5_step_39 : decode cX5_step 39 = .ok (.iload_n 1, 1) := by decide +kernel
theorem dX5_step_40 : decode cX5_step 40 = .ok (.aload_n 0, 1) := by decide +kernel
theorem dX5_step_41 : decode cX5_step 41 = .ok (.getfield 17, 3) := by decide +kernel
theorem dX5_step_44 : decode cX5_step 44 = .ok (.if_icmp .ge 9, 3) := by decide +kernel
theorem dX5_step_47 : decode cX5_step 47 = .ok (.aload_n 0, 1) := by decide +kernel
theorem dX5_step_48 : decode cX5_step 48 = .ok (.iload_n 1, 1) := by decide +kernel
theorem dX5_step_49 : decode cX5_step 49 = .ok (.invokevirtual 36, 3) := by decide +kernel
theorem dX5_step_52 : decode cX5_step 52 = .ok (.return_, 1) := by decide +kernel
theorem dX5_step_53 : decode cX5_step 53 = .ok (.aload_n 0, 1) := by decide +kernel
theorem dX5_step_54 : decode cX5_step 54 = .ok (.aload_n 0, 1) := by decide +kernel
theorem dX5_step_55 : decode cX5_step 55 = .ok (.getfield 13, 3) := by decide +kernel
theorem dX5_step_58 : decode cX5_step 58 = .ok (.aload_n 0, 1) := by decide +kernel
theorem dX5_step_59 : decode cX5_step 59 = .ok (.getfield 17, 3) := by decide +kernel
theorem dX5_step_62 : decode cX5_step 62 = .ok (.if_icmp .le 7, 3) := by decide +kernel
theorem dX5_step_65 : decode cX5_step 65 = .ok (.iconst 0, 1) := by decide +kernel
theorem dX5_step_66 : decode cX5_step 66 = .ok (.goto 4, 3) := by decide +kernel
theorem dX5_step_69 : decode cX5_step 69 = .ok (.iconst 1, 1) := by decide +kernel
theorem dX5_step_70 : decode cX5_step 70 = .ok (.putfield 40, 3) := by decide +kernel
theorem dX5_step_73 : decode cX5_step 73 = .ok (.aload_n 0, 1) := by decide +kernel
theorem dX5_step_74 : decode cX5_step 74 = .ok (.aload_n 0, 1) := by decide +kernel
theorem dX5_step_75 : decode cX5_step 75 = .ok (.getfield 13, 3) := by decide +kernel
theorem dX5_step_78 : decode cX5_step 78 = .ok (.aload_n 0, 1) := by decide +kernel
theorem dX5_step_79 : decode cX5_step 79 = .ok (.getfield 17, 3) := by decide +kernel
theorem dX5_step_82 : decode cX5_step 82 = .ok (.invokestatic 43, 3) := by decide +kernel
theorem dX5_step_85 : decode cX5_step 85 = .ok (.putfield 49, 3) := by decide +kernel
theorem dX5_step_88 : decode cX5_step 88 = .ok (.aload_n 0, 1) := by decide +kernel
theorem dX5_step_89 : decode cX5_step 89 = .ok (.aload_n 0, 1) := by decide +kernel
theorem dX5_step_90 : decode cX5_step 90 = .ok (.getfield 49, 3) := by decide +kernel
theorem dX5_step_93 : decode cX5_step 93 = .ok (.putfield 26, 3) := by decide +kernel
theorem dX5_step_96 : decode cX5_step 96 = .ok (.return_, 1) := by decide +kernel
theorem dX5_readToken_0 : decode cX5_readToken 0 = .ok (.aload_n 0, 1) := by decide +kernel
theorem dX5_readToken_1 : decode cX5_readToken 1 = .ok (.iload_n 1, 1) := by decide +kernel
theorem dX5_readToken_2 : decode cX5_readToken 2 = .ok (.putfield 49, 3) := by decide +kernel
theorem dX5_readToken_5 : decode cX5_readToken 5 = .ok (.aload_n 0, 1) := by decide +kernel
theorem dX5_readToken_6 : decode cX5_readToken 6 = .ok (.getfield 9, 3) := by decide +kernel
theorem dX5_readToken_9 : decode cX5_readToken 9 = .ok (.iload_n 1, 1) := by decide +kernel
theorem dX5_readToken_10 : decode cX5_readToken 10 = .ok (.baload, 1) := by decide +kernel
theorem dX5_readToken_11 : decode cX5_readToken 11 = .ok (.bipush 59, 2) := by decide +kernel
theorem dX5_readToken_13 : decode cX5_readToken 13 = .ok (.if_icmp .ne 16, 3) := by decide +kernel
theorem dX5_readToken_16 : decode cX5_readToken 16 = .ok (.aload_n 0, 1) := by decide +kernel
theorem dX5_readToken_17 : decode cX5_readToken 17 = .ok (.iload_n 1, 1) := by decide +kernel
theorem dX5_readToken_18 : decode cX5_readToken 18 = .ok (.iconst 1, 1) := by decide +kernel
theorem dX5_readToken_19 : decode cX5_readToken 19 = .ok (.iadd, 1) := by decide +kernel
theorem dX5_readToken_20 : decode cX5_readToken 20 = .ok (.putfield 26, 3) := by decide +kernel
theorem dX5_readToken_23 : decode cX5_readToken 23 = .ok (.aload_n 0, 1) := by decide +kernel
theorem dX5_readToken_24 : decode cX5_readToken 24 = .ok (.iconst 4, 1) := by decide +kernel
theorem dX5_readToken_25 : decode cX5_readToken 25 = .ok (.putfield 40, 3) := by decide +kernel
theorem dX5_readToken_28 : decode cX5_readToken 28 = .ok (.return_, 1) := by decide +kernel
theorem dX5_readToken_29 : decode cX5_readToken 29 = .ok (.iconst 0, 1) := by decide +kernel
theorem dX5_readToken_30 : decode cX5_readToken 30 = .ok (.istore_n 2, 1) := by decide +kernel
theorem dX5_readToken_31 : decode cX5_readToken 31 = .ok (.iconst 0, 1) := by decide +kernel
theorem dX5_readToken_32 : decode cX5_readToken 32 = .ok (.istore_n 3, 1) := by decide +kernel
theorem dX5_readToken_33 : decode cX5_readToken 33 = .ok (.iconst 0, 1) := by decide +kernel
theorem dX5_readToken_34 : decode cX5_readToken 34 = .ok (.istore 4, 2) := by decide +kernel
theorem dX5_readToken_36 : decode cX5_readToken 36 = .ok (.iload_n 1, 1) := by decide +kernel
theorem dX5_readToken_37 : decode cX5_readToken 37 = .ok (.istore 5, 2) := by decide +kernel
theorem dX5_readToken_39 : decode cX5_readToken 39 = .ok (.iload 5, 2) := by decide +kernel
theorem dX5_readToken_41 : decode cX5_readToken 41 = .ok (.aload_n 0, 1) := by decide +kernel
theorem dX5_readToken_42 : decode cX5_readToken 42 = .ok (.getfield 13, 3) := by decide +kernel
theorem dX5_readToken_45 : decode cX5_readToken 45 = .ok (.if_icmp .ge 75, 3) := by decide +kernel
theorem dX5_readToken_48 : decode cX5_readToken 48 = .ok (.aload_n 0, 1) := by decide +kernel
theorem dX5_readToken_49 : decode cX5_readToken 49 = .ok (.getfield 9, 3) := by decide +kernel
theorem dX5_readToken_52 : decode cX5_readToken 52 = .ok (.iload 5, 2) := by decide +kernel
theorem dX5_readToken_54 : decode cX5_readToken 54 = .ok (.baload, 1) := by decide +kernel
theorem dX5_readToken_55 : decode cX5_readToken 55 = .ok (.invokestatic 52, 3) := by decide +kernel
theorem dX5_readToken_58 : decode cX5_readToken 58 = .ok (.ifCond .ne 16, 3) := by decide +kernel
theorem dX5_readToken_61 : decode cX5_readToken 61 = .ok (.aload_n 0, 1) := by decide +kernel
theorem dX5_readToken_62 : decode cX5_readToken 62 = .ok (.getfield 9, 3) := by decide +kernel
theorem dX5_readToken_65 : decode cX5_readToken 65 = .ok (.iload 5, 2) := by decide +kernel
theorem dX5_readToken_67 : decode cX5_readToken 67 = .ok (.baload, 1) := by decide +kernel
theorem dX5_readToken_68 : decode cX5_readToken 68 = .ok (.invokestatic 55, 3) := by decide +kernel
theorem dX5_readToken_71 : decode cX5_readToken 71 = .ok (.ifCond .eq 49, 3) := by decide +kernel
theorem dX5_readToken_74 : decode cX5_readToken 74 = .ok (.aload_n 0, 1) := by decide +kernel
theorem dX5_readToken_75 : decode cX5_readToken 75 = .ok (.getfield 9, 3) := by decide +kernel
theorem dX5_readToken_78 : decode cX5_readToken 78 = .ok (.iload 5, 2) := by decide +kernel
theorem dX5_readToken_80 : decode cX5_readToken 80 = .ok (.baload, 1) := by decide +kernel
theorem dX5_readToken_81 : decode cX5_readToken 81 = .ok (.invokestatic 52, 3) := by decide +kernel
theorem dX5_readToken_84 : decode cX5_readToken 84 = .ok (.ifCond .eq 9, 3) := by decide +kernel
theorem dX5_readToken_87 : decode cX5_readToken 87 = .ok (.iinc 2 1, 3) := by decide +kernel
theorem dX5_readToken_90 : decode cX5_readToken 90 = .ok (.goto 24, 3) := by decide +kernel
theorem dX5_readToken_93 : decode cX5_readToken 93 = .ok (.iinc 3 1, 3) := by decide +kernel
theorem dX5_readToken_96 : decode cX5_readToken 96 = .ok (.iload 4, 2) := by decide +kernel
theorem dX5_readToken_98 : decode cX5_readToken 98 = .ok (.bipush 10, 2) := by decide +kernel
theorem dX5_readToken_100 : decode cX5_readToken 100 = .ok (.imul, 1) := by decide +kernel
theorem dX5_readToken_101 : decode cX5_readToken 101 = .ok (.aload_n 0, 1) := by decide +kernel
theorem dX5_readToken_102 : decode cX5_readToken 102 = .ok (.getfield 9, 3) := by decide +kernel
theorem dX5_readToken_105 : decode cX5_readToken 105 = .ok (.iload 5, 2) := by decide +kernel
theorem dX5_readToken_107 : decode cX5_readToken 107 = .ok (.baload, 1) := by decide +kernel
theorem dX5_readToken_108 : decode cX5_readToken 108 = .ok (.bipush 48, 2) := by decide +kernel
theorem dX5_readToken_110 : decode cX5_readToken 110 = .ok (.isub, 1) := by decide +kernel
theorem dX5_readToken_111 : decode cX5_readToken 111 = .ok (.iadd, 1) := by decide +kernel
theorem dX5_readToken_112 : decode cX5_readToken 112 = .ok (.istore 4, 2) := by decide +kernel
theorem dX5_readToken_114 : decode cX5_readToken 114 = .ok (.iinc 5 1, 3) := by decide +kernel
theorem dX5_readToken_117 : decode cX5_readToken 117 = .ok (.goto (-78), 3) := by decide +kernel
theorem dX5_readToken_120 : decode cX5_readToken 120 = .ok (.aload_n 0, 1) := by decide +kernel
theorem dX5_readToken_121 : decode cX5_readToken 121 = .ok (.iload 5, 2) := by decide +kernel
theorem dX5_readToken_123 : decode cX5_readToken 123 = .ok (.putfield 26, 3) := by decide +kernel
theorem dX5_readToken_126 : decode cX5_readToken 126 = .ok (.aload_n 0, 1) := by decide +kernel
theorem dX5_readToken_127 : decode cX5_readToken 127 = .ok (.iload 4, 2) := by decide +kernel
theorem dX5_readToken_129 : decode cX5_readToken 129 = .ok (.putfield 58, 3) := by decide +kernel
theorem dX5_readToken_132 : decode cX5_readToken 132 = .ok (.aload_n 0, 1) := by decide +kernel
theorem dX5_readToken_133 : decode cX5_readToken 133 = .ok (.iload_n 2, 1) := by decide +kernel
theorem dX5_readToken_134 : decode cX5_readToken 134 = .ok (.iload_n 3, 1) := by decide +kernel
theorem dX5_readToken_135 : decode cX5_readToken 135 = .ok (.invokestatic 61, 3) := by decide +kernel
theorem dX5_readToken_138 : decode cX5_readToken 138 = .ok (.putfield 40, 3) := by decide +kernel
theorem dX5_readToken_141 : decode cX5_readToken 141 = .ok (.return_, 1) := by decide +kernel
theorem dX5_kindOf_0 : decode cX5_kindOf 0 = .ok (.iload_n 0, 1) := by decide +kernel
theorem dX5_kindOf_1 : decode cX5_kindOf 1 = .ok (.ifCond .le 9, 3) := by decide +kernel
theorem dX5_kindOf_4 : decode cX5_kindOf 4 = .ok (.iload_n 1, 1) := by decide +kernel
theorem dX5_kindOf_5 : decode cX5_kindOf 5 = .ok (.ifCond .ne 5, 3) := by decide +kernel
theorem dX5_kindOf_8 : decode cX5_kindOf 8 = .ok (.iconst 2, 1) := by decide +kernel
theorem dX5_kindOf_9 : decode cX5_kindOf 9 = .ok (.ireturn, 1) := by decide +kernel
theorem dX5_kindOf_10 : decode cX5_kindOf 10 = .ok (.iload_n 0, 1) := by decide +kernel
theorem dX5_kindOf_11 : decode cX5_kindOf 11 = .ok (.ifCond .ne 16, 3) := by decide +kernel
theorem dX5_kindOf_14 : decode cX5_kindOf 14 = .ok (.iload_n 1, 1) := by decide +kernel
theorem dX5_kindOf_15 : decode cX5_kindOf 15 = .ok (.ifCond .le 12, 3) := by decide +kernel
theorem dX5_kindOf_18 : decode cX5_kindOf 18 = .ok (.iload_n 1, 1) := by decide +kernel
theorem dX5_kindOf_19 : decode cX5_kindOf 19 = .ok (.iconst 4, 1) := by decide +kernel
theorem dX5_kindOf_20 : decode cX5_kindOf 20 = .ok (.if_icmp .gt 7, 3) := by decide +kernel
theorem dX5_kindOf_23 : decode cX5_kindOf 23 = .ok (.iconst 3, 1) := by decide +kernel
theorem dX5_kindOf_24 : decode cX5_kindOf 24 = .ok (.goto 4, 3) := by decide +kernel
theorem dX5_kindOf_27 : decode cX5_kindOf 27 = .ok (.iconst 0, 1) := by decide +kernel
theorem dX5_kindOf_28 : decode cX5_kindOf 28 = .ok (.ireturn, 1) := by decide +kernel
theorem dX5_isWord_0 : decode cX5_isWord 0 = .ok (.aload_n 0, 1) := by decide +kernel
theorem dX5_isWord_1 : decode cX5_isWord 1 = .ok (.getfield 40, 3) := by decide +kernel
theorem dX5_isWord_4 : decode cX5_isWord 4 = .ok (.iconst 2, 1) := by decide +kernel
theorem dX5_isWord_5 : decode cX5_isWord 5 = .ok (.if_icmp .ne 19, 3) := by decide +kernel
theorem dX5_isWord_8 : decode cX5_isWord 8 = .ok (.aload_n 0, 1) := by decide +kernel
theorem dX5_isWord_9 : decode cX5_isWord 9 = .ok (.getfield 26, 3) := by decide +kernel
theorem dX5_isWord_12 : decode cX5_isWord 12 = .ok (.aload_n 0, 1) := by decide +kernel
theorem dX5_isWord_13 : decode cX5_isWord 13 = .ok (.getfield 49, 3) := by decide +kernel
theorem dX5_isWord_16 : decode cX5_isWord 16 = .ok (.isub, 1) := by decide +kernel
theorem dX5_isWord_17 : decode cX5_isWord 17 = .ok (.aload_n 1, 1) := by decide +kernel
theorem dX5_isWord_18 : decode cX5_isWord 18 = .ok (.invokevirtual 64, 3) := by decide +kernel
theorem dX5_isWord_21 : decode cX5_isWord 21 = .ok (.if_icmp .eq 5, 3) := by decide +kernel
theorem dX5_isWord_24 : decode cX5_isWord 24 = .ok (.iconst 0, 1) := by decide +kernel
theorem dX5_isWord_25 : decode cX5_isWord 25 = .ok (.ireturn, 1) := by decide +kernel
theorem dX5_isWord_26 : decode cX5_isWord 26 = .ok (.iconst 0, 1) := by decide +kernel
theorem dX5_isWord_27 : decode cX5_isWord 27 = .ok (.istore_n 2, 1) := by decide +kernel
theorem dX5_isWord_28 : decode cX5_isWord 28 = .ok (.iload_n 2, 1) := by decide +kernel
theorem dX5_isWord_29 : decode cX5_isWord 29 = .ok (.aload_n 1, 1) := by decide +kernel
theorem dX5_isWord_30 : decode cX5_isWord 30 = .ok (.invokevirtual 64, 3) := by decide +kernel
theorem dX5_isWord_33 : decode cX5_isWord 33 = .ok (.if_icmp .ge 30, 3) := by decide +kernel
theorem dX5_isWord_36 : decode cX5_isWord 36 = .ok (.aload_n 0, 1) := by decide +kernel
theorem dX5_isWord_37 : decode cX5_isWord 37 = .ok (.getfield 9, 3) := by decide +kernel
theorem dX5_isWord_40 : decode cX5_isWord 40 = .ok (.aload_n 0, 1) := by decide +kernel
theorem dX5_isWord_41 : decode cX5_isWord 41 = .ok (.getfield 49, 3) := by decide +kernel
theorem dX5_isWord_44 : decode cX5_isWord 44 = .ok (.iload_n 2, 1) := by decide +kernel
theorem dX5_isWord_45 : decode cX5_isWord 45 = .ok (.iadd, 1) := by decide +kernel
theorem dX5_isWord_46 : decode cX5_isWord 46 = .ok (.baload, 1) := by decide +kernel
theorem dX5_isWord_47 : decode cX5_isWord 47 = .ok (.aload_n 1, 1) := by decide +kernel
theorem dX5_isWord_48 : decode cX5_isWord 48 = .ok (.iload_n 2, 1) := by decide +kernel
theorem dX5_isWord_49 : decode cX5_isWord 49 = .ok (.invokevirtual 70, 3) := by decide +kernel
theorem dX5_isWord_52 : decode cX5_isWord 52 = .ok (.if_icmp .eq 5, 3) := by decide +kernel
theorem dX5_isWord_55 : decode cX5_isWord 55 = .ok (.iconst 0, 1) := by decide +kernel
theorem dX5_isWord_56 : decode cX5_isWord 56 = .ok (.ireturn, 1) := by decide +kernel
theorem dX5_isWord_57 : decode cX5_isWord 57 = .ok (.iinc 2 1, 3) := by decide +kernel
theorem dX5_isWord_60 : decode cX5_isWord 60 = .ok (.goto (-32), 3) := by decide +kernel
theorem dX5_isWord_63 : decode cX5_isWord 63 = .ok (.iconst 1, 1) := by decide +kernel
theorem dX5_isWord_64 : decode cX5_isWord 64 = .ok (.ireturn, 1) := by decide +kernel
theorem dX5_stepToNumber_0 : decode cX5_stepToNumber 0 = .ok (.aload_n 0, 1) := by decide +kernel
theorem dX5_stepToNumber_1 : decode cX5_stepToNumber 1 = .ok (.invokevirtual 29, 3) := by decide +kernel
theorem dX5_stepToNumber_4 : decode cX5_stepToNumber 4 = .ok (.aload_n 0, 1) := by decide +kernel
theorem dX5_stepToNumber_5 : decode cX5_stepToNumber 5 = .ok (.getfield 40, 3) := by decide +kernel
theorem dX5_stepToNumber_8 : decode cX5_stepToNumber 8 = .ok (.iconst 3, 1) := by decide +kernel
theorem dX5_stepToNumber_9 : decode cX5_stepToNumber 9 = .ok (.if_icmp .eq 9, 3) := by decide +kernel
theorem dX5_stepToNumber_12 : decode cX5_stepToNumber 12 = .ok (.aload_n 0, 1) := by decide +kernel
theorem dX5_stepToNumber_13 : decode cX5_stepToNumber 13 = .ok (.iconst 1, 1) := by decide +kernel
theorem dX5_stepToNumber_14 : decode cX5_stepToNumber 14 = .ok (.invokevirtual 74, 3) := by decide +kernel
theorem dX5_stepToNumber_17 : decode cX5_stepToNumber 17 = .ok (.ireturn, 1) := by decide +kernel
theorem dX5_stepToNumber_18 : decode cX5_stepToNumber 18 = .ok (.aload_n 0, 1) := by decide +kernel
theorem dX5_stepToNumber_19 : decode cX5_stepToNumber 19 = .ok (.getfield 58, 3) := by decide +kernel
theorem dX5_stepToNumber_22 : decode cX5_stepToNumber 22 = .ok (.iload_n 1, 1) := by decide +kernel
theorem dX5_stepToNumber_23 : decode cX5_stepToNumber 23 = .ok (.iload_n 2, 1) := by decide +kernel
theorem dX5_stepToNumber_24 : decode cX5_stepToNumber 24 = .ok (.invokestatic 78, 3) := by decide +kernel
theorem dX5_stepToNumber_27 : decode cX5_stepToNumber 27 = .ok (.ifCond .ne 11, 3) := by decide +kernel
theorem dX5_stepToNumber_30 : decode cX5_stepToNumber 30 = .ok (.aload_n 0, 1) := by decide +kernel
theorem dX5_stepToNumber_31 : decode cX5_stepToNumber 31 = .ok (.iconst 2, 1) := by decide +kernel
theorem dX5_stepToNumber_32 : decode cX5_stepToNumber 32 = .ok (.invokevirtual 74, 3) := by decide +kernel
theorem dX5_stepToNumber_35 : decode cX5_stepToNumber 35 = .ok (.ifCond .eq 7, 3) := by decide +kernel
theorem dX5_stepToNumber_38 : decode cX5_stepToNumber 38 = .ok (.iconst 1, 1) := by decide +kernel
theorem dX5_stepToNumber_39 : decode cX5_stepToNumber 39 = .ok (.goto 4, 3) := by decide +kernel
theorem dX5_stepToNumber_42 : decode cX5_stepToNumber 42 = .ok (.iconst 0, 1) := by decide +kernel
theorem dX5_stepToNumber_43 : decode cX5_stepToNumber 43 = .ok (.ireturn, 1) := by decide +kernel
theorem dX5_passSemicolon_0 : decode cX5_passSemicolon 0 = .ok (.aload_n 0, 1) := by decide +kernel
theorem dX5_passSemicolon_1 : decode cX5_passSemicolon 1 = .ok (.getfield 40, 3) := by decide +kernel
theorem dX5_passSemicolon_4 : decode cX5_passSemicolon 4 = .ok (.iconst 4, 1) := by decide +kernel
theorem dX5_passSemicolon_5 : decode cX5_passSemicolon 5 = .ok (.if_icmp .eq 9, 3) := by decide +kernel
theorem dX5_passSemicolon_8 : decode cX5_passSemicolon 8 = .ok (.aload_n 0, 1) := by decide +kernel
theorem dX5_passSemicolon_9 : decode cX5_passSemicolon 9 = .ok (.iconst 1, 1) := by decide +kernel
theorem dX5_passSemicolon_10 : decode cX5_passSemicolon 10 = .ok (.invokevirtual 74, 3) := by decide +kernel
theorem dX5_passSemicolon_13 : decode cX5_passSemicolon 13 = .ok (.ireturn, 1) := by decide +kernel
theorem dX5_passSemicolon_14 : decode cX5_passSemicolon 14 = .ok (.aload_n 0, 1) := by decide +kernel
theorem dX5_passSemicolon_15 : decode cX5_passSemicolon 15 = .ok (.invokevirtual 29, 3) := by decide +kernel
theorem dX5_passSemicolon_18 : decode cX5_passSemicolon 18 = .ok (.iconst 1, 1) := by decide +kernel
theorem dX5_passSemicolon_19 : decode cX5_passSemicolon 19 = .ok (.ireturn, 1) := by decide +kernel
theorem dX5_refuse_0 : decode cX5_refuse 0 = .ok (.aload_n 0, 1) := by decide +kernel
theorem dX5_refuse_1 : decode cX5_refuse 1 = .ok (.iload_n 1, 1) := by decide +kernel
theorem dX5_refuse_2 : decode cX5_refuse 2 = .ok (.putfield 20, 3) := by decide +kernel
theorem dX5_refuse_5 : decode cX5_refuse 5 = .ok (.aload_n 0, 1) := by decide +kernel
theorem dX5_refuse_6 : decode cX5_refuse 6 = .ok (.aload_n 0, 1) := by decide +kernel
theorem dX5_refuse_7 : decode cX5_refuse 7 = .ok (.getfield 49, 3) := by decide +kernel
theorem dX5_refuse_10 : decode cX5_refuse 10 = .ok (.putfield 23, 3) := by decide +kernel
theorem dX5_refuse_13 : decode cX5_refuse 13 = .ok (.iconst 0, 1) := by decide +kernel
theorem dX5_refuse_14 : decode cX5_refuse 14 = .ok (.ireturn, 1) := by decide +kernel
theorem dX5_isBlank_0 : decode cX5_isBlank 0 = .ok (.iload_n 0, 1) := by decide +kernel
theorem dX5_isBlank_1 : decode cX5_isBlank 1 = .ok (.bipush 32, 2) := by decide +kernel
theorem dX5_isBlank_3 : decode cX5_isBlank 3 = .ok (.if_icmp .eq 9, 3) := by decide +kernel
theorem dX5_isBlank_6 : decode cX5_isBlank 6 = .ok (.iload_n 0, 1) := by decide +kernel
theorem dX5_isBlank_7 : decode cX5_isBlank 7 = .ok (.bipush 10, 2) := by decide +kernel
theorem dX5_isBlank_9 : decode cX5_isBlank 9 = .ok (.if_icmp .ne 7, 3) := by decide +kernel
theorem dX5_isBlank_12 : decode cX5_isBlank 12 = .ok (.iconst 1, 1) := by decide +kernel
theorem dX5_isBlank_13 : decode cX5_isBlank 13 = .ok (.goto 4, 3) := by decide +kernel
theorem dX5_isBlank_16 : decode cX5_isBlank 16 = .ok (.iconst 0, 1) := by decide +kernel
theorem dX5_isBlank_17 : decode cX5_isBlank 17 = .ok (.ireturn, 1) := by decide +kernel
theorem dX5_isLetter_0 : decode cX5_isLetter 0 = .ok (.iload_n 0, 1) := by decide +kernel
theorem dX5_isLetter_1 : decode cX5_isLetter 1 = .ok (.bipush 97, 2) := by decide +kernel
theorem dX5_isLetter_3 : decode cX5_isLetter 3 = .ok (.if_icmp .lt 13, 3) := by decide +kernel
theorem dX5_isLetter_6 : decode cX5_isLetter 6 = .ok (.iload_n 0, 1) := by decide +kernel
theorem dX5_isLetter_7 : decode cX5_isLetter 7 = .ok (.bipush 122, 2) := by decide +kernel
theorem dX5_isLetter_9 : decode cX5_isLetter 9 = .ok (.if_icmp .gt 7, 3) := by decide +kernel
theorem dX5_isLetter_12 : decode cX5_isLetter 12 = .ok (.iconst 1, 1) := by decide +kernel
theorem dX5_isLetter_13 : decode cX5_isLetter 13 = .ok (.goto 4, 3) := by decide +kernel
theorem dX5_isLetter_16 : decode cX5_isLetter 16 = .ok (.iconst 0, 1) := by decide +kernel
theorem dX5_isLetter_17 : decode cX5_isLetter 17 = .ok (.ireturn, 1) := by decide +kernel
theorem dX5_isDigit_0 : decode cX5_isDigit 0 = .ok (.iload_n 0, 1) := by decide +kernel
theorem dX5_isDigit_1 : decode cX5_isDigit 1 = .ok (.bipush 48, 2) := by decide +kernel
theorem dX5_isDigit_3 : decode cX5_isDigit 3 = .ok (.if_icmp .lt 13, 3) := by decide +kernel
theorem dX5_isDigit_6 : decode cX5_isDigit 6 = .ok (.iload_n 0, 1) := by decide +kernel
theorem dX5_isDigit_7 : decode cX5_isDigit 7 = .ok (.bipush 57, 2) := by decide +kernel
theorem dX5_isDigit_9 : decode cX5_isDigit 9 = .ok (.if_icmp .gt 7, 3) := by decide +kernel
theorem dX5_isDigit_12 : decode cX5_isDigit 12 = .ok (.iconst 1, 1) := by decide +kernel
theorem dX5_isDigit_13 : decode cX5_isDigit 13 = .ok (.goto 4, 3) := by decide +kernel
theorem dX5_isDigit_16 : decode cX5_isDigit 16 = .ok (.iconst 0, 1) := by decide +kernel
theorem dX5_isDigit_17 : decode cX5_isDigit 17 = .ok (.ireturn, 1) := by decide +kernel
theorem dX6_init_0 : decode cX6_init 0 = .ok (.aload_n 0, 1) := by decide +kernel
theorem dX6_init_1 : decode cX6_init 1 = .ok (.invokespecial 1, 3) := by decide +kernel
theorem dX6_init_4 : decode cX6_init 4 = .ok (.aload_n 0, 1) := by decide +kernel
theorem dX6_init_5 : decode cX6_init 5 = .ok (.new 7, 3) := by decide +kernel
theorem dX6_init_8 : decode cX6_init 8 = .ok (.dup, 1) := by decide +kernel
theorem dX6_init_9 : decode cX6_init 9 = .ok (.invokespecial 9, 3) := by decide +kernel
theorem dX6_init_12 : decode cX6_init 12 = .ok (.putfield 10, 3) := by decide +kernel
theorem dX6_init_15 : decode cX6_init 15 = .ok (.aload_n 0, 1) := by decide +kernel
theorem dX6_init_16 : decode cX6_init 16 = .ok (.new 16, 3) := by decide +kernel
theorem dX6_init_19 : decode cX6_init 19 = .ok (.dup, 1) := by decide +kernel
theorem dX6_init_20 : decode cX6_init 20 = .ok (.invokespecial 18, 3) := by decide +kernel
theorem dX6_init_23 : decode cX6_init 23 = .ok (.putfield 19, 3) := by decide +kernel
theorem dX6_init_26 : decode cX6_init 26 = .ok (.aload_n 0, 1) := by decide +kernel
theorem dX6_init_27 : decode cX6_init 27 = .ok (.bipush 6, 2) := by decide +kernel
theorem dX6_init_29 : decode cX6_init 29 = .ok (.anewarray 23, 3) := by decide +kernel
theorem dX6_init_32 : decode cX6_init 32 = .ok (.putfield 25, 3) := by decide +kernel
theorem dX6_init_35 : decode cX6_init 35 = .ok (.iconst 0, 1) := by decide +kernel
theorem dX6_init_36 : decode cX6_init 36 = .ok (.istore_n 1, 1) := by decide +kernel
theorem dX6_init_37 : decode cX6_init 37 = .ok (.iload_n 1, 1) := by decide +kernel
theorem dX6_init_38 : decode cX6_init 38 = .ok (.bipush 6, 2) := by decide +kernel
theorem dX6_init_40 : decode cX6_init 40 = .ok (.if_icmp .ge 22, 3) := by decide +kernel
theorem dX6_init_43 : decode cX6_init 43 = .ok (.aload_n 0, 1) := by decide +kernel
theorem dX6_init_44 : decode cX6_init 44 = .ok (.getfield 25, 3) := by decide +kernel
theorem dX6_init_47 : decode cX6_init 47 = .ok (.iload_n 1, 1) := by decide +kernel
theorem dX6_init_48 : decode cX6_init 48 = .ok (.new 23, 3) := by decide +kernel
theorem dX6_init_51 : decode cX6_init 51 = .ok (.dup, 1) := by decide +kernel
theorem dX6_init_52 : decode cX6_init 52 = .ok (.invokespecial 29, 3) := by decide +kernel
theorem dX6_init_55 : decode cX6_init 55 = .ok (.aastore, 1) := by decide +kernel
theorem dX6_init_56 : decode cX6_init 56 = .ok (.iinc 1 1, 3) := by decide +kernel
theorem dX6_init_59 : decode cX6_init 59 = .ok (.goto (-22), 3) := by decide +kernel
theorem dX6_init_62 : decode cX6_init 62 = .ok (.aload_n 0, 1) := by decide +kernel
theorem dX6_init_63 : decode cX6_init 63 = .ok (.new 23, 3) := by decide +kernel
theorem dX6_init_66 : decode cX6_init 66 = .ok (.dup, 1) := by decide +kernel
theorem dX6_init_67 : decode cX6_init 67 = .ok (.invokespecial 29, 3) := by decide +kernel
theorem dX6_init_70 : decode cX6_init 70 = .ok (.putfield 30, 3) := by decide +kernel
theorem dX6_init_73 : decode cX6_init 73 = .ok (.aload_n 0, 1) := by decide +kernel
theorem dX6_init_74 : decode cX6_init 74 = .ok (.new 34, 3) := by decide +kernel
theorem dX6_init_77 : decode cX6_init 77 = .ok (.dup, 1) := by decide +kernel
theorem dX6_init_78 : decode cX6_init 78 = .ok (.invokespecial 36, 3) := by decide +kernel
theorem dX6_init_81 : decode cX6_init 81 = .ok (.putfield 37, 3) := by decide +kernel
theorem dX6_init_84 : decode cX6_init 84 = .ok (.aload_n 0, 1) := by decide +kernel
theorem dX6_init_85 : decode cX6_init 85 = .ok (.new 41, 3) := by decide +kernel
theorem dX6_init_88 : decode cX6_init 88 = .ok (.dup, 1) := by decide +kernel
theorem dX6_init_89 : decode cX6_init 89 = .ok (.invokespecial 43, 3) := by decide +kernel
theorem dX6_init_92 : decode cX6_init 92 = .ok (.putfield 44, 3) := by decide +kernel
theorem dX6_init_95 : decode cX6_init 95 = .ok (.aload_n 0, 1) := by decide +kernel
theorem dX6_init_96 : decode cX6_init 96 = .ok (.new 48, 3) := by decide +kernel
theorem dX6_init_99 : decode cX6_init 99 = .ok (.dup, 1) := by decide +kernel
theorem dX6_init_100 : decode cX6_init 100 = .ok (.invokespecial 50, 3) := by decide +kernel
theorem dX6_init_103 : decode cX6_init 103 = .ok (.putfield 51, 3) := by decide +kernel
theorem dX6_init_106 : decode cX6_init 106 = .ok (.return_, 1) := by decide +kernel
theorem dX6_feed_0 : decode cX6_feed 0 = .ok (.aload_n 0, 1) := by decide +kernel
theorem dX6_feed_1 : decode cX6_feed 1 = .ok (.getfield 10, 3) := by decide +kernel
theorem dX6_feed_4 : decode cX6_feed 4 = .ok (.invokevirtual 55, 3) := by decide +kernel
theorem dX6_feed_7 : decode cX6_feed 7 = .ok (.ifCond .ne 5, 3) := by decide +kernel
theorem dX6_feed_10 : decode cX6_feed 10 = .ok (.iconst (-1), 1) := by decide +kernel
theorem dX6_feed_11 : decode cX6_feed 11 = .ok (.ireturn, 1) := by decide +kernel
theorem dX6_feed_12 : decode cX6_feed 12 = .ok (.aload_n 0, 1) := by decide +kernel
theorem dX6_feed_13 : decode cX6_feed 13 = .ok (.getfield 10, 3) := by decide +kernel
theorem dX6_feed_16 : decode cX6_feed 16 = .ok (.iload_n 1, 1) := by decide +kernel
theorem dX6_feed_17 : decode cX6_feed 17 = .ok (.invokevirtual 59, 3) := by decide +kernel
theorem dX6_feed_20 : decode cX6_feed 20 = .ok (.aload_n 0, 1) := by decide +kernel
theorem dX6_feed_21 : decode cX6_feed 21 = .ok (.getfield 10, 3) := by decide +kernel
theorem dX6_feed_24 : decode cX6_feed 24 = .ok (.iload_n 2, 1) := by decide +kernel
theorem dX6_feed_25 : decode cX6_feed 25 = .ok (.invokevirtual 59, 3) := by decide +kernel
theorem dX6_feed_28 : decode cX6_feed 28 = .ok (.aload_n 0, 1) := by decide +kernel
theorem dX6_feed_29 : decode cX6_feed 29 = .ok (.getfield 10, 3) := by decide +kernel
theorem dX6_feed_32 : decode cX6_feed 32 = .ok (.iload_n 3, 1) := by decide +kernel
theorem dX6_feed_33 : decode cX6_feed 33 = .ok (.invokevirtual 59, 3) := by decide +kernel
theorem dX6_feed_36 : decode cX6_feed 36 = .ok (.aload_n 0, 1) := by decide +kernel
theorem dX6_feed_37 : decode cX6_feed 37 = .ok (.getfield 10, 3) := by decide +kernel
theorem dX6_feed_40 : decode cX6_feed 40 = .ok (.iload 4, 2) := by decide +kernel
theorem dX6_feed_42 : decode cX6_feed 42 = .ok (.invokevirtual 59, 3) := by decide +kernel
theorem dX6_feed_45 : decode cX6_feed 45 = .ok (.aload_n 0, 1) := by decide +kernel
theorem dX6_feed_46 : decode cX6_feed 46 = .ok (.getfield 10, 3) := by decide +kernel
theorem dX6_feed_49 : decode cX6_feed 49 = .ok (.iload 5, 2) := by decide +kernel
theorem dX6_feed_51 : decode cX6_feed 51 = .ok (.invokevirtual 59, 3) := by decide +kernel
theorem dX6_feed_54 : decode cX6_feed 54 = .ok (.aload_n 0, 1) := by decide +kernel
theorem dX6_feed_55 : decode cX6_feed 55 = .ok (.getfield 10, 3) := by decide +kernel
theorem dX6_feed_58 : decode cX6_feed 58 = .ok (.getfield 63, 3) := by decide +kernel
theorem dX6_feed_61 : decode cX6_feed 61 = .ok (.ireturn, 1) := by decide +kernel
theorem dX6_end_0 : decode cX6_end 0 = .ok (.iload_n 1, 1) := by decide +kernel
theorem dX6_end_1 : decode cX6_end 1 = .ok (.ifCond .lt 14, 3) := by decide +kernel
theorem dX6_end_4 : decode cX6_end 4 = .ok (.iload_n 1, 1) := by decide +kernel
theorem dX6_end_5 : decode cX6_end 5 = .ok (.aload_n 0, 1) := by decide +kernel
theorem dX6_end_6 : decode cX6_end 6 = .ok (.getfield 10, 3) := by decide +kernel
theorem dX6_end_9 : decode cX6_end 9 = .ok (.getfield 63, 3) := by decide +kernel
theorem dX6_end_12 : decode cX6_end 12 = .ok (.if_icmp .le 5, 3) := by decide +kernel
theorem dX6_end_15 : decode cX6_end 15 = .ok (.iconst 0, 1) := by decide +kernel
theorem dX6_end_16 : decode cX6_end 16 = .ok (.ireturn, 1) := by decide +kernel
theorem dX6_end_17 : decode cX6_end 17 = .ok (.aload_n 0, 1) := by decide +kernel
theorem dX6_end_18 : decode cX6_end 18 = .ok (.getfield 10, 3) := by decide +kernel
theorem dX6_end_21 : decode cX6_end 21 = .ok (.iload_n 1, 1) := by decide +kernel
theorem dX6_end_22 : decode cX6_end 22 = .ok (.putfield 63, 3) := by decide +kernel
theorem dX6_end_25 : decode cX6_end 25 = .ok (.iconst 1, 1) := by decide +kernel
theorem dX6_end_26 : decode cX6_end 26 = .ok (.ireturn, 1) := by decide +kernel
theorem dX6_rules_0 : decode cX6_rules 0 = .ok (.aload_n 0, 1) := by decide +kernel
theorem dX6_rules_1 : decode cX6_rules 1 = .ok (.getfield 19, 3) := by decide +kernel
theorem dX6_rules_4 : decode cX6_rules 4 = .ok (.aload_n 0, 1) := by decide +kernel
theorem dX6_rules_5 : decode cX6_rules 5 = .ok (.getfield 10, 3) := by decide +kernel
theorem dX6_rules_8 : decode cX6_rules 8 = .ok (.invokevirtual 67, 3) := by decide +kernel
theorem dX6_rules_11 : decode cX6_rules 11 = .ok (.istore_n 1, 1) := by decide +kernel
theorem dX6_rules_12 : decode cX6_rules 12 = .ok (.aload_n 0, 1) := by decide +kernel
theorem dX6_rules_13 : decode cX6_rules 13 = .ok (.getfield 10, 3) := by decide +kernel
theorem dX6_rules_16 : decode cX6_rules 16 = .ok (.iconst 0, 1) := by decide +kernel
theorem dX6_rules_17 : decode cX6_rules 17 = .ok (.putfield 63, 3) := by decide +kernel
theorem dX6_rules_20 : decode cX6_rules 20 = .ok (.iload_n 1, 1) := by decide +kernel
theorem dX6_rules_21 : decode cX6_rules 21 = .ok (.ifCond .eq 13, 3) := by decide +kernel
theorem dX6_rules_24 : decode cX6_rules 24 = .ok (.aload_n 0, 1) := by decide +kernel
theorem dX6_rules_25 : decode cX6_rules 25 = .ok (.getfield 19, 3) := by decide +kernel
theorem dX6_rules_28 : decode cX6_rules 28 = .ok (.getfield 71, 3) := by decide +kernel
theorem dX6_rules_31 : decode cX6_rules 31 = .ok (.goto 12, 3) := by decide +kernel
theorem dX6_rules_34 : decode cX6_rules 34 = .ok (.iconst (-1), 1) := by decide +kernel
theorem dX6_rules_35 : decode cX6_rules 35 = .ok (.aload_n 0, 1) := by decide +kernel
theorem dX6_rules_36 : decode cX6_rules 36 = .ok (.getfield 10, 3) := by decide +kernel
theorem dX6_rules_39 : decode cX6_rules 39 = .ok (.getfield 74, 3) := by decide +kernel
theorem dX6_rules_42 : decode cX6_rules 42 = .ok (.isub, 1) := by decide +kernel
theorem dX6_rules_43 : decode cX6_rules 43 = .ok (.ireturn, 1) := by decide +kernel
theorem dX6_clock_0 : decode cX6_clock 0 = .ok (.iload_n 1, 1) := by decide +kernel
theorem dX6_clock_1 : decode cX6_clock 1 = .ok (.invokestatic 77, 3) := by decide +kernel
theorem dX6_clock_4 : decode cX6_clock 4 = .ok (.ifCond .ne 13, 3) := by decide +kernel
theorem dX6_clock_7 : decode cX6_clock 7 = .ok (.new 81, 3) := by decide +kernel
theorem dX6_clock_10 : decode cX6_clock 10 = .ok (.dup, 1) := by decide +kernel
theorem dX6_clock_11 : decode cX6_clock 11 = .ok (.ldc 83, 2) := by decide +kernel
theorem dX6_clock_13 : decode cX6_clock 13 = .ok (.invokespecial 85, 3) := by decide +kernel
theorem dX6_clock_16 : decode cX6_clock 16 = .ok (.athrow, 1) := by decide +kernel
theorem dX6_clock_17 : decode cX6_clock 17 = .ok (.aload_n 0, 1) := by decide +kernel
theorem dX6_clock_18 : decode cX6_clock 18 = .ok (.getfield 30, 3) := by decide +kernel
theorem dX6_clock_21 : decode cX6_clock 21 = .ok (.aload_n 0, 1) := by decide +kernel
theorem dX6_clock_22 : decode cX6_clock 22 = .ok (.getfield 10, 3) := by decide +kernel
theorem dX6_clock_25 : decode cX6_clock 25 = .ok (.invokevirtual 88, 3) := by decide +kernel
theorem dX6_clock_28 : decode cX6_clock 28 = .ok (.istore_n 2, 1) := by decide +kernel
theorem dX6_clock_29 : decode cX6_clock 29 = .ok (.aload_n 0, 1) := by decide +kernel
theorem dX6_clock_30 : decode cX6_clock 30 = .ok (.getfield 10, 3) := by decide +kernel
theorem dX6_clock_33 : decode cX6_clock 33 = .ok (.iconst 0, 1) := by decide +kernel
theorem dX6_clock_34 : decode cX6_clock 34 = .ok (.putfield 63, 3) := by decide +kernel
theorem dX6_clock_37 : decode cX6_clock 37 = .ok (.iload_n 2, 1) := by decide +kernel
theorem dX6_clock_38 : decode cX6_clock 38 = .ok (.ifCond .ne 13, 3) := by decide +kernel
theorem dX6_clock_41 : decode cX6_clock 41 = .ok (.iconst (-1), 1) := by decide +kernel
theorem dX6_clock_42 : decode cX6_clock 42 = .ok (.aload_n 0, 1) := by decide +kernel
theorem dX6_clock_43 : decode cX6_clock 43 = .ok (.getfield 10, 3) := by decide +kernel
theorem dX6_clock_46 : decode cX6_clock 46 = .ok (.getfield 74, 3) := by decide +kernel
theorem dX6_clock_49 : decode cX6_clock 49 = .ok (.isub, 1) := by decide +kernel
theorem dX6_clock_50 : decode cX6_clock 50 = .ok (.ireturn, 1) := by decide +kernel
theorem dX6_clock_51 : decode cX6_clock 51 = .ok (.aload_n 0, 1) := by decide +kernel
theorem dX6_clock_52 : decode cX6_clock 52 = .ok (.getfield 25, 3) := by decide +kernel
theorem dX6_clock_55 : decode cX6_clock 55 = .ok (.iload_n 1, 1) := by decide +kernel
theorem dX6_clock_56 : decode cX6_clock 56 = .ok (.aaload, 1) := by decide +kernel
theorem dX6_clock_57 : decode cX6_clock 57 = .ok (.aload_n 0, 1) := by decide +kernel
theorem dX6_clock_58 : decode cX6_clock 58 = .ok (.getfield 30, 3) := by decide +kernel
theorem dX6_clock_61 : decode cX6_clock 61 = .ok (.invokevirtual 89, 3) := by decide +kernel
theorem dX6_clock_64 : decode cX6_clock 64 = .ok (.aload_n 0, 1) := by decide +kernel
theorem dX6_clock_65 : decode cX6_clock 65 = .ok (.getfield 30, 3) := by decide +kernel
theorem dX6_clock_68 : decode cX6_clock 68 = .ok (.getfield 93, 3) := by decide +kernel
theorem dX6_clock_71 : decode cX6_clock 71 = .ok (.ireturn, 1) := by decide +kernel
theorem dX6_fault_0 : decode cX6_fault 0 = .ok (.aload_n 0, 1) := by decide +kernel
theorem dX6_fault_1 : decode cX6_fault 1 = .ok (.getfield 10, 3) := by decide +kernel
theorem dX6_fault_4 : decode cX6_fault 4 = .ok (.getfield 94, 3) := by decide +kernel
theorem dX6_fault_7 : decode cX6_fault 7 = .ok (.ireturn, 1) := by decide +kernel
theorem dX6_rule_0 : decode cX6_rule 0 = .ok (.iload_n 1, 1) := by decide +kernel
theorem dX6_rule_1 : decode cX6_rule 1 = .ok (.ifCond .lt 20, 3) := by decide +kernel
theorem dX6_rule_4 : decode cX6_rule 4 = .ok (.iload_n 1, 1) := by decide +kernel
theorem dX6_rule_5 : decode cX6_rule 5 = .ok (.iconst 5, 1) := by decide +kernel
theorem dX6_rule_6 : decode cX6_rule 6 = .ok (.if_icmp .ge 15, 3) := by decide +kernel
theorem dX6_rule_9 : decode cX6_rule 9 = .ok (.aload_n 0, 1) := by decide +kernel
theorem dX6_rule_10 : decode cX6_rule 10 = .ok (.getfield 19, 3) := by decide +kernel
theorem dX6_rule_13 : decode cX6_rule 13 = .ok (.getfield 97, 3) := by decide +kernel
theorem dX6_rule_16 : decode cX6_rule 16 = .ok (.iload_n 1, 1) := by decide +kernel
theorem dX6_rule_17 : decode cX6_rule 17 = .ok (.iaload, 1) := by decide +kernel
theorem dX6_rule_18 : decode cX6_rule 18 = .ok (.goto 4, 3) := by decide +kernel
theorem dX6_rule_21 : decode cX6_rule 21 = .ok (.iconst (-1), 1) := by decide +kernel
theorem dX6_rule_22 : decode cX6_rule 22 = .ok (.ireturn, 1) := by decide +kernel
theorem dX6_song_0 : decode cX6_song 0 = .ok (.iload_n 1, 1) := by decide +kernel
theorem dX6_song_1 : decode cX6_song 1 = .ok (.bipush 30, 2) := by decide +kernel
theorem dX6_song_3 : decode cX6_song 3 = .ok (.sipush 900, 3) := by decide +kernel
theorem dX6_song_6 : decode cX6_song 6 = .ok (.invokestatic 101, 3) := by decide +kernel
theorem dX6_song_9 : decode cX6_song 9 = .ok (.ifCond .eq 37, 3) := by decide +kernel
theorem dX6_song_12 : decode cX6_song 12 = .ok (.iload_n 2, 1) := by decide +kernel
theorem dX6_song_13 : decode cX6_song 13 = .ok (.iconst 0, 1) := by decide +kernel
theorem dX6_song_14 : decode cX6_song 14 = .ok (.bipush 11, 2) := by decide +kernel
theorem dX6_song_16 : decode cX6_song 16 = .ok (.invokestatic 101, 3) := by decide +kernel
theorem dX6_song_19 : decode cX6_song 19 = .ok (.ifCond .eq 27, 3) := by decide +kernel
theorem dX6_song_22 : decode cX6_song 22 = .ok (.iload_n 3, 1) := by decide +kernel
theorem dX6_song_23 : decode cX6_song 23 = .ok (.iconst 0, 1) := by decide +kernel
theorem dX6_song_24 : decode cX6_song 24 = .ok (.bipush 11, 2) := by decide +kernel
theorem dX6_song_26 : decode cX6_song 26 = .ok (.invokestatic 101, 3) := by decide +kernel
theorem dX6_song_29 : decode cX6_song 29 = .ok (.ifCond .eq 17, 3) := by decide +kernel
theorem dX6_song_32 : decode cX6_song 32 = .ok (.iload 4, 2) := by decide +kernel
theorem dX6_song_34 : decode cX6_song 34 = .ok (.iconst 0, 1) := by decide +kernel
theorem dX6_song_35 : decode cX6_song 35 = .ok (.iconst 3, 1) := by decide +kernel
theorem dX6_song_36 : decode cX6_song 36 = .ok (.invokestatic 101, 3) := by decide +kernel
theorem dX6_song_39 : decode cX6_song 39 = .ok (.ifCond .eq 7, 3) := by decide +kernel
theorem dX6_song_42 : decode cX6_song 42 = .ok (.iconst 1, 1) := by decide +kernel
theorem dX6_song_43 : decode cX6_song 43 = .ok (.goto 4, 3) := by decide +kernel
theorem dX6_song_46 : decode cX6_song 46 = .ok (.iconst 0, 1) := by decide +kernel
theorem dX6_song_47 : decode cX6_song 47 = .ok (.istore 6, 2) := by decide +kernel
theorem dX6_song_49 : decode cX6_song 49 = .ok (.iload 6, 2) := by decide +kernel
theorem dX6_song_51 : decode cX6_song 51 = .ok (.ifCond .eq 15, 3) := by decide +kernel
theorem dX6_song_54 : decode cX6_song 54 = .ok (.aload_n 0, 1) := by decide +kernel
theorem dX6_song_55 : decode cX6_song 55 = .ok (.getfield 37, 3) := by decide +kernel
theorem dX6_song_58 : decode cX6_song 58 = .ok (.getfield 105, 3) := by decide +kernel
theorem dX6_song_61 : decode cX6_song 61 = .ok (.bipush 24, 2) := by decide +kernel
theorem dX6_song_63 : decode cX6_song 63 = .ok (.if_icmp .lt 5, 3) := by decide +kernel
theorem dX6_song_66 : decode cX6_song 66 = .ok (.iconst (-1), 1) := by decide +kernel
theorem dX6_song_67 : decode cX6_song 67 = .ok (.ireturn, 1) := by decide +kernel
theorem dX6_song_68 : decode cX6_song 68 = .ok (.aload_n 0, 1) := by decide +kernel
theorem dX6_song_69 : decode cX6_song 69 = .ok (.getfield 37, 3) := by decide +kernel
theorem dX6_song_72 : decode cX6_song 72 = .ok (.iload_n 1, 1) := by decide +kernel
theorem dX6_song_73 : decode cX6_song 73 = .ok (.iload_n 2, 1) := by decide +kernel
theorem dX6_song_74 : decode cX6_song 74 = .ok (.iload_n 3, 1) := by decide +kernel
theorem dX6_song_75 : decode cX6_song 75 = .ok (.iload 4, 2) := by decide +kernel
theorem dX6_song_77 : decode cX6_song 77 = .ok (.iload 5, 2) := by decide +kernel
theorem dX6_song_79 : decode cX6_song 79 = .ok (.ifCond .eq 7, 3) := by decide +kernel
theorem dX6_song_82 : decode cX6_song 82 = .ok (.iconst 1, 1) := by decide +kernel
theorem dX6_song_83 : decode cX6_song 83 = .ok (.goto 4, 3) := by decide +kernel
theorem dX6_song_86 : decode cX6_song 86 = .ok (.iconst 0, 1) := by decide +kernel
theorem dX6_song_87 : decode cX6_song 87 = .ok (.invokevirtual 106, 3) := by decide +kernel
theorem dX6_song_90 : decode cX6_song 90 = .ok (.ireturn, 1) := by decide +kernel
theorem dX6_vote_0 : decode cX6_vote 0 = .ok (.aload_n 0, 1) := by decide +kernel
theorem dX6_vote_1 : decode cX6_vote 1 = .ok (.getfield 37, 3) := by decide +kernel
theorem dX6_vote_4 : decode cX6_vote 4 = .ok (.iload_n 1, 1) := by decide +kernel
theorem dX6_vote_5 : decode cX6_vote 5 = .ok (.invokevirtual 110, 3) := by decide +kernel
theorem dX6_vote_8 : decode cX6_vote 8 = .ok (.ifCond .eq 13, 3) := by decide +kernel
theorem dX6_vote_11 : decode cX6_vote 11 = .ok (.iload_n 2, 1) := by decide +kernel
theorem dX6_vote_12 : decode cX6_vote 12 = .ok (.iconst 0, 1) := by decide +kernel
theorem dX6_vote_13 : decode cX6_vote 13 = .ok (.bipush 9, 2) := by decide +kernel
theorem dX6_vote_15 : decode cX6_vote 15 = .ok (.invokestatic 101, 3) := by decide +kernel
theorem dX6_vote_18 : decode cX6_vote 18 = .ok (.ifCond .ne 5, 3) := by decide +kernel
theorem dX6_vote_21 : decode cX6_vote 21 = .ok (.iconst (-1), 1) := by decide +kernel
theorem dX6_vote_22 : decode cX6_vote 22 = .ok (.ireturn, 1) := by decide +kernel
theorem dX6_vote_23 : decode cX6_vote 23 = .ok (.aload_n 0, 1) := by decide +kernel
theorem dX6_vote_24 : decode cX6_vote 24 = .ok (.getfield 37, 3) := by decide +kernel
theorem dX6_vote_27 : decode cX6_vote 27 = .ok (.iload_n 1, 1) := by decide +kernel
theorem dX6_vote_28 : decode cX6_vote 28 = .ok (.iload_n 2, 1) := by decide +kernel
theorem dX6_vote_29 : decode cX6_vote 29 = .ok (.invokevirtual 113, 3) := by decide +kernel
theorem dX6_vote_32 : decode cX6_vote 32 = .ok (.aload_n 0, 1) := by decide +kernel
theorem dX6_vote_33 : decode cX6_vote 33 = .ok (.getfield 37, 3) := by decide +kernel
theorem dX6_vote_36 : decode cX6_vote 36 = .ok (.iload_n 1, 1) := by decide +kernel
theorem dX6_vote_37 : decode cX6_vote 37 = .ok (.invokevirtual 117, 3) := by decide +kernel
theorem dX6_vote_40 : decode cX6_vote 40 = .ok (.ireturn, 1) := by decide +kernel
theorem dX6_ask_0 : decode cX6_ask 0 = .ok (.aload_n 0, 1) := by decide +kernel
theorem dX6_ask_1 : decode cX6_ask 1 = .ok (.getfield 37, 3) := by decide +kernel
theorem dX6_ask_4 : decode cX6_ask 4 = .ok (.iload_n 1, 1) := by decide +kernel
theorem dX6_ask_5 : decode cX6_ask 5 = .ok (.invokevirtual 110, 3) := by decide +kernel
theorem dX6_ask_8 : decode cX6_ask 8 = .ok (.ifCond .eq 17, 3) := by decide +kernel
theorem dX6_ask_11 : decode cX6_ask 11 = .ok (.aload_n 0, 1) := by decide +kernel
theorem dX6_ask_12 : decode cX6_ask 12 = .ok (.getfield 37, 3) := by decide +kernel
theorem dX6_ask_15 : decode cX6_ask 15 = .ok (.getfield 121, 3) := by decide +kernel
theorem dX6_ask_18 : decode cX6_ask 18 = .ok (.iload_n 1, 1) := by decide +kernel
theorem dX6_ask_19 : decode cX6_ask 19 = .ok (.iaload, 1) := by decide +kernel
theorem dX6_ask_20 : decode cX6_ask 20 = .ok (.bipush 20, 2) := by decide +kernel
theorem dX6_ask_22 : decode cX6_ask 22 = .ok (.if_icmp .lt 5, 3) := by decide +kernel
theorem dX6_ask_25 : decode cX6_ask 25 = .ok (.iconst (-1), 1) := by decide +kernel
theorem dX6_ask_26 : decode cX6_ask 26 = .ok (.ireturn, 1) := by decide +kernel
theorem dX6_ask_27 : decode cX6_ask 27 = .ok (.aload_n 0, 1) := by decide +kernel
theorem dX6_ask_28 : decode cX6_ask 28 = .ok (.getfield 37, 3) := by decide +kernel
theorem dX6_ask_31 : decode cX6_ask 31 = .ok (.getfield 121, 3) := by decide +kernel
theorem dX6_ask_34 : decode cX6_ask 34 = .ok (.iload_n 1, 1) := by decide +kernel
theorem dX6_ask_35 : decode cX6_ask 35 = .ok (.dup2, 1) := by decide +kernel
theorem dX6_ask_36 : decode cX6_ask 36 = .ok (.iaload, 1) := by decide +kernel
theorem dX6_ask_37 : decode cX6_ask 37 = .ok (.iconst 1, 1) := by decide +kernel
theorem dX6_ask_38 : decode cX6_ask 38 = .ok (.iadd, 1) := by decide +kernel
theorem dX6_ask_39 : decode cX6_ask 39 = .ok (.iastore, 1) := by decide +kernel
theorem dX6_ask_40 : decode cX6_ask 40 = .ok (.aload_n 0, 1) := by decide +kernel
theorem dX6_ask_41 : decode cX6_ask 41 = .ok (.getfield 37, 3) := by decide +kernel
theorem dX6_ask_44 : decode cX6_ask 44 = .ok (.getfield 121, 3) := by decide +kernel
theorem dX6_ask_47 : decode cX6_ask 47 = .ok (.iload_n 1, 1) := by decide +kernel
theorem dX6_ask_48 : decode cX6_ask 48 = .ok (.iaload, 1) := by decide +kernel
theorem dX6_ask_49 : decode cX6_ask 49 = .ok (.ireturn, 1) := by decide +kernel
theorem dX6_lay_0 : decode cX6_lay 0 = .ok (.iload_n 1, 1) := by decide +kernel
theorem dX6_lay_1 : decode cX6_lay 1 = .ok (.invokestatic 77, 3) := by decide +kernel
theorem dX6_lay_4 : decode cX6_lay 4 = .ok (.ifCond .ne 13, 3) := by decide +kernel
theorem dX6_lay_7 : decode cX6_lay 7 = .ok (.new 81, 3) := by decide +kernel
theorem dX6_lay_10 : decode cX6_lay 10 = .ok (.dup, 1) := by decide +kernel
theorem dX6_lay_11 : decode cX6_lay 11 = .ok (.ldc 83, 2) := by decide +kernel
theorem dX6_lay_13 : decode cX6_lay 13 = .ok (.invokespecial 85, 3) := by decide +kernel
theorem dX6_lay_16 : decode cX6_lay 16 = .ok (.athrow, 1) := by decide +kernel
theorem dX6_lay_17 : decode cX6_lay 17 = .ok (.aload_n 0, 1) := by decide +kernel
theorem dX6_lay_18 : decode cX6_lay 18 = .ok (.getfield 25, 3) := by decide +kernel
theorem dX6_lay_21 : decode cX6_lay 21 = .ok (.iload_n 1, 1) := by decide +kernel
theorem dX6_lay_22 : decode cX6_lay 22 = .ok (.aaload, 1) := by decide +kernel
theorem dX6_lay_23 : decode cX6_lay 23 = .ok (.astore_n 2, 1) := by decide +kernel
theorem dX6_lay_24 : decode cX6_lay 24 = .ok (.aload_n 2, 1) := by decide +kernel
theorem dX6_lay_25 : decode cX6_lay 25 = .ok (.getfield 93, 3) := by decide +kernel
theorem dX6_lay_28 : decode cX6_lay 28 = .ok (.ifCond .eq 17, 3) := by decide +kernel
theorem dX6_lay_31 : decode cX6_lay 31 = .ok (.aload_n 0, 1) := by decide +kernel
theorem dX6_lay_32 : decode cX6_lay 32 = .ok (.getfield 44, 3) := by decide +kernel
theorem dX6_lay_35 : decode cX6_lay 35 = .ok (.aload_n 2, 1) := by decide +kernel
theorem dX6_lay_36 : decode cX6_lay 36 = .ok (.getfield 124, 3) := by decide +kernel
theorem dX6_lay_39 : decode cX6_lay 39 = .ok (.invokevirtual 127, 3) := by decide +kernel
theorem dX6_lay_42 : decode cX6_lay 42 = .ok (.ifCond .ne 5, 3) := by decide +kernel
theorem dX6_lay_45 : decode cX6_lay 45 = .ok (.iconst (-1), 1) := by decide +kernel
theorem dX6_lay_46 : decode cX6_lay 46 = .ok (.ireturn, 1) := by decide +kernel
theorem dX6_lay_47 : decode cX6_lay 47 = .ok (.aload_n 0, 1) := by decide +kernel
theorem dX6_lay_48 : decode cX6_lay 48 = .ok (.getfield 51, 3) := by decide +kernel
theorem dX6_lay_51 : decode cX6_lay 51 = .ok (.aload_n 0, 1) := by decide +kernel
theorem dX6_lay_52 : decode cX6_lay 52 = .ok (.getfield 37, 3) := by decide +kernel
theorem dX6_lay_55 : decode cX6_lay 55 = .ok (.aload_n 0, 1) := by decide +kernel
theorem dX6_lay_56 : decode cX6_lay 56 = .ok (.getfield 19, 3) := by decide +kernel
theorem dX6_lay_59 : decode cX6_lay 59 = .ok (.invokevirtual 130, 3) := by decide +kernel
theorem dX6_lay_62 : decode cX6_lay 62 = .ok (.iconst 0, 1) := by decide +kernel
theorem dX6_lay_63 : decode cX6_lay 63 = .ok (.istore_n 3, 1) := by decide +kernel
theorem dX6_lay_64 : decode cX6_lay 64 = .ok (.aload_n 0, 1) := by decide +kernel
theorem dX6_lay_65 : decode cX6_lay 65 = .ok (.getfield 44, 3) := by decide +kernel
theorem dX6_lay_68 : decode cX6_lay 68 = .ok (.getfield 134, 3) := by decide +kernel
theorem dX6_lay_71 : decode cX6_lay 71 = .ok (.sipush 3600, 3) := by decide +kernel
theorem dX6_lay_74 : decode cX6_lay 74 = .ok (.imul, 1) := by decide +kernel
theorem dX6_lay_75 : decode cX6_lay 75 = .ok (.istore 4, 2) := by decide +kernel
theorem dX6_lay_77 : decode cX6_lay 77 = .ok (.iconst 0, 1) := by decide +kernel
theorem dX6_lay_78 : decode cX6_lay 78 = .ok (.istore 5, 2) := by decide +kernel
theorem dX6_lay_80 : decode cX6_lay 80 = .ok (.iload 5, 2) := by decide +kernel
theorem dX6_lay_82 : decode cX6_lay 82 = .ok (.aload_n 2, 1) := by decide +kernel
theorem dX6_lay_83 : decode cX6_lay 83 = .ok (.getfield 93, 3) := by decide +kernel
theorem dX6_lay_86 : decode cX6_lay 86 = .ok (.if_icmp .ge 45, 3) := by decide +kernel
theorem dX6_lay_89 : decode cX6_lay 89 = .ok (.aload_n 2, 1) := by decide +kernel
theorem dX6_lay_90 : decode cX6_lay 90 = .ok (.iload 5, 2) := by decide +kernel
theorem dX6_lay_92 : decode cX6_lay 92 = .ok (.invokevirtual 137, 3) := by decide +kernel
theorem dX6_lay_95 : decode cX6_lay 95 = .ok (.ifCond .eq 18, 3) := by decide +kernel
theorem dX6_lay_98 : decode cX6_lay 98 = .ok (.aload_n 0, 1) := by decide +kernel
theorem dX6_lay_99 : decode cX6_lay 99 = .ok (.aload_n 2, 1) := by decide +kernel
theorem dX6_lay_100 : decode cX6_lay 100 = .ok (.iload 5, 2) := by decide +kernel
theorem dX6_lay_102 : decode cX6_lay 102 = .ok (.iload 4, 2) := by decide +kernel
theorem dX6_lay_104 : decode cX6_lay 104 = .ok (.invokevirtual 140, 3) := by decide +kernel
theorem dX6_lay_107 : decode cX6_lay 107 = .ok (.ifCond .eq 6, 3) := by decide +kernel
theorem dX6_lay_110 : decode cX6_lay 110 = .ok (.iinc 3 1, 3) := by decide +kernel
theorem dX6_lay_113 : decode cX6_lay 113 = .ok (.iload 4, 2) := by decide +kernel
theorem dX6_lay_115 : decode cX6_lay 115 = .ok (.aload_n 2, 1) := by decide +kernel
theorem dX6_lay_116 : decode cX6_lay 116 = .ok (.getfield 144, 3) := by decide +kernel
theorem dX6_lay_119 : decode cX6_lay 119 = .ok (.iload 5, 2) := by decide +kernel
theorem dX6_lay_121 : decode cX6_lay 121 = .ok (.iaload, 1) := by decide +kernel
theorem dX6_lay_122 : decode cX6_lay 122 = .ok (.iadd, 1) := by decide +kernel
theorem dX6_lay_123 : decode cX6_lay 123 = .ok (.istore 4, 2) := by decide +kernel
theorem dX6_lay_125 : decode cX6_lay 125 = .ok (.iinc 5 1, 3) := by decide +kernel
theorem dX6_lay_128 : decode cX6_lay 128 = .ok (.goto (-48), 3) := by decide +kernel
theorem dX6_lay_131 : decode cX6_lay 131 = .ok (.aload_n 0, 1) := by decide +kernel
theorem dX6_lay_132 : decode cX6_lay 132 = .ok (.getfield 44, 3) := by decide +kernel
theorem dX6_lay_135 : decode cX6_lay 135 = .ok (.aload_n 2, 1) := by decide +kernel
theorem dX6_lay_136 : decode cX6_lay 136 = .ok (.getfield 93, 3) := by decide +kernel
theorem dX6_lay_139 : decode cX6_lay 139 = .ok (.invokevirtual 147, 3) := by decide +kernel
theorem dX6_lay_142 : decode cX6_lay 142 = .ok (.iload_n 3, 1) := by decide +kernel
theorem dX6_lay_143 : decode cX6_lay 143 = .ok (.ireturn, 1) := by decide +kernel
theorem dX6_told_0 : decode cX6_told 0 = .ok (.aload_n 0, 1) := by decide +kernel
theorem dX6_told_1 : decode cX6_told 1 = .ok (.getfield 37, 3) := by decide +kernel
theorem dX6_told_4 : decode cX6_told 4 = .ok (.iload_n 1, 1) := by decide +kernel
theorem dX6_told_5 : decode cX6_told 5 = .ok (.invokevirtual 110, 3) := by decide +kernel
theorem dX6_told_8 : decode cX6_told 8 = .ok (.ifCond .ne 6, 3) := by decide +kernel
theorem dX6_told_11 : decode cX6_told 11 = .ok (.bipush (-2), 2) := by decide +kernel
theorem dX6_told_13 : decode cX6_told 13 = .ok (.ireturn, 1) := by decide +kernel
theorem dX6_told_14 : decode cX6_told 14 = .ok (.iload_n 2, 1) := by decide +kernel
theorem dX6_told_15 : decode cX6_told 15 = .ok (.tableswitch 82 0 4 #[33, 42, 52, 62, 72], 33) := by decide +kernel
theorem dX6_told_48 : decode cX6_told 48 = .ok (.aload_n 0, 1) := by decide +kernel
theorem dX6_told_49 : decode cX6_told 49 = .ok (.getfield 37, 3) := by decide +kernel
theorem dX6_told_52 : decode cX6_told 52 = .ok (.iload_n 1, 1) := by decide +kernel
theorem dX6_told_53 : decode cX6_told 53 = .ok (.invokevirtual 117, 3) := by decide +kernel
theorem dX6_told_56 : decode cX6_told 56 = .ok (.ireturn, 1) := by decide +kernel
theorem dX6_told_57 : decode cX6_told 57 = .ok (.aload_n 0, 1) := by decide +kernel
theorem dX6_told_58 : decode cX6_told 58 = .ok (.getfield 37, 3) := by decide +kernel
theorem dX6_told_61 : decode cX6_told 61 = .ok (.getfield 150, 3) := by decide +kernel
theorem dX6_told_64 : decode cX6_told 64 = .ok (.iload_n 1, 1) := by decide +kernel
theorem dX6_told_65 : decode cX6_told 65 = .ok (.iaload, 1) := by decide +kernel
theorem dX6_told_66 : decode cX6_told 66 = .ok (.ireturn, 1) := by decide +kernel
theorem dX6_told_67 : decode cX6_told 67 = .ok (.aload_n 0, 1) := by decide +kernel
theorem dX6_told_68 : decode cX6_told 68 = .ok (.getfield 37, 3) := by decide +kernel
theorem dX6_told_71 : decode cX6_told 71 = .ok (.getfield 153, 3) := by decide +kernel
theorem dX6_told_74 : decode cX6_told 74 = .ok (.iload_n 1, 1) := by decide +kernel
theorem dX6_told_75 : decode cX6_told 75 = .ok (.iaload, 1) := by decide +kernel
theorem dX6_told_76 : decode cX6_told 76 = .ok (.ireturn, 1) := by decide +kernel
theorem dX6_told_77 : decode cX6_told 77 = .ok (.aload_n 0, 1) := by decide +kernel
theorem dX6_told_78 : decode cX6_told 78 = .ok (.getfield 37, 3) := by decide +kernel
theorem dX6_told_81 : decode cX6_told 81 = .ok (.getfield 121, 3) := by decide +kernel
theorem dX6_told_84 : decode cX6_told 84 = .ok (.iload_n 1, 1) := by decide +kernel
theorem dX6_told_85 : decode cX6_told 85 = .ok (.iaload, 1) := by decide +kernel
theorem dX6_told_86 : decode cX6_told 86 = .ok (.ireturn, 1) := by decide +kernel
theorem dX6_told_87 : decode cX6_told 87 = .ok (.aload_n 0, 1) := by decide +kernel
theorem dX6_told_88 : decode cX6_told 88 = .ok (.getfield 37, 3) := by decide +kernel
theorem dX6_told_91 : decode cX6_told 91 = .ok (.getfield 156, 3) := by decide +kernel
theorem dX6_told_94 : decode cX6_told 94 = .ok (.iload_n 1, 1) := by decide +kernel
theorem dX6_told_95 : decode cX6_told 95 = .ok (.iaload, 1) := by decide +kernel
theorem dX6_told_96 : decode cX6_told 96 = .ok (.ireturn, 1) := by decide +kernel
theorem dX6_told_97 : decode cX6_told 97 = .ok (.bipush (-2), 2) := by decide +kernel
theorem dX6_told_99 : decode cX6_told 99 = .ok (.ireturn, 1) := by decide +kernel
theorem dX6_play_0 : decode cX6_play 0 = .ok (.iload_n 1, 1) := by decide +kernel
theorem dX6_play_1 : decode cX6_play 1 = .ok (.ifCond .lt 23, 3) := by decide +kernel
theorem dX6_play_4 : decode cX6_play 4 = .ok (.iload_n 1, 1) := by decide +kernel
theorem dX6_play_5 : decode cX6_play 5 = .ok (.aload_n 0, 1) := by decide +kernel
theorem dX6_play_6 : decode cX6_play 6 = .ok (.getfield 44, 3) := by decide +kernel
theorem dX6_play_9 : decode cX6_play 9 = .ok (.getfield 159, 3) := by decide +kernel
theorem dX6_play_12 : decode cX6_play 12 = .ok (.if_icmp .ge 12, 3) := by decide +kernel
theorem dX6_play_15 : decode cX6_play 15 = .ok (.iload_n 2, 1) := by decide +kernel
theorem dX6_play_16 : decode cX6_play 16 = .ok (.ifCond .lt 8, 3) := by decide +kernel
theorem dX6_play_19 : decode cX6_play 19 = .ok (.iload_n 2, 1) := by decide +kernel
theorem dX6_play_20 : decode cX6_play 20 = .ok (.iconst 3, 1) := by decide +kernel
theorem dX6_play_21 : decode cX6_play 21 = .ok (.if_icmp .le 13, 3) := by decide +kernel
theorem dX6_play_24 : decode cX6_play 24 = .ok (.new 162, 3) := by decide +kernel
theorem dX6_play_27 : decode cX6_play 27 = .ok (.dup, 1) := by decide +kernel
theorem dX6_play_28 : decode cX6_play 28 = .ok (.ldc 164, 2) := by decide +kernel
theorem dX6_play_30 : decode cX6_play 30 = .ok (.invokespecial 166, 3) := by decide +kernel
theorem dX6_play_33 : decode cX6_play 33 = .ok (.athrow, 1) := by decide +kernel
theorem dX6_play_34 : decode cX6_play 34 = .ok (.iload_n 2, 1) := by decide +kernel
theorem dX6_play_35 : decode cX6_play 35 = .ok (.tableswitch 55 0 2 #[25, 35, 45], 25) := by decide +kernel
theorem dX6_play_60 : decode cX6_play 60 = .ok (.aload_n 0, 1) := by decide +kernel
theorem dX6_play_61 : decode cX6_play 61 = .ok (.getfield 44, 3) := by decide +kernel
theorem dX6_play_64 : decode cX6_play 64 = .ok (.getfield 167, 3) := by decide +kernel
theorem dX6_play_67 : decode cX6_play 67 = .ok (.iload_n 1, 1) := by decide +kernel
theorem dX6_play_68 : decode cX6_play 68 = .ok (.iaload, 1) := by decide +kernel
theorem dX6_play_69 : decode cX6_play 69 = .ok (.ireturn, 1) := by decide +kernel
theorem dX6_play_70 : decode cX6_play 70 = .ok (.aload_n 0, 1) := by decide +kernel
theorem dX6_play_71 : decode cX6_play 71 = .ok (.getfield 44, 3) := by decide +kernel
theorem dX6_play_74 : decode cX6_play 74 = .ok (.getfield 170, 3) := by decide +kernel
theorem dX6_play_77 : decode cX6_play 77 = .ok (.iload_n 1, 1) := by decide +kernel
theorem dX6_play_78 : decode cX6_play 78 = .ok (.iaload, 1) := by decide +kernel
theorem dX6_play_79 : decode cX6_play 79 = .ok (.ireturn, 1) := by decide +kernel
theorem dX6_play_80 : decode cX6_play 80 = .ok (.aload_n 0, 1) := by decide +kernel
theorem dX6_play_81 : decode cX6_play 81 = .ok (.getfield 44, 3) := by decide +kernel
theorem dX6_play_84 : decode cX6_play 84 = .ok (.getfield 173, 3) := by decide +kernel
theorem dX6_play_87 : decode cX6_play 87 = .ok (.iload_n 1, 1) := by decide +kernel
theorem dX6_play_88 : decode cX6_play 88 = .ok (.iaload, 1) := by decide +kernel
theorem dX6_play_89 : decode cX6_play 89 = .ok (.ireturn, 1) := by decide +kernel
theorem dX6_play_90 : decode cX6_play 90 = .ok (.aload_n 0, 1) := by decide +kernel
theorem dX6_play_91 : decode cX6_play 91 = .ok (.getfield 44, 3) := by decide +kernel
theorem dX6_play_94 : decode cX6_play 94 = .ok (.getfield 176, 3) := by decide +kernel
theorem dX6_play_97 : decode cX6_play 97 = .ok (.iload_n 1, 1) := by decide +kernel
theorem dX6_play_98 : decode cX6_play 98 = .ok (.iaload, 1) := by decide +kernel
theorem dX6_play_99 : decode cX6_play 99 = .ok (.ireturn, 1) := by decide +kernel
theorem dX6_left_0 : decode cX6_left 0 = .ok (.iload_n 1, 1) := by decide +kernel
theorem dX6_left_1 : decode cX6_left 1 = .ok (.ifCond .lt 31, 3) := by decide +kernel
theorem dX6_left_4 : decode cX6_left 4 = .ok (.iload_n 1, 1) := by decide +kernel
theorem dX6_left_5 : decode cX6_left 5 = .ok (.aload_n 0, 1) := by decide +kernel
theorem dX6_left_6 : decode cX6_left 6 = .ok (.getfield 44, 3) := by decide +kernel
theorem dX6_left_9 : decode cX6_left 9 = .ok (.getfield 134, 3) := by decide +kernel
theorem dX6_left_12 : decode cX6_left 12 = .ok (.if_icmp .ge 20, 3) := by decide +kernel
theorem dX6_left_15 : decode cX6_left 15 = .ok (.iload_n 2, 1) := by decide +kernel
theorem dX6_left_16 : decode cX6_left 16 = .ok (.ifCond .lt 16, 3) := by decide +kernel
theorem dX6_left_19 : decode cX6_left 19 = .ok (.iload_n 2, 1) := by decide +kernel
theorem dX6_left_20 : decode cX6_left 20 = .ok (.aload_n 0, 1) := by decide +kernel
theorem dX6_left_21 : decode cX6_left 21 = .ok (.getfield 44, 3) := by decide +kernel
theorem dX6_left_24 : decode cX6_left 24 = .ok (.getfield 179, 3) := by decide +kernel
theorem dX6_left_27 : decode cX6_left 27 = .ok (.iload_n 1, 1) := by decide +kernel
theorem dX6_left_28 : decode cX6_left 28 = .ok (.iaload, 1) := by decide +kernel
theorem dX6_left_29 : decode cX6_left 29 = .ok (.if_icmp .lt 13, 3) := by decide +kernel
theorem dX6_left_32 : decode cX6_left 32 = .ok (.new 162, 3) := by decide +kernel
theorem dX6_left_35 : decode cX6_left 35 = .ok (.dup, 1) := by decide +kernel
theorem dX6_left_36 : decode cX6_left 36 = .ok (.ldc 182, 2) := by decide +kernel
theorem dX6_left_38 : decode cX6_left 38 = .ok (.invokespecial 166, 3) := by decide +kernel
theorem dX6_left_41 : decode cX6_left 41 = .ok (.athrow, 1) := by decide +kernel
theorem dX6_left_42 : decode cX6_left 42 = .ok (.aload_n 0, 1) := by decide +kernel
theorem dX6_left_43 : decode cX6_left 43 = .ok (.getfield 44, 3) := by decide +kernel
theorem dX6_left_46 : decode cX6_left 46 = .ok (.getfield 184, 3) := by decide +kernel
theorem dX6_left_49 : decode cX6_left 49 = .ok (.iload_n 1, 1) := by decide +kernel
theorem dX6_left_50 : decode cX6_left 50 = .ok (.bipush 8, 2) := by decide +kernel
theorem dX6_left_52 : decode cX6_left 52 = .ok (.imul, 1) := by decide +kernel
theorem dX6_left_53 : decode cX6_left 53 = .ok (.iload_n 2, 1) := by decide +kernel
theorem dX6_left_54 : decode cX6_left 54 = .ok (.iadd, 1) := by decide +kernel
theorem dX6_left_55 : decode cX6_left 55 = .ok (.iaload, 1) := by decide +kernel
theorem dX6_left_56 : decode cX6_left 56 = .ok (.ireturn, 1) := by decide +kernel
theorem dX6_at_0 : decode cX6_at 0 = .ok (.iconst 0, 1) := by decide +kernel
theorem dX6_at_1 : decode cX6_at 1 = .ok (.istore_n 2, 1) := by decide +kernel
theorem dX6_at_2 : decode cX6_at 2 = .ok (.iload_n 2, 1) := by decide +kernel
theorem dX6_at_3 : decode cX6_at 3 = .ok (.aload_n 0, 1) := by decide +kernel
theorem dX6_at_4 : decode cX6_at 4 = .ok (.getfield 44, 3) := by decide +kernel
theorem dX6_at_7 : decode cX6_at 7 = .ok (.getfield 159, 3) := by decide +kernel
theorem dX6_at_10 : decode cX6_at 10 = .ok (.if_icmp .ge 33, 3) := by decide +kernel
theorem dX6_at_13 : decode cX6_at 13 = .ok (.iload_n 1, 1) := by decide +kernel
theorem dX6_at_14 : decode cX6_at 14 = .ok (.aload_n 0, 1) := by decide +kernel
theorem dX6_at_15 : decode cX6_at 15 = .ok (.getfield 44, 3) := by decide +kernel
theorem dX6_at_18 : decode cX6_at 18 = .ok (.getfield 170, 3) := by decide +kernel
theorem dX6_at_21 : decode cX6_at 21 = .ok (.iload_n 2, 1) := by decide +kernel
theorem dX6_at_22 : decode cX6_at 22 = .ok (.iaload, 1) := by decide +kernel
theorem dX6_at_23 : decode cX6_at 23 = .ok (.if_icmp .lt 14, 3) := by decide +kernel
theorem dX6_at_26 : decode cX6_at 26 = .ok (.iload_n 1, 1) := by decide +kernel
theorem dX6_at_27 : decode cX6_at 27 = .ok (.aload_n 0, 1) := by decide +kernel
theorem dX6_at_28 : decode cX6_at 28 = .ok (.iload_n 2, 1) := by decide +kernel
theorem dX6_at_29 : decode cX6_at 29 = .ok (.invokevirtual 187, 3) := by decide +kernel
theorem dX6_at_32 : decode cX6_at 32 = .ok (.if_icmp .ge 5, 3) := by decide +kernel
theorem dX6_at_35 : decode cX6_at 35 = .ok (.iload_n 2, 1) := by decide +kernel
theorem dX6_at_36 : decode cX6_at 36 = .ok (.ireturn, 1) := by decide +kernel
theorem dX6_at_37 : decode cX6_at 37 = .ok (.iinc 2 1, 3) := by decide +kernel
theorem dX6_at_40 : decode cX6_at 40 = .ok (.goto (-38), 3) := by decide +kernel
theorem dX6_at_43 : decode cX6_at 43 = .ok (.iconst (-1), 1) := by decide +kernel
theorem dX6_at_44 : decode cX6_at 44 = .ok (.ireturn, 1) := by decide +kernel
theorem dX6_rights_0 : decode cX6_rights 0 = .ok (.iload_n 1, 1) := by decide +kernel
theorem dX6_rights_1 : decode cX6_rights 1 = .ok (.iconst 0, 1) := by decide +kernel
theorem dX6_rights_2 : decode cX6_rights 2 = .ok (.bipush 11, 2) := by decide +kernel
theorem dX6_rights_4 : decode cX6_rights 4 = .ok (.invokestatic 101, 3) := by decide +kernel
theorem dX6_rights_7 : decode cX6_rights 7 = .ok (.ifCond .eq 8, 3) := by decide +kernel
theorem dX6_rights_10 : decode cX6_rights 10 = .ok (.iload_n 3, 1) := by decide +kernel
theorem dX6_rights_11 : decode cX6_rights 11 = .ok (.iload_n 2, 1) := by decide +kernel
theorem dX6_rights_12 : decode cX6_rights 12 = .ok (.if_icmp .ge 5, 3) := by decide +kernel
theorem dX6_rights_15 : decode cX6_rights 15 = .ok (.iconst (-1), 1) := by decide +kernel
theorem dX6_rights_16 : decode cX6_rights 16 = .ok (.ireturn, 1) := by decide +kernel
theorem dX6_rights_17 : decode cX6_rights 17 = .ok (.iconst 0, 1) := by decide +kernel
theorem dX6_rights_18 : decode cX6_rights 18 = .ok (.istore 4, 2) := by decide +kernel
theorem dX6_rights_20 : decode cX6_rights 20 = .ok (.iconst 0, 1) := by decide +kernel
theorem dX6_rights_21 : decode cX6_rights 21 = .ok (.istore 5, 2) := by decide +kernel
theorem dX6_rights_23 : decode cX6_rights 23 = .ok (.iload 5, 2) := by decide +kernel
theorem dX6_rights_25 : decode cX6_rights 25 = .ok (.aload_n 0, 1) := by decide +kernel
theorem dX6_rights_26 : decode cX6_rights 26 = .ok (.getfield 44, 3) := by decide +kernel
theorem dX6_rights_29 : decode cX6_rights 29 = .ok (.getfield 159, 3) := by decide +kernel
theorem dX6_rights_32 : decode cX6_rights 32 = .ok (.if_icmp .ge 44, 3) := by decide +kernel
theorem dX6_rights_35 : decode cX6_rights 35 = .ok (.aload_n 0, 1) := by decide +kernel
theorem dX6_rights_36 : decode cX6_rights 36 = .ok (.getfield 37, 3) := by decide +kernel
theorem dX6_rights_39 : decode cX6_rights 39 = .ok (.getfield 190, 3) := by decide +kernel
theorem dX6_rights_42 : decode cX6_rights 42 = .ok (.aload_n 0, 1) := by decide +kernel
theorem dX6_rights_43 : decode cX6_rights 43 = .ok (.getfield 44, 3) := by decide +kernel
theorem dX6_rights_46 : decode cX6_rights 46 = .ok (.getfield 167, 3) := by decide +kernel
theorem dX6_rights_49 : decode cX6_rights 49 = .ok (.iload 5, 2) := by decide +kernel
theorem dX6_rights_51 : decode cX6_rights 51 = .ok (.iaload, 1) := by decide +kernel
theorem dX6_rights_52 : decode cX6_rights 52 = .ok (.iaload, 1) := by decide +kernel
theorem dX6_rights_53 : decode cX6_rights 53 = .ok (.iload_n 1, 1) := by decide +kernel
theorem dX6_rights_54 : decode cX6_rights 54 = .ok (.if_icmp .ne 16, 3) := by decide +kernel
theorem dX6_rights_57 : decode cX6_rights 57 = .ok (.iload 4, 2) := by decide +kernel
theorem dX6_rights_59 : decode cX6_rights 59 = .ok (.aload_n 0, 1) := by decide +kernel
theorem dX6_rights_60 : decode cX6_rights 60 = .ok (.iload 5, 2) := by decide +kernel
theorem dX6_rights_62 : decode cX6_rights 62 = .ok (.iload_n 2, 1) := by decide +kernel
theorem dX6_rights_63 : decode cX6_rights 63 = .ok (.iload_n 3, 1) := by decide +kernel
theorem dX6_rights_64 : decode cX6_rights 64 = .ok (.invokevirtual 193, 3) := by decide +kernel
theorem dX6_rights_67 : decode cX6_rights 67 = .ok (.iadd, 1) := by decide +kernel
theorem dX6_rights_68 : decode cX6_rights 68 = .ok (.istore 4, 2) := by decide +kernel
theorem dX6_rights_70 : decode cX6_rights 70 = .ok (.iinc 5 1, 3) := by decide +kernel
theorem dX6_rights_73 : decode cX6_rights 73 = .ok (.goto (-50), 3) := by decide +kernel
theorem dX6_rights_76 : decode cX6_rights 76 = .ok (.iload 4, 2) := by decide +kernel
theorem dX6_rights_78 : decode cX6_rights 78 = .ok (.ireturn, 1) := by decide +kernel
theorem dX6_items_0 : decode cX6_items 0 = .ok (.iload_n 1, 1) := by decide +kernel
theorem dX6_items_1 : decode cX6_items 1 = .ok (.invokestatic 77, 3) := by decide +kernel
theorem dX6_items_4 : decode cX6_items 4 = .ok (.ifCond .ne 13, 3) := by decide +kernel
theorem dX6_items_7 : decode cX6_items 7 = .ok (.new 81, 3) := by decide +kernel
theorem dX6_items_10 : decode cX6_items 10 = .ok (.dup, 1) := by decide +kernel
theorem dX6_items_11 : decode cX6_items 11 = .ok (.ldc 83, 2) := by decide +kernel
theorem dX6_items_13 : decode cX6_items 13 = .ok (.invokespecial 85, 3) := by decide +kernel
theorem dX6_items_16 : decode cX6_items 16 = .ok (.athrow, 1) := by decide +kernel
theorem dX6_items_17 : decode cX6_items 17 = .ok (.aload_n 0, 1) := by decide +kernel
theorem dX6_items_18 : decode cX6_items 18 = .ok (.getfield 25, 3) := by decide +kernel
theorem dX6_items_21 : decode cX6_items 21 = .ok (.iload_n 1, 1) := by decide +kernel
theorem dX6_items_22 : decode cX6_items 22 = .ok (.aaload, 1) := by decide +kernel
theorem dX6_items_23 : decode cX6_items 23 = .ok (.getfield 93, 3) := by decide +kernel
theorem dX6_items_26 : decode cX6_items 26 = .ok (.ireturn, 1) := by decide +kernel
theorem dX6_count_0 : decode cX6_count 0 = .ok (.iload_n 1, 1) := by decide +kernel
theorem dX6_count_1 : decode cX6_count 1 = .ok (.tableswitch 99 0 6 #[43, 51, 59, 67, 75, 83, 91], 43) := by decide +kernel
theorem dX6_count_44 : decode cX6_count 44 = .ok (.aload_n 0, 1) := by decide +kernel
theorem dX6_count_45 : decode cX6_count 45 = .ok (.getfield 44, 3) := by decide +kernel
theorem dX6_count_48 : decode cX6_count 48 = .ok (.getfield 134, 3) := by decide +kernel
theorem dX6_count_51 : decode cX6_count 51 = .ok (.ireturn, 1) := by decide +kernel
theorem dX6_count_52 : decode cX6_count 52 = .ok (.aload_n 0, 1) := by decide +kernel
theorem dX6_count_53 : decode cX6_count 53 = .ok (.getfield 37, 3) := by decide +kernel
theorem dX6_count_56 : decode cX6_count 56 = .ok (.getfield 105, 3) := by decide +kernel
theorem dX6_count_59 : decode cX6_count 59 = .ok (.ireturn, 1) := by decide +kernel
theorem dX6_count_60 : decode cX6_count 60 = .ok (.aload_n 0, 1) := by decide +kernel
theorem dX6_count_61 : decode cX6_count 61 = .ok (.getfield 44, 3) := by decide +kernel
theorem dX6_count_64 : decode cX6_count 64 = .ok (.getfield 159, 3) := by decide +kernel
theorem dX6_count_67 : decode cX6_count 67 = .ok (.ireturn, 1) := by decide +kernel
theorem dX6_count_68 : decode cX6_count 68 = .ok (.aload_n 0, 1) := by decide +kernel
theorem dX6_count_69 : decode cX6_count 69 = .ok (.getfield 44, 3) := by decide +kernel
theorem dX6_count_72 : decode cX6_count 72 = .ok (.getfield 197, 3) := by decide +kernel
theorem dX6_count_75 : decode cX6_count 75 = .ok (.ireturn, 1) := by decide +kernel
theorem dX6_count_76 : decode cX6_count 76 = .ok (.aload_n 0, 1) := by decide +kernel
theorem dX6_count_77 : decode cX6_count 77 = .ok (.getfield 44, 3) := by decide +kernel
theorem dX6_count_80 : decode cX6_count 80 = .ok (.getfield 200, 3) := by decide +kernel
theorem dX6_count_83 : decode cX6_count 83 = .ok (.ireturn, 1) := by decide +kernel
theorem dX6_count_84 : decode cX6_count 84 = .ok (.aload_n 0, 1) := by decide +kernel
theorem dX6_count_85 : decode cX6_count 85 = .ok (.getfield 37, 3) := by decide +kernel
theorem dX6_count_88 : decode cX6_count 88 = .ok (.invokevirtual 203, 3) := by decide +kernel
theorem dX6_count_91 : decode cX6_count 91 = .ok (.ireturn, 1) := by decide +kernel
theorem dX6_count_92 : decode cX6_count 92 = .ok (.aload_n 0, 1) := by decide +kernel
theorem dX6_count_93 : decode cX6_count 93 = .ok (.getfield 10, 3) := by decide +kernel
theorem dX6_count_96 : decode cX6_count 96 = .ok (.getfield 63, 3) := by decide +kernel
theorem dX6_count_99 : decode cX6_count 99 = .ok (.ireturn, 1) := by decide +kernel
theorem dX6_count_100 : decode cX6_count 100 = .ok (.iconst (-1), 1) := by decide +kernel
theorem dX6_count_101 : decode cX6_count 101 = .ok (.ireturn, 1) := by decide +kernel
theorem dX6_isClock_0 : decode cX6_isClock 0 = .ok (.iload_n 0, 1) := by decide +kernel
theorem dX6_isClock_1 : decode cX6_isClock 1 = .ok (.iconst 0, 1) := by decide +kernel
theorem dX6_isClock_2 : decode cX6_isClock 2 = .ok (.iconst 5, 1) := by decide +kernel
theorem dX6_isClock_3 : decode cX6_isClock 3 = .ok (.invokestatic 101, 3) := by decide +kernel
theorem dX6_isClock_6 : decode cX6_isClock 6 = .ok (.ireturn, 1) := by decide +kernel
theorem dX6_isWithin_0 : decode cX6_isWithin 0 = .ok (.iload_n 0, 1) := by decide +kernel
theorem dX6_isWithin_1 : decode cX6_isWithin 1 = .ok (.iload_n 1, 1) := by decide +kernel
theorem dX6_isWithin_2 : decode cX6_isWithin 2 = .ok (.if_icmp .lt 12, 3) := by decide +kernel
theorem dX6_isWithin_5 : decode cX6_isWithin 5 = .ok (.iload_n 0, 1) := by decide +kernel
theorem dX6_isWithin_6 : decode cX6_isWithin 6 = .ok (.iload_n 2, 1) := by decide +kernel
theorem dX6_isWithin_7 : decode cX6_isWithin 7 = .ok (.if_icmp .gt 7, 3) := by decide +kernel
theorem dX6_isWithin_10 : decode cX6_isWithin 10 = .ok (.iconst 1, 1) := by decide +kernel
theorem dX6_isWithin_11 : decode cX6_isWithin 11 = .ok (.goto 4, 3) := by decide +kernel
theorem dX6_isWithin_14 : decode cX6_isWithin 14 = .ok (.iconst 0, 1) := by decide +kernel
theorem dX6_isWithin_15 : decode cX6_isWithin 15 = .ok (.ireturn, 1) := by decide +kernel
theorem dX6_fillStretch_0 : decode cX6_fillStretch 0 = .ok (.aload_n 1, 1) := by decide +kernel
theorem dX6_fillStretch_1 : decode cX6_fillStretch 1 = .ok (.getfield 144, 3) := by decide +kernel
theorem dX6_fillStretch_4 : decode cX6_fillStretch 4 = .ok (.iload_n 2, 1) := by decide +kernel
theorem dX6_fillStretch_5 : decode cX6_fillStretch 5 = .ok (.iaload, 1) := by decide +kernel
theorem dX6_fillStretch_6 : decode cX6_fillStretch 6 = .ok (.istore 4, 2) := by decide +kernel
theorem dX6_fillStretch_8 : decode cX6_fillStretch 8 = .ok (.aload_n 0, 1) := by decide +kernel
theorem dX6_fillStretch_9 : decode cX6_fillStretch 9 = .ok (.getfield 51, 3) := by decide +kernel
theorem dX6_fillStretch_12 : decode cX6_fillStretch 12 = .ok (.aload_n 0, 1) := by decide +kernel
theorem dX6_fillStretch_13 : decode cX6_fillStretch 13 = .ok (.getfield 37, 3) := by decide +kernel
theorem dX6_fillStretch_16 : decode cX6_fillStretch 16 = .ok (.iload_n 3, 1) := by decide +kernel
theorem dX6_fillStretch_17 : decode cX6_fillStretch 17 = .ok (.iload 4, 2) := by decide +kernel
theorem dX6_fillStretch_19 : decode cX6_fillStretch 19 = .ok (.aload_n 1, 1) := by decide +kernel
theorem dX6_fillStretch_20 : decode cX6_fillStretch 20 = .ok (.getfield 207, 3) := by decide +kernel
theorem dX6_fillStretch_23 : decode cX6_fillStretch 23 = .ok (.iload_n 2, 1) := by decide +kernel
theorem dX6_fillStretch_24 : decode cX6_fillStretch 24 = .ok (.iaload, 1) := by decide +kernel
theorem dX6_fillStretch_25 : decode cX6_fillStretch 25 = .ok (.aload_n 1, 1) := by decide +kernel
theorem dX6_fillStretch_26 : decode cX6_fillStretch 26 = .ok (.getfield 210, 3) := by decide +kernel
theorem dX6_fillStretch_29 : decode cX6_fillStretch 29 = .ok (.iload_n 2, 1) := by decide +kernel
theorem dX6_fillStretch_30 : decode cX6_fillStretch 30 = .ok (.iaload, 1) := by decide +kernel
theorem dX6_fillStretch_31 : decode cX6_fillStretch 31 = .ok (.invokevirtual 213, 3) := by decide +kernel
theorem dX6_fillStretch_34 : decode cX6_fillStretch 34 = .ok (.aload_n 0, 1) := by decide +kernel
theorem dX6_fillStretch_35 : decode cX6_fillStretch 35 = .ok (.getfield 51, 3) := by decide +kernel
theorem dX6_fillStretch_38 : decode cX6_fillStretch 38 = .ok (.aload_n 0, 1) := by decide +kernel
theorem dX6_fillStretch_39 : decode cX6_fillStretch 39 = .ok (.getfield 37, 3) := by decide +kernel
theorem dX6_fillStretch_42 : decode cX6_fillStretch 42 = .ok (.iload_n 3, 1) := by decide +kernel
theorem dX6_fillStretch_43 : decode cX6_fillStretch 43 = .ok (.aload_n 0, 1) := by decide +kernel
theorem dX6_fillStretch_44 : decode cX6_fillStretch 44 = .ok (.iload_n 3, 1) := by decide +kernel
theorem dX6_fillStretch_45 : decode cX6_fillStretch 45 = .ok (.invokevirtual 217, 3) := by decide +kernel
theorem dX6_fillStretch_48 : decode cX6_fillStretch 48 = .ok (.invokevirtual 220, 3) := by decide +kernel
theorem dX6_fillStretch_51 : decode cX6_fillStretch 51 = .ok (.iload_n 3, 1) := by decide +kernel
theorem dX6_fillStretch_52 : decode cX6_fillStretch 52 = .ok (.istore 5, 2) := by decide +kernel
theorem dX6_fillStretch_54 : decode cX6_fillStretch 54 = .ok (.iconst 0, 1) := by decide +kernel
theorem dX6_fillStretch_55 : decode cX6_fillStretch 55 = .ok (.istore 6, 2) := by decide +kernel
theorem dX6_fillStretch_57 : decode cX6_fillStretch 57 = .ok (.iload 6, 2) := by decide +kernel
theorem dX6_fillStretch_59 : decode cX6_fillStretch 59 = .ok (.aload_n 0, 1) := by decide +kernel
theorem dX6_fillStretch_60 : decode cX6_fillStretch 60 = .ok (.getfield 51, 3) := by decide +kernel
theorem dX6_fillStretch_63 : decode cX6_fillStretch 63 = .ok (.getfield 224, 3) := by decide +kernel
theorem dX6_fillStretch_66 : decode cX6_fillStretch 66 = .ok (.if_icmp .ge 59, 3) := by decide +kernel
theorem dX6_fillStretch_69 : decode cX6_fillStretch 69 = .ok (.aload_n 0, 1) := by decide +kernel
theorem dX6_fillStretch_70 : decode cX6_fillStretch 70 = .ok (.getfield 51, 3) := by decide +kernel
theorem dX6_fillStretch_73 : decode cX6_fillStretch 73 = .ok (.getfield 227, 3) := by decide +kernel
theorem dX6_fillStretch_76 : decode cX6_fillStretch 76 = .ok (.iload 6, 2) := by decide +kernel
theorem dX6_fillStretch_78 : decode cX6_fillStretch 78 = .ok (.iaload, 1) := by decide +kernel
theorem dX6_fillStretch_79 : decode cX6_fillStretch 79 = .ok (.istore 7, 2) := by decide +kernel
theorem dX6_fillStretch_81 : decode cX6_fillStretch 81 = .ok (.aload_n 0, 1) := by decide +kernel
theorem dX6_fillStretch_82 : decode cX6_fillStretch 82 = .ok (.getfield 37, 3) := by decide +kernel
theorem dX6_fillStretch_85 : decode cX6_fillStretch 85 = .ok (.iload 7, 2) := by decide +kernel
theorem dX6_fillStretch_87 : decode cX6_fillStretch 87 = .ok (.iload 5, 2) := by decide +kernel
theorem dX6_fillStretch_89 : decode cX6_fillStretch 89 = .ok (.invokevirtual 230, 3) := by decide +kernel
theorem dX6_fillStretch_92 : decode cX6_fillStretch 92 = .ok (.aload_n 0, 1) := by decide +kernel
theorem dX6_fillStretch_93 : decode cX6_fillStretch 93 = .ok (.getfield 44, 3) := by decide +kernel
theorem dX6_fillStretch_96 : decode cX6_fillStretch 96 = .ok (.iload 7, 2) := by decide +kernel
theorem dX6_fillStretch_98 : decode cX6_fillStretch 98 = .ok (.iload 5, 2) := by decide +kernel
theorem dX6_fillStretch_100 : decode cX6_fillStretch 100 = .ok (.iload_n 2, 1) := by decide +kernel
theorem dX6_fillStretch_101 : decode cX6_fillStretch 101 = .ok (.invokevirtual 233, 3) := by decide +kernel
theorem dX6_fillStretch_104 : decode cX6_fillStretch 104 = .ok (.iload 5, 2) := by decide +kernel
theorem dX6_fillStretch_106 : decode cX6_fillStretch 106 = .ok (.aload_n 0, 1) := by decide +kernel
theorem dX6_fillStretch_107 : decode cX6_fillStretch 107 = .ok (.getfield 37, 3) := by decide +kernel
theorem dX6_fillStretch_110 : decode cX6_fillStretch 110 = .ok (.getfield 237, 3) := by decide +kernel
theorem dX6_fillStretch_113 : decode cX6_fillStretch 113 = .ok (.iload 7, 2) := by decide +kernel
theorem dX6_fillStretch_115 : decode cX6_fillStretch 115 = .ok (.iaload, 1) := by decide +kernel
theorem dX6_fillStretch_116 : decode cX6_fillStretch 116 = .ok (.iadd, 1) := by decide +kernel
theorem dX6_fillStretch_117 : decode cX6_fillStretch 117 = .ok (.istore 5, 2) := by decide +kernel
theorem dX6_fillStretch_119 : decode cX6_fillStretch 119 = .ok (.iinc 6 1, 3) := by decide +kernel
theorem dX6_fillStretch_122 : decode cX6_fillStretch 122 = .ok (.goto (-65), 3) := by decide +kernel
theorem dX6_fillStretch_125 : decode cX6_fillStretch 125 = .ok (.aload_n 0, 1) := by decide +kernel
theorem dX6_fillStretch_126 : decode cX6_fillStretch 126 = .ok (.getfield 44, 3) := by decide +kernel
theorem dX6_fillStretch_129 : decode cX6_fillStretch 129 = .ok (.iload_n 2, 1) := by decide +kernel
theorem dX6_fillStretch_130 : decode cX6_fillStretch 130 = .ok (.iload_n 3, 1) := by decide +kernel
theorem dX6_fillStretch_131 : decode cX6_fillStretch 131 = .ok (.iload 4, 2) := by decide +kernel
theorem dX6_fillStretch_133 : decode cX6_fillStretch 133 = .ok (.iadd, 1) := by decide +kernel
theorem dX6_fillStretch_134 : decode cX6_fillStretch 134 = .ok (.iload 5, 2) := by decide +kernel
theorem dX6_fillStretch_136 : decode cX6_fillStretch 136 = .ok (.isub, 1) := by decide +kernel
theorem dX6_fillStretch_137 : decode cX6_fillStretch 137 = .ok (.aload_n 0, 1) := by decide +kernel
theorem dX6_fillStretch_138 : decode cX6_fillStretch 138 = .ok (.getfield 51, 3) := by decide +kernel
theorem dX6_fillStretch_141 : decode cX6_fillStretch 141 = .ok (.getfield 224, 3) := by decide +kernel
theorem dX6_fillStretch_144 : decode cX6_fillStretch 144 = .ok (.ifCond .ne 7, 3) := by decide +kernel
theorem dX6_fillStretch_147 : decode cX6_fillStretch 147 = .ok (.iconst 1, 1) := by decide +kernel
theorem dX6_fillStretch_148 : decode cX6_fillStretch 148 = .ok (.goto 4, 3) := by decide +kernel
theorem dX6_fillStretch_151 : decode cX6_fillStretch 151 = .ok (.iconst 0, 1) := by decide +kernel
theorem dX6_fillStretch_152 : decode cX6_fillStretch 152 = .ok (.invokevirtual 238, 3) := by decide +kernel
theorem dX6_fillStretch_155 : decode cX6_fillStretch 155 = .ok (.aload_n 0, 1) := by decide +kernel
theorem dX6_fillStretch_156 : decode cX6_fillStretch 156 = .ok (.getfield 51, 3) := by decide +kernel
theorem dX6_fillStretch_159 : decode cX6_fillStretch 159 = .ok (.getfield 224, 3) := by decide +kernel
theorem dX6_fillStretch_162 : decode cX6_fillStretch 162 = .ok (.ifCond .le 7, 3) := by decide +kernel
theorem dX6_fillStretch_165 : decode cX6_fillStretch 165 = .ok (.iconst 1, 1) := by decide +kernel
theorem dX6_fillStretch_166 : decode cX6_fillStretch 166 = .ok (.goto 4, 3) := by decide +kernel
theorem dX6_fillStretch_169 : decode cX6_fillStretch 169 = .ok (.iconst 0, 1) := by decide +kernel
theorem dX6_fillStretch_170 : decode cX6_fillStretch 170 = .ok (.ireturn, 1) := by decide +kernel
theorem dX6_keyAhead_0 : decode cX6_keyAhead 0 = .ok (.aload_n 0, 1) := by decide +kernel
theorem dX6_keyAhead_1 : decode cX6_keyAhead 1 = .ok (.getfield 44, 3) := by decide +kernel
theorem dX6_keyAhead_4 : decode cX6_keyAhead 4 = .ok (.getfield 159, 3) := by decide +kernel
theorem dX6_keyAhead_7 : decode cX6_keyAhead 7 = .ok (.iconst 1, 1) := by decide +kernel
theorem dX6_keyAhead_8 : decode cX6_keyAhead 8 = .ok (.isub, 1) := by decide +kernel
theorem dX6_keyAhead_9 : decode cX6_keyAhead 9 = .ok (.istore_n 2, 1) := by decide +kernel
theorem dX6_keyAhead_10 : decode cX6_keyAhead 10 = .ok (.iload_n 2, 1) := by decide +kernel
theorem dX6_keyAhead_11 : decode cX6_keyAhead 11 = .ok (.ifCond .lt 12, 3) := by decide +kernel
theorem dX6_keyAhead_14 : decode cX6_keyAhead 14 = .ok (.aload_n 0, 1) := by decide +kernel
theorem dX6_keyAhead_15 : decode cX6_keyAhead 15 = .ok (.iload_n 2, 1) := by decide +kernel
theorem dX6_keyAhead_16 : decode cX6_keyAhead 16 = .ok (.invokevirtual 187, 3) := by decide +kernel
theorem dX6_keyAhead_19 : decode cX6_keyAhead 19 = .ok (.iload_n 1, 1) := by decide +kernel
theorem dX6_keyAhead_20 : decode cX6_keyAhead 20 = .ok (.if_icmp .eq 5, 3) := by decide +kernel
theorem dX6_keyAhead_23 : decode cX6_keyAhead 23 = .ok (.iconst (-1), 1) := by decide +kernel
theorem dX6_keyAhead_24 : decode cX6_keyAhead 24 = .ok (.ireturn, 1) := by decide +kernel
theorem dX6_keyAhead_25 : decode cX6_keyAhead 25 = .ok (.aload_n 0, 1) := by decide +kernel
theorem dX6_keyAhead_26 : decode cX6_keyAhead 26 = .ok (.getfield 37, 3) := by decide +kernel
theorem dX6_keyAhead_29 : decode cX6_keyAhead 29 = .ok (.getfield 242, 3) := by decide +kernel
theorem dX6_keyAhead_32 : decode cX6_keyAhead 32 = .ok (.aload_n 0, 1) := by decide +kernel
theorem dX6_keyAhead_33 : decode cX6_keyAhead 33 = .ok (.getfield 44, 3) := by decide +kernel
theorem dX6_keyAhead_36 : decode cX6_keyAhead 36 = .ok (.getfield 167, 3) := by decide +kernel
theorem dX6_keyAhead_39 : decode cX6_keyAhead 39 = .ok (.iload_n 2, 1) := by decide +kernel
theorem dX6_keyAhead_40 : decode cX6_keyAhead 40 = .ok (.iaload, 1) := by decide +kernel
theorem dX6_keyAhead_41 : decode cX6_keyAhead 41 = .ok (.iaload, 1) := by decide +kernel
theorem dX6_keyAhead_42 : decode cX6_keyAhead 42 = .ok (.ireturn, 1) := by decide +kernel
theorem dX6_endOfPlay_0 : decode cX6_endOfPlay 0 = .ok (.aload_n 0, 1) := by decide +kernel
theorem dX6_endOfPlay_1 : decode cX6_endOfPlay 1 = .ok (.getfield 44, 3) := by decide +kernel
theorem dX6_endOfPlay_4 : decode cX6_endOfPlay 4 = .ok (.getfield 170, 3) := by decide +kernel
theorem dX6_endOfPlay_7 : decode cX6_endOfPlay 7 = .ok (.iload_n 1, 1) := by decide +kernel
theorem dX6_endOfPlay_8 : decode cX6_endOfPlay 8 = .ok (.iaload, 1) := by decide +kernel
theorem dX6_endOfPlay_9 : decode cX6_endOfPlay 9 = .ok (.aload_n 0, 1) := by decide +kernel
theorem dX6_endOfPlay_10 : decode cX6_endOfPlay 10 = .ok (.getfield 37, 3) := by decide +kernel
theorem dX6_endOfPlay_13 : decode cX6_endOfPlay 13 = .ok (.getfield 237, 3) := by decide +kernel
theorem dX6_endOfPlay_16 : decode cX6_endOfPlay 16 = .ok (.aload_n 0, 1) := by decide +kernel
theorem dX6_endOfPlay_17 : decode cX6_endOfPlay 17 = .ok (.getfield 44, 3) := by decide +kernel
theorem dX6_endOfPlay_20 : decode cX6_endOfPlay 20 = .ok (.getfield 167, 3) := by decide +kernel
theorem dX6_endOfPlay_23 : decode cX6_endOfPlay 23 = .ok (.iload_n 1, 1) := by decide +kernel
theorem dX6_endOfPlay_24 : decode cX6_endOfPlay 24 = .ok (.iaload, 1) := by decide +kernel
theorem dX6_endOfPlay_25 : decode cX6_endOfPlay 25 = .ok (.iaload, 1) := by decide +kernel
theorem dX6_endOfPlay_26 : decode cX6_endOfPlay 26 = .ok (.iadd, 1) := by decide +kernel
theorem dX6_endOfPlay_27 : decode cX6_endOfPlay 27 = .ok (.ireturn, 1) := by decide +kernel
theorem dX6_secondsWithin_0 : decode cX6_secondsWithin 0 = .ok (.iload_n 2, 1) := by decide +kernel
theorem dX6_secondsWithin_1 : decode cX6_secondsWithin 1 = .ok (.aload_n 0, 1) := by decide +kernel
theorem dX6_secondsWithin_2 : decode cX6_secondsWithin 2 = .ok (.getfield 44, 3) := by decide +kernel
theorem dX6_secondsWithin_5 : decode cX6_secondsWithin 5 = .ok (.getfield 170, 3) := by decide +kernel
theorem dX6_secondsWithin_8 : decode cX6_secondsWithin 8 = .ok (.iload_n 1, 1) := by decide +kernel
theorem dX6_secondsWithin_9 : decode cX6_secondsWithin 9 = .ok (.iaload, 1) := by decide +kernel
theorem dX6_secondsWithin_10 : decode cX6_secondsWithin 10 = .ok (.invokestatic 245, 3) := by decide +kernel
theorem dX6_secondsWithin_13 : decode cX6_secondsWithin 13 = .ok (.istore 4, 2) := by decide +kernel
theorem dX6_secondsWithin_15 : decode cX6_secondsWithin 15 = .ok (.iload_n 3, 1) := by decide +kernel
theorem dX6_secondsWithin_16 : decode cX6_secondsWithin 16 = .ok (.aload_n 0, 1) := by decide +kernel
theorem dX6_secondsWithin_17 : decode cX6_secondsWithin 17 = .ok (.iload_n 1, 1) := by decide +kernel
theorem dX6_secondsWithin_18 : decode cX6_secondsWithin 18 = .ok (.invokevirtual 187, 3) := by decide +kernel
theorem dX6_secondsWithin_21 : decode cX6_secondsWithin 21 = .ok (.invokestatic 251, 3) := by decide +kernel
theorem dX6_secondsWithin_24 : decode cX6_secondsWithin 24 = .ok (.istore 5, 2) := by decide +kernel
theorem dX6_secondsWithin_26 : decode cX6_secondsWithin 26 = .ok (.iload 5, 2) := by decide +kernel
theorem dX6_secondsWithin_28 : decode cX6_secondsWithin 28 = .ok (.iload 4, 2) := by decide +kernel
theorem dX6_secondsWithin_30 : decode cX6_secondsWithin 30 = .ok (.if_icmp .le 11, 3) := by decide +kernel
theorem dX6_secondsWithin_33 : decode cX6_secondsWithin 33 = .ok (.iload 5, 2) := by decide +kernel
theorem dX6_secondsWithin_35 : decode cX6_secondsWithin 35 = .ok (.iload 4, 2) := by decide +kernel
theorem dX6_secondsWithin_37 : decode cX6_secondsWithin 37 = .ok (.isub, 1) := by decide +kernel
theorem dX6_secondsWithin_38 : decode cX6_secondsWithin 38 = .ok (.goto 4, 3) := by decide +kernel
theorem dX6_secondsWithin_41 : decode cX6_secondsWithin 41 = .ok (.iconst 0, 1) := by decide +kernel
theorem dX6_secondsWithin_42 : decode cX6_secondsWithin 42 = .ok (.ireturn, 1) := by decide +kernel
theorem dX7_init_0 : decode cX7_init 0 = .ok (.aload_n 0, 1) := by decide +kernel
theorem dX7_init_1 : decode cX7_init 1 = .ok (.invokespecial 1, 3) := by decide +kernel
theorem dX7_init_4 : decode cX7_init 4 = .ok (.aload_n 0, 1) := by decide +kernel
theorem dX7_init_5 : decode cX7_init 5 = .ok (.sipush 260, 3) := by decide +kernel
theorem dX7_init_8 : decode cX7_init 8 = .ok (.newarray .int, 2) := by decide +kernel
theorem dX7_init_10 : decode cX7_init 10 = .ok (.putfield 7, 3) := by decide +kernel
theorem dX7_init_13 : decode cX7_init 13 = .ok (.aload_n 0, 1) := by decide +kernel
theorem dX7_init_14 : decode cX7_init 14 = .ok (.iconst 5, 1) := by decide +kernel
theorem dX7_init_15 : decode cX7_init 15 = .ok (.newarray .int, 2) := by decide +kernel
theorem dX7_init_17 : decode cX7_init 17 = .ok (.dup, 1) := by decide +kernel
theorem dX7_init_18 : decode cX7_init 18 = .ok (.iconst 0, 1) := by decide +kernel
theorem dX7_init_19 : decode cX7_init 19 = .ok (.sipush 180, 3) := by decide +kernel
theorem dX7_init_22 : decode cX7_init 22 = .ok (.iastore, 1) := by decide +kernel
theorem dX7_init_23 : decode cX7_init 23 = .ok (.dup, 1) := by decide +kernel
theorem dX7_init_24 : decode cX7_init 24 = .ok (.iconst 1, 1) := by decide +kernel
theorem dX7_init_25 : decode cX7_init 25 = .ok (.bipush 60, 2) := by decide +kernel
theorem dX7_init_27 : decode cX7_init 27 = .ok (.iastore, 1) := by decide +kernel
theorem dX7_init_28 : decode cX7_init 28 = .ok (.dup, 1) := by decide +kernel
theorem dX7_init_29 : decode cX7_init 29 = .ok (.iconst 2, 1) := by decide +kernel
theorem dX7_init_30 : decode cX7_init 30 = .ok (.bipush 6, 2) := by decide +kernel
theorem dX7_init_32 : decode cX7_init 32 = .ok (.iastore, 1) := by decide +kernel
theorem dX7_init_33 : decode cX7_init 33 = .ok (.dup, 1) := by decide +kernel
theorem dX7_init_34 : decode cX7_init 34 = .ok (.iconst 3, 1) := by decide +kernel
theorem dX7_init_35 : decode cX7_init 35 = .ok (.bipush 60, 2) := by decide +kernel
theorem dX7_init_37 : decode cX7_init 37 = .ok (.iastore, 1) := by decide +kernel
theorem dX7_init_38 : decode cX7_init 38 = .ok (.dup, 1) := by decide +kernel
theorem dX7_init_39 : decode cX7_init 39 = .ok (.iconst 4, 1) := by decide +kernel
theorem dX7_init_40 : decode cX7_init 40 = .ok (.iconst 4, 1) := by decide +kernel
theorem dX7_init_41 : decode cX7_init 41 = .ok (.iastore, 1) := by decide +kernel
theorem dX7_init_42 : decode cX7_init 42 = .ok (.putfield 13, 3) := by decide +kernel
theorem dX7_init_45 : decode cX7_init 45 = .ok (.aload_n 0, 1) := by decide +kernel
theorem dX7_init_46 : decode cX7_init 46 = .ok (.iconst 5, 1) := by decide +kernel
theorem dX7_init_47 : decode cX7_init 47 = .ok (.newarray .int, 2) := by decide +kernel
theorem dX7_init_49 : decode cX7_init 49 = .ok (.dup, 1) := by decide +kernel
theorem dX7_init_50 : decode cX7_init 50 = .ok (.iconst 0, 1) := by decide +kernel
theorem dX7_init_51 : decode cX7_init 51 = .ok (.sipush 180, 3) := by decide +kernel
theorem dX7_init_54 : decode cX7_init 54 = .ok (.iastore, 1) := by decide +kernel
theorem dX7_init_55 : decode cX7_init 55 = .ok (.dup, 1) := by decide +kernel
theorem dX7_init_56 : decode cX7_init 56 = .ok (.iconst 1, 1) := by decide +kernel
theorem dX7_init_57 : decode cX7_init 57 = .ok (.bipush 60, 2) := by decide +kernel
theorem dX7_init_59 : decode cX7_init 59 = .ok (.iastore, 1) := by decide +kernel
theorem dX7_init_60 : decode cX7_init 60 = .ok (.dup, 1) := by decide +kernel
theorem dX7_init_61 : decode cX7_init 61 = .ok (.iconst 2, 1) := by decide +kernel
theorem dX7_init_62 : decode cX7_init 62 = .ok (.bipush 6, 2) := by decide +kernel
theorem dX7_init_64 : decode cX7_init 64 = .ok (.iastore, 1) := by decide +kernel
theorem dX7_init_65 : decode cX7_init 65 = .ok (.dup, 1) := by decide +kernel
theorem dX7_init_66 : decode cX7_init 66 = .ok (.iconst 3, 1) := by decide +kernel
theorem dX7_init_67 : decode cX7_init 67 = .ok (.bipush 60, 2) := by decide +kernel
theorem dX7_init_69 : decode cX7_init 69 = .ok (.iastore, 1) := by decide +kernel
theorem dX7_init_70 : decode cX7_init 70 = .ok (.dup, 1) := by decide +kernel
theorem dX7_init_71 : decode cX7_init 71 = .ok (.iconst 4, 1) := by decide +kernel
theorem dX7_init_72 : decode cX7_init 72 = .ok (.iconst 4, 1) := by decide +kernel
theorem dX7_init_73 : decode cX7_init 73 = .ok (.iastore, 1) := by decide +kernel
theorem dX7_init_74 : decode cX7_init 74 = .ok (.putfield 16, 3) := by decide +kernel
theorem dX7_init_77 : decode cX7_init 77 = .ok (.aload_n 0, 1) := by decide +kernel
theorem dX7_init_78 : decode cX7_init 78 = .ok (.iconst 5, 1) := by decide +kernel
theorem dX7_init_79 : decode cX7_init 79 = .ok (.newarray .int, 2) := by decide +kernel
theorem dX7_init_81 : decode cX7_init 81 = .ok (.dup, 1) := by decide +kernel
theorem dX7_init_82 : decode cX7_init 82 = .ok (.iconst 0, 1) := by decide +kernel
theorem dX7_init_83 : decode cX7_init 83 = .ok (.sipush 180, 3) := by decide +kernel
theorem dX7_init_86 : decode cX7_init 86 = .ok (.iastore, 1) := by decide +kernel
theorem dX7_init_87 : decode cX7_init 87 = .ok (.dup, 1) := by decide +kernel
theorem dX7_init_88 : decode cX7_init 88 = .ok (.iconst 1, 1) := by decide +kernel
theorem dX7_init_89 : decode cX7_init 89 = .ok (.bipush 60, 2) := by decide +kernel
theorem dX7_init_91 : decode cX7_init 91 = .ok (.iastore, 1) := by decide +kernel
theorem dX7_init_92 : decode cX7_init 92 = .ok (.dup, 1) := by decide +kernel
theorem dX7_init_93 : decode cX7_init 93 = .ok (.iconst 2, 1) := by decide +kernel
theorem dX7_init_94 : decode cX7_init 94 = .ok (.bipush 6, 2) := by decide +kernel
theorem dX7_init_96 : decode cX7_init 96 = .ok (.iastore, 1) := by decide +kernel
theorem dX7_init_97 : decode cX7_init 97 = .ok (.dup, 1) := by decide +kernel
theorem dX7_init_98 : decode cX7_init 98 = .ok (.iconst 3, 1) := by decide +kernel
theorem dX7_init_99 : decode cX7_init 99 = .ok (.bipush 60, 2) := by decide +kernel
theorem dX7_init_101 : decode cX7_init 101 = .ok (.iastore, 1) := by decide +kernel
theorem dX7_init_102 : decode cX7_init 102 = .ok (.dup, 1) := by decide +kernel
theorem dX7_init_103 : decode cX7_init 103 = .ok (.iconst 4, 1) := by decide +kernel
theorem dX7_init_104 : decode cX7_init 104 = .ok (.iconst 4, 1) := by decide +kernel
theorem dX7_init_105 : decode cX7_init 105 = .ok (.iastore, 1) := by decide +kernel
theorem dX7_init_106 : decode cX7_init 106 = .ok (.putfield 19, 3) := by decide +kernel
theorem dX7_init_109 : decode cX7_init 109 = .ok (.aload_n 0, 1) := by decide +kernel
theorem dX7_init_110 : decode cX7_init 110 = .ok (.iconst 5, 1) := by decide +kernel
theorem dX7_init_111 : decode cX7_init 111 = .ok (.newarray .int, 2) := by decide +kernel
theorem dX7_init_113 : decode cX7_init 113 = .ok (.dup, 1) := by decide +kernel
theorem dX7_init_114 : decode cX7_init 114 = .ok (.iconst 0, 1) := by decide +kernel
theorem dX7_init_115 : decode cX7_init 115 = .ok (.iconst 0, 1) := by decide +kernel
theorem dX7_init_116 : decode cX7_init 116 = .ok (.iastore, 1) := by decide +kernel
theorem dX7_init_117 : decode cX7_init 117 = .ok (.dup, 1) := by decide +kernel
theorem dX7_init_118 : decode cX7_init 118 = .ok (.iconst 1, 1) := by decide +kernel
theorem dX7_init_119 : decode cX7_init 119 = .ok (.iconst 0, 1) := by decide +kernel
theorem dX7_init_120 : decode cX7_init 120 = .ok (.iastore, 1) := by decide +kernel
theorem dX7_init_121 : decode cX7_init 121 = .ok (.dup, 1) := by decide +kernel
theorem dX7_init_122 : decode cX7_init 122 = .ok (.iconst 2, 1) := by decide +kernel
theorem dX7_init_123 : decode cX7_init 123 = .ok (.iconst 0, 1) := by decide +kernel
theorem dX7_init_124 : decode cX7_init 124 = .ok (.iastore, 1) := by decide +kernel
theorem dX7_init_125 : decode cX7_init 125 = .ok (.dup, 1) := by decide +kernel
theorem dX7_init_126 : decode cX7_init 126 = .ok (.iconst 3, 1) := by decide +kernel
theorem dX7_init_127 : decode cX7_init 127 = .ok (.iconst 0, 1) := by decide +kernel
theorem dX7_init_128 : decode cX7_init 128 = .ok (.iastore, 1) := by decide +kernel
theorem dX7_init_129 : decode cX7_init 129 = .ok (.dup, 1) := by decide +kernel
theorem dX7_init_130 : decode cX7_init 130 = .ok (.iconst 4, 1) := by decide +kernel
theorem dX7_init_131 : decode cX7_init 131 = .ok (.iconst 1, 1) := by decide +kernel
theorem dX7_init_132 : decode cX7_init 132 = .ok (.iastore, 1) := by decide +kernel
theorem dX7_init_133 : decode cX7_init 133 = .ok (.putfield 22, 3) := by decide +kernel
theorem dX7_init_136 : decode cX7_init 136 = .ok (.aload_n 0, 1) := by decide +kernel
theorem dX7_init_137 : decode cX7_init 137 = .ok (.iconst 5, 1) := by decide +kernel
theorem dX7_init_138 : decode cX7_init 138 = .ok (.newarray .int, 2) := by decide +kernel
theorem dX7_init_140 : decode cX7_init 140 = .ok (.dup, 1) := by decide +kernel
theorem dX7_init_141 : decode cX7_init 141 = .ok (.iconst 0, 1) := by decide +kernel
theorem dX7_init_142 : decode cX7_init 142 = .ok (.sipush 9999, 3) := by decide +kernel
theorem dX7_init_145 : decode cX7_init 145 = .ok (.iastore, 1) := by decide +kernel
theorem dX7_init_146 : decode cX7_init 146 = .ok (.dup, 1) := by decide +kernel
theorem dX7_init_147 : decode cX7_init 147 = .ok (.iconst 1, 1) := by decide +kernel
theorem dX7_init_148 : decode cX7_init 148 = .ok (.sipush 9999, 3) := by decide +kernel
theorem dX7_init_151 : decode cX7_init 151 = .ok (.iastore, 1) := by decide +kernel
theorem dX7_init_152 : decode cX7_init 152 = .ok (.dup, 1) := by decide +kernel
theorem dX7_init_153 : decode cX7_init 153 = .ok (.iconst 2, 1) := by decide +kernel
theorem dX7_init_154 : decode cX7_init 154 = .ok (.bipush 6, 2) := by decide +kernel
theorem dX7_init_156 : decode cX7_init 156 = .ok (.iastore, 1) := by decide +kernel
theorem dX7_init_157 : decode cX7_init 157 = .ok (.dup, 1) := by decide +kernel
theorem dX7_init_158 : decode cX7_init 158 = .ok (.iconst 3, 1) := by decide +kernel
theorem dX7_init_159 : decode cX7_init 159 = .ok (.sipush 900, 3) := by decide +kernel
theorem dX7_init_162 : decode cX7_init 162 = .ok (.iastore, 1) := by decide +kernel
theorem dX7_init_163 : decode cX7_init 163 = .ok (.dup, 1) := by decide +kernel
theorem dX7_init_164 : decode cX7_init 164 = .ok (.iconst 4, 1) := by decide +kernel
theorem dX7_init_165 : decode cX7_init 165 = .ok (.iconst 4, 1) := by decide +kernel
theorem dX7_init_166 : decode cX7_init 166 = .ok (.iastore, 1) := by decide +kernel
theorem dX7_init_167 : decode cX7_init 167 = .ok (.putfield 25, 3) := by decide +kernel
theorem dX7_init_170 : decode cX7_init 170 = .ok (.aload_n 0, 1) := by decide +kernel
theorem dX7_init_171 : decode cX7_init 171 = .ok (.bipush 7, 2) := by decide +kernel
theorem dX7_init_173 : decode cX7_init 173 = .ok (.newarray .int, 2) := by decide +kernel
theorem dX7_init_175 : decode cX7_init 175 = .ok (.putfield 28, 3) := by decide +kernel
theorem dX7_init_178 : decode cX7_init 178 = .ok (.aload_n 0, 1) := by decide +kernel
theorem dX7_init_179 : decode cX7_init 179 = .ok (.bipush 56, 2) := by decide +kernel
theorem dX7_init_181 : decode cX7_init 181 = .ok (.newarray .int, 2) := by decide +kernel
theorem dX7_init_183 : decode cX7_init 183 = .ok (.putfield 31, 3) := by decide +kernel
theorem dX7_init_186 : decode cX7_init 186 = .ok (.aload_n 0, 1) := by decide +kernel
theorem dX7_init_187 : decode cX7_init 187 = .ok (.bipush 56, 2) := by decide +kernel
theorem dX7_init_189 : decode cX7_init 189 = .ok (.newarray .int, 2) := by decide +kernel
theorem dX7_init_191 : decode cX7_init 191 = .ok (.putfield 34, 3) := by decide +kernel
theorem dX7_init_194 : decode cX7_init 194 = .ok (.aload_n 0, 1) := by decide +kernel
theorem dX7_init_195 : decode cX7_init 195 = .ok (.bipush 56, 2) := by decide +kernel
theorem dX7_init_197 : decode cX7_init 197 = .ok (.newarray .int, 2) := by decide +kernel
theorem dX7_init_199 : decode cX7_init 199 = .ok (.putfield 37, 3) := by decide +kernel
theorem dX7_init_202 : decode cX7_init 202 = .ok (.aload_n 0, 1) := by decide +kernel
theorem dX7_init_203 : decode cX7_init 203 = .ok (.bipush 24, 2) := by decide +kernel
theorem dX7_init_205 : decode cX7_init 205 = .ok (.newarray .int, 2) := by decide +kernel
theorem dX7_init_207 : decode cX7_init 207 = .ok (.putfield 40, 3) := by decide +kernel
theorem dX7_init_210 : decode cX7_init 210 = .ok (.aload_n 0, 1) := by decide +kernel
theorem dX7_init_211 : decode cX7_init 211 = .ok (.bipush 24, 2) := by decide +kernel
theorem dX7_init_213 : decode cX7_init 213 = .ok (.newarray .int, 2) := by decide +kernel
theorem dX7_init_215 : decode cX7_init 215 = .ok (.putfield 43, 3) := by decide +kernel
theorem dX7_init_218 : decode cX7_init 218 = .ok (.aload_n 0, 1) := by decide +kernel
theorem dX7_init_219 : decode cX7_init 219 = .ok (.bipush 24, 2) := by decide +kernel
theorem dX7_init_221 : decode cX7_init 221 = .ok (.newarray .int, 2) := by decide +kernel
theorem dX7_init_223 : decode cX7_init 223 = .ok (.putfield 46, 3) := by decide +kernel
theorem dX7_init_226 : decode cX7_init 226 = .ok (.aload_n 0, 1) := by decide +kernel
theorem dX7_init_227 : decode cX7_init 227 = .ok (.bipush 24, 2) := by decide +kernel
theorem dX7_init_229 : decode cX7_init 229 = .ok (.newarray .int, 2) := by decide +kernel
theorem dX7_init_231 : decode cX7_init 231 = .ok (.putfield 49, 3) := by decide +kernel
theorem dX7_init_234 : decode cX7_init 234 = .ok (.aload_n 0, 1) := by decide +kernel
theorem dX7_init_235 : decode cX7_init 235 = .ok (.bipush 24, 2) := by decide +kernel
theorem dX7_init_237 : decode cX7_init 237 = .ok (.newarray .int, 2) := by decide +kernel
theorem dX7_init_239 : decode cX7_init 239 = .ok (.putfield 52, 3) := by decide +kernel
theorem dX7_init_242 : decode cX7_init 242 = .ok (.aload_n 0, 1) := by decide +kernel
theorem dX7_init_243 : decode cX7_init 243 = .ok (.bipush 24, 2) := by decide +kernel
theorem dX7_init_245 : decode cX7_init 245 = .ok (.newarray .int, 2) := by decide +kernel
theorem dX7_init_247 : decode cX7_init 247 = .ok (.putfield 55, 3) := by decide +kernel
theorem dX7_init_250 : decode cX7_init 250 = .ok (.aload_n 0, 1) := by decide +kernel
theorem dX7_init_251 : decode cX7_init 251 = .ok (.bipush 24, 2) := by decide +kernel
theorem dX7_init_253 : decode cX7_init 253 = .ok (.newarray .int, 2) := by decide +kernel
theorem dX7_init_255 : decode cX7_init 255 = .ok (.putfield 58, 3) := by decide +kernel
theorem dX7_init_258 : decode cX7_init 258 = .ok (.aload_n 0, 1) := by decide +kernel
theorem dX7_init_259 : decode cX7_init 259 = .ok (.sipush 240, 3) := by decide +kernel
theorem dX7_init_262 : decode cX7_init 262 = .ok (.newarray .int, 2) := by decide +kernel
theorem dX7_init_264 : decode cX7_init 264 = .ok (.putfield 61, 3) := by decide +kernel
theorem dX7_init_267 : decode cX7_init 267 = .ok (.aload_n 0, 1) := by decide +kernel
theorem dX7_init_268 : decode cX7_init 268 = .ok (.bipush 24, 2) := by decide +kernel
theorem dX7_init_270 : decode cX7_init 270 = .ok (.newarray .int, 2) := by decide +kernel
theorem dX7_init_272 : decode cX7_init 272 = .ok (.putfield 64, 3) := by decide +kernel
theorem dX7_init_275 : decode cX7_init 275 = .ok (.aload_n 0, 1) := by decide +kernel
theorem dX7_init_276 : decode cX7_init 276 = .ok (.bipush 24, 2) := by decide +kernel
theorem dX7_init_278 : decode cX7_init 278 = .ok (.newarray .boolean, 2) := by decide +kernel
theorem dX7_init_280 : decode cX7_init 280 = .ok (.putfield 67, 3) := by decide +kernel
theorem dX7_init_283 : decode cX7_init 283 = .ok (.aload_n 0, 1) := by decide +kernel
theorem dX7_init_284 : decode cX7_init 284 = .ok (.sipush 300, 3) := by decide +kernel
theorem dX7_init_287 : decode cX7_init 287 = .ok (.newarray .int, 2) := by decide +kernel
theorem dX7_init_289 : decode cX7_init 289 = .ok (.putfield 71, 3) := by decide +kernel
theorem dX7_init_292 : decode cX7_init 292 = .ok (.aload_n 0, 1) := by decide +kernel
theorem dX7_init_293 : decode cX7_init 293 = .ok (.sipush 300, 3) := by decide +kernel
theorem dX7_init_296 : decode cX7_init 296 = .ok (.newarray .int, 2) := by decide +kernel
theorem dX7_init_298 : decode cX7_init 298 = .ok (.putfield 74, 3) := by decide +kernel
theorem dX7_init_301 : decode cX7_init 301 = .ok (.aload_n 0, 1) := by decide +kernel
theorem dX7_init_302 : decode cX7_init 302 = .ok (.sipush 300, 3) := by decide +kernel
theorem dX7_init_305 : decode cX7_init 305 = .ok (.newarray .int, 2) := by decide +kernel
theorem dX7_init_307 : decode cX7_init 307 = .ok (.putfield 77, 3) := by decide +kernel
theorem dX7_init_310 : decode cX7_init 310 = .ok (.aload_n 0, 1) := by decide +kernel
theorem dX7_init_311 : decode cX7_init 311 = .ok (.sipush 1344, 3) := by decide +kernel
theorem dX7_init_314 : decode cX7_init 314 = .ok (.newarray .int, 2) := by decide +kernel
theorem dX7_init_316 : decode cX7_init 316 = .ok (.putfield 80, 3) := by decide +kernel
theorem dX7_init_319 : decode cX7_init 319 = .ok (.aload_n 0, 1) := by decide +kernel
theorem dX7_init_320 : decode cX7_init 320 = .ok (.bipush 24, 2) := by decide +kernel
theorem dX7_init_322 : decode cX7_init 322 = .ok (.newarray .int, 2) := by decide +kernel
theorem dX7_init_324 : decode cX7_init 324 = .ok (.putfield 83, 3) := by decide +kernel
theorem dX7_init_327 : decode cX7_init 327 = .ok (.aload_n 0, 1) := by decide +kernel
theorem dX7_init_328 : decode cX7_init 328 = .ok (.ldc 86, 2) := by decide +kernel
theorem dX7_init_330 : decode cX7_init 330 = .ok (.newarray .int, 2) := by decide +kernel
theorem dX7_init_332 : decode cX7_init 332 = .ok (.putfield 87, 3) := by decide +kernel
theorem dX7_init_335 : decode cX7_init 335 = .ok (.aload_n 0, 1) := by decide +kernel
theorem dX7_init_336 : decode cX7_init 336 = .ok (.ldc 86, 2) := by decide +kernel
theorem dX7_init_338 : decode cX7_init 338 = .ok (.newarray .int, 2) := by decide +kernel
theorem dX7_init_340 : decode cX7_init 340 = .ok (.putfield 90, 3) := by decide +kernel
theorem dX7_init_343 : decode cX7_init 343 = .ok (.aload_n 0, 1) := by decide +kernel
theorem dX7_init_344 : decode cX7_init 344 = .ok (.sipush 13824, 3) := by decide +kernel
theorem dX7_init_347 : decode cX7_init 347 = .ok (.newarray .int, 2) := by decide +kernel
theorem dX7_init_349 : decode cX7_init 349 = .ok (.putfield 93, 3) := by decide +kernel
theorem dX7_init_352 : decode cX7_init 352 = .ok (.aload_n 0, 1) := by decide +kernel
theorem dX7_init_353 : decode cX7_init 353 = .ok (.sipush 13824, 3) := by decide +kernel
theorem dX7_init_356 : decode cX7_init 356 = .ok (.newarray .int, 2) := by decide +kernel
theorem dX7_init_358 : decode cX7_init 358 = .ok (.putfield 96, 3) := by decide +kernel
theorem dX7_init_361 : decode cX7_init 361 = .ok (.aload_n 0, 1) := by decide +kernel
theorem dX7_init_362 : decode cX7_init 362 = .ok (.iconst 4, 1) := by decide +kernel
theorem dX7_init_363 : decode cX7_init 363 = .ok (.newarray .int, 2) := by decide +kernel
theorem dX7_init_365 : decode cX7_init 365 = .ok (.putfield 99, 3) := by decide +kernel
theorem dX7_init_368 : decode cX7_init 368 = .ok (.aload_n 0, 1) := by decide +kernel
theorem dX7_init_369 : decode cX7_init 369 = .ok (.sipush 168, 3) := by decide +kernel
theorem dX7_init_372 : decode cX7_init 372 = .ok (.newarray .int, 2) := by decide +kernel
theorem dX7_init_374 : decode cX7_init 374 = .ok (.putfield 102, 3) := by decide +kernel
theorem dX7_init_377 : decode cX7_init 377 = .ok (.return_, 1) := by decide +kernel
theorem dX7_thrown_0 : decode cX7_thrown 0 = .ok (.aload_n 0, 1) := by decide +kernel
theorem dX7_thrown_1 : decode cX7_thrown 1 = .ok (.getfield 105, 3) := by decide +kernel
theorem dX7_thrown_4 : decode cX7_thrown 4 = .ok (.ireturn, 1) := by decide +kernel
theorem dX7_refuse_0 : decode cX7_refuse 0 = .ok (.aload_n 0, 1) := by decide +kernel
theorem dX7_refuse_1 : decode cX7_refuse 1 = .ok (.iconst 1, 1) := by decide +kernel
theorem dX7_refuse_2 : decode cX7_refuse 2 = .ok (.putfield 105, 3) := by decide +kernel
theorem dX7_refuse_5 : decode cX7_refuse 5 = .ok (.iconst 0, 1) := by decide +kernel
theorem dX7_refuse_6 : decode cX7_refuse 6 = .ok (.ireturn, 1) := by decide +kernel
theorem dX7_come_0 : decode cX7_come 0 = .ok (.bipush 24, 2) := by decide +kernel
theorem dX7_come_2 : decode cX7_come 2 = .ok (.istore_n 2, 1) := by decide +kernel
theorem dX7_come_3 : decode cX7_come 3 = .ok (.iload_n 2, 1) := by decide +kernel
theorem dX7_come_4 : decode cX7_come 4 = .ok (.ifCond .lt 35, 3) := by decide +kernel
theorem dX7_come_7 : decode cX7_come 7 = .ok (.aload_n 0, 1) := by decide +kernel
theorem dX7_come_8 : decode cX7_come 8 = .ok (.getfield 7, 3) := by decide +kernel
theorem dX7_come_11 : decode cX7_come 11 = .ok (.aload_n 0, 1) := by decide +kernel
theorem dX7_come_12 : decode cX7_come 12 = .ok (.getfield 109, 3) := by decide +kernel
theorem dX7_come_15 : decode cX7_come 15 = .ok (.iload_n 1, 1) := by decide +kernel
theorem dX7_come_16 : decode cX7_come 16 = .ok (.iload_n 2, 1) := by decide +kernel
theorem dX7_come_17 : decode cX7_come 17 = .ok (.iushr, 1) := by decide +kernel
theorem dX7_come_18 : decode cX7_come 18 = .ok (.sipush 255, 3) := by decide +kernel
theorem dX7_come_21 : decode cX7_come 21 = .ok (.iand, 1) := by decide +kernel
theorem dX7_come_22 : decode cX7_come 22 = .ok (.iastore, 1) := by decide +kernel
theorem dX7_come_23 : decode cX7_come 23 = .ok (.aload_n 0, 1) := by decide +kernel
theorem dX7_come_24 : decode cX7_come 24 = .ok (.dup, 1) := by decide +kernel
theorem dX7_come_25 : decode cX7_come 25 = .ok (.getfield 109, 3) := by decide +kernel
theorem dX7_come_28 : decode cX7_come 28 = .ok (.iconst 1, 1) := by decide +kernel
theorem dX7_come_29 : decode cX7_come 29 = .ok (.iadd, 1) := by decide +kernel
theorem dX7_come_30 : decode cX7_come 30 = .ok (.putfield 109, 3) := by decide +kernel
theorem dX7_come_33 : decode cX7_come 33 = .ok (.iinc 2 (-8), 3) := by decide +kernel
theorem dX7_come_36 : decode cX7_come 36 = .ok (.goto (-33), 3) := by decide +kernel
theorem dX7_come_39 : decode cX7_come 39 = .ok (.return_, 1) := by decide +kernel
theorem dX7_feed_0 : decode cX7_feed 0 = .ok (.aload_n 0, 1) := by decide +kernel
theorem dX7_feed_1 : decode cX7_feed 1 = .ok (.iconst 0, 1) := by decide +kernel
theorem dX7_feed_2 : decode cX7_feed 2 = .ok (.putfield 105, 3) := by decide +kernel
theorem dX7_feed_5 : decode cX7_feed 5 = .ok (.aload_n 0, 1) := by decide +kernel
theorem dX7_feed_6 : decode cX7_feed 6 = .ok (.getfield 109, 3) := by decide +kernel
theorem dX7_feed_9 : decode cX7_feed 9 = .ok (.bipush 20, 2) := by decide +kernel
theorem dX7_feed_11 : decode cX7_feed 11 = .ok (.iadd, 1) := by decide +kernel
theorem dX7_feed_12 : decode cX7_feed 12 = .ok (.sipush 260, 3) := by decide +kernel
theorem dX7_feed_15 : decode cX7_feed 15 = .ok (.if_icmp .le 5, 3) := by decide +kernel
theorem dX7_feed_18 : decode cX7_feed 18 = .ok (.iconst (-1), 1) := by decide +kernel
theorem dX7_feed_19 : decode cX7_feed 19 = .ok (.ireturn, 1) := by decide +kernel
theorem dX7_feed_20 : decode cX7_feed 20 = .ok (.aload_n 0, 1) := by decide +kernel
theorem dX7_feed_21 : decode cX7_feed 21 = .ok (.iload_n 1, 1) := by decide +kernel
theorem dX7_feed_22 : decode cX7_feed 22 = .ok (.invokevirtual 112, 3) := by decide +kernel
theorem dX7_feed_25 : decode cX7_feed 25 = .ok (.aload_n 0, 1) := by decide +kernel
theorem dX7_feed_26 : decode cX7_feed 26 = .ok (.iload_n 2, 1) := by decide +kernel
theorem dX7_feed_27 : decode cX7_feed 27 = .ok (.invokevirtual 112, 3) := by decide +kernel
theorem dX7_feed_30 : decode cX7_feed 30 = .ok (.aload_n 0, 1) := by decide +kernel
theorem dX7_feed_31 : decode cX7_feed 31 = .ok (.iload_n 3, 1) := by decide +kernel
theorem dX7_feed_32 : decode cX7_feed 32 = .ok (.invokevirtual 112, 3) := by decide +kernel
theorem dX7_feed_35 : decode cX7_feed 35 = .ok (.aload_n 0, 1) := by decide +kernel
theorem dX7_feed_36 : decode cX7_feed 36 = .ok (.iload 4, 2) := by decide +kernel
theorem dX7_feed_38 : decode cX7_feed 38 = .ok (.invokevirtual 112, 3) := by decide +kernel
theorem dX7_feed_41 : decode cX7_feed 41 = .ok (.aload_n 0, 1) := by decide +kernel
theorem dX7_feed_42 : decode cX7_feed 42 = .ok (.iload 5, 2) := by decide +kernel
theorem dX7_feed_44 : decode cX7_feed 44 = .ok (.invokevirtual 112, 3) := by decide +kernel
theorem dX7_feed_47 : decode cX7_feed 47 = .ok (.aload_n 0, 1) := by decide +kernel
theorem dX7_feed_48 : decode cX7_feed 48 = .ok (.getfield 109, 3) := by decide +kernel
theorem dX7_feed_51 : decode cX7_feed 51 = .ok (.ireturn, 1) := by decide +kernel
theorem dX7_end_0 : decode cX7_end 0 = .ok (.aload_n 0, 1) := by decide +kernel
theorem dX7_end_1 : decode cX7_end 1 = .ok (.iconst 0, 1) := by decide +kernel
theorem dX7_end_2 : decode cX7_end 2 = .ok (.putfield 105, 3) := by decide +kernel
theorem dX7_end_5 : decode cX7_end 5 = .ok (.iload_n 1, 1) := by decide +kernel
theorem dX7_end_6 : decode cX7_end 6 = .ok (.ifCond .lt 11, 3) := by decide +kernel
theorem dX7_end_9 : decode cX7_end 9 = .ok (.iload_n 1, 1) := by decide +kernel
theorem dX7_end_10 : decode cX7_end 10 = .ok (.aload_n 0, 1) := by decide +kernel
theorem dX7_end_11 : decode cX7_end 11 = .ok (.getfield 109, 3) := by decide +kernel
theorem dX7_end_14 : decode cX7_end 14 = .ok (.if_icmp .le 5, 3) := by decide +kernel
theorem dX7_end_17 : decode cX7_end 17 = .ok (.iconst 0, 1) := by decide +kernel
theorem dX7_end_18 : decode cX7_end 18 = .ok (.ireturn, 1) := by decide +kernel
theorem dX7_end_19 : decode cX7_end 19 = .ok (.aload_n 0, 1) := by decide +kernel
theorem dX7_end_20 : decode cX7_end 20 = .ok (.iload_n 1, 1) := by decide +kernel
theorem dX7_end_21 : decode cX7_end 21 = .ok (.putfield 109, 3) := by decide +kernel
theorem dX7_end_24 : decode cX7_end 24 = .ok (.iconst 1, 1) := by decide +kernel
theorem dX7_end_25 : decode cX7_end 25 = .ok (.ireturn, 1) := by decide +kernel
theorem dX7_byteAt_0 : decode cX7_byteAt 0 = .ok (.iload_n 1, 1) := by decide +kernel
theorem dX7_byteAt_1 : decode cX7_byteAt 1 = .ok (.aload_n 0, 1) := by decide +kernel
theorem dX7_byteAt_2 : decode cX7_byteAt 2 = .ok (.getfield 116, 3) := by decide +kernel
theorem dX7_byteAt_5 : decode cX7_byteAt 5 = .ok (.if_icmp .ge 12, 3) := by decide +kernel
theorem dX7_byteAt_8 : decode cX7_byteAt 8 = .ok (.aload_n 0, 1) := by decide +kernel
theorem dX7_byteAt_9 : decode cX7_byteAt 9 = .ok (.getfield 7, 3) := by decide +kernel
theorem dX7_byteAt_12 : decode cX7_byteAt 12 = .ok (.iload_n 1, 1) := by decide +kernel
theorem dX7_byteAt_13 : decode cX7_byteAt 13 = .ok (.iaload, 1) := by decide +kernel
theorem dX7_byteAt_14 : decode cX7_byteAt 14 = .ok (.goto 4, 3) := by decide +kernel
theorem dX7_byteAt_17 : decode cX7_byteAt 17 = .ok (.iconst 0, 1) := by decide +kernel
theorem dX7_byteAt_18 : decode cX7_byteAt 18 = .ok (.ireturn, 1) := by decide +kernel
theorem dX7_isDigit_0 : decode cX7_isDigit 0 = .ok (.iload_n 0, 1) := by decide +kernel
theorem dX7_isDigit_1 : decode cX7_isDigit 1 = .ok (.bipush 48, 2) := by decide +kernel
theorem dX7_isDigit_3 : decode cX7_isDigit 3 = .ok (.if_icmp .lt 13, 3) := by decide +kernel
theorem dX7_isDigit_6 : decode cX7_isDigit 6 = .ok (.iload_n 0, 1) := by decide +kernel
theorem dX7_isDigit_7 : decode cX7_isDigit 7 = .ok (.bipush 57, 2) := by decide +kernel
theorem dX7_isDigit_9 : decode cX7_isDigit 9 = .ok (.if_icmp .gt 7, 3) := by decide +kernel
theorem dX7_isDigit_12 : decode cX7_isDigit 12 = .ok (.iconst 1, 1) := by decide +kernel
theorem dX7_isDigit_13 : decode cX7_isDigit 13 = .ok (.goto 4, 3) := by decide +kernel
theorem dX7_isDigit_16 : decode cX7_isDigit 16 = .ok (.iconst 0, 1) := by decide +kernel
theorem dX7_isDigit_17 : decode cX7_isDigit 17 = .ok (.ireturn, 1) := by decide +kernel
theorem dX7_isLetter_0 : decode cX7_isLetter 0 = .ok (.iload_n 0, 1) := by decide +kernel
theorem dX7_isLetter_1 : decode cX7_isLetter 1 = .ok (.bipush 97, 2) := by decide +kernel
theorem dX7_isLetter_3 : decode cX7_isLetter 3 = .ok (.if_icmp .lt 13, 3) := by decide +kernel
theorem dX7_isLetter_6 : decode cX7_isLetter 6 = .ok (.iload_n 0, 1) := by decide +kernel
theorem dX7_isLetter_7 : decode cX7_isLetter 7 = .ok (.bipush 122, 2) := by decide +kernel
theorem dX7_isLetter_9 : decode cX7_isLetter 9 = .ok (.if_icmp .gt 7, 3) := by decide +kernel
theorem dX7_isLetter_12 : decode cX7_isLetter 12 = .ok (.iconst 1, 1) := by decide +kernel
theorem dX7_isLetter_13 : decode cX7_isLetter 13 = .ok (.goto 4, 3) := by decide +kernel
theorem dX7_isLetter_16 : decode cX7_isLetter 16 = .ok (.iconst 0, 1) := by decide +kernel
theorem dX7_isLetter_17 : decode cX7_isLetter 17 = .ok (.ireturn, 1) := by decide +kernel
theorem dX7_go_0 : decode cX7_go 0 = .ok (.aload_n 0, 1) := by decide +kernel
theorem dX7_go_1 : decode cX7_go 1 = .ok (.getfield 119, 3) := by decide +kernel
theorem dX7_go_4 : decode cX7_go 4 = .ok (.aload_n 0, 1) := by decide +kernel
theorem dX7_go_5 : decode cX7_go 5 = .ok (.getfield 116, 3) := by decide +kernel
theorem dX7_go_8 : decode cX7_go 8 = .ok (.if_icmp .ge 44, 3) := by decide +kernel
theorem dX7_go_11 : decode cX7_go 11 = .ok (.aload_n 0, 1) := by decide +kernel
theorem dX7_go_12 : decode cX7_go 12 = .ok (.getfield 7, 3) := by decide +kernel
theorem dX7_go_15 : decode cX7_go 15 = .ok (.aload_n 0, 1) := by decide +kernel
theorem dX7_go_16 : decode cX7_go 16 = .ok (.getfield 119, 3) := by decide +kernel
theorem dX7_go_19 : decode cX7_go 19 = .ok (.iaload, 1) := by decide +kernel
theorem dX7_go_20 : decode cX7_go 20 = .ok (.bipush 32, 2) := by decide +kernel
theorem dX7_go_22 : decode cX7_go 22 = .ok (.if_icmp .eq 17, 3) := by decide +kernel
theorem dX7_go_25 : decode cX7_go 25 = .ok (.aload_n 0, 1) := by decide +kernel
theorem dX7_go_26 : decode cX7_go 26 = .ok (.getfield 7, 3) := by decide +kernel
theorem dX7_go_29 : decode cX7_go 29 = .ok (.aload_n 0, 1) := by decide +kernel
theorem dX7_go_30 : decode cX7_go 30 = .ok (.getfield 119, 3) := by decide +kernel
theorem dX7_go_33 : decode cX7_go 33 = .ok (.iaload, 1) := by decide +kernel
theorem dX7_go_34 : decode cX7_go 34 = .ok (.bipush 10, 2) := by decide +kernel
theorem dX7_go_36 : decode cX7_go 36 = .ok (.if_icmp .ne 16, 3) := by decide +kernel
theorem dX7_go_39 : decode cX7_go 39 = .ok (.aload_n 0, 1) := by decide +kernel
theorem dX7_go_40 : decode cX7_go 40 = .ok (.dup, 1) := by decide +kernel
theorem dX7_go_41 : decode cX7_go 41 = .ok (.getfield 119, 3) := by decide +kernel
theorem dX7_go_44 : decode cX7_go 44 = .ok (.iconst 1, 1) := by decide +kernel
theorem dX7_go_45 : decode cX7_go 45 = .ok (.iadd, 1) := by decide +kernel
theorem dX7_go_46 : decode cX7_go 46 = .ok (.putfield 119, 3) := by decide +kernel
theorem dX7_go_49 : decode cX7_go 49 = .ok (.goto (-49), 3) := by decide +kernel
theorem dX7_go_52 : decode cX7_go 52 = .ok (.aload_n 0, 1) := by decide +kernel
theorem dX7_go_53 : decode cX7_go 53 = .ok (.aload_n 0, 1) := by decide +kernel
theorem dX7_go_54 : decode cX7_go 54 = .ok (.getfield 119, 3) := by decide +kernel
theorem dX7_go_57 : decode cX7_go 57 = .ok (.putfield 122, 3) := by decide +kernel
theorem dX7_go_60 : decode cX7_go 60 = .ok (.aload_n 0, 1) := by decide +kernel
theorem dX7_go_61 : decode cX7_go 61 = .ok (.getfield 116, 3) := by decide +kernel
theorem dX7_go_64 : decode cX7_go 64 = .ok (.aload_n 0, 1) := by decide +kernel
theorem dX7_go_65 : decode cX7_go 65 = .ok (.getfield 125, 3) := by decide +kernel
theorem dX7_go_68 : decode cX7_go 68 = .ok (.if_icmp .le 28, 3) := by decide +kernel
theorem dX7_go_71 : decode cX7_go 71 = .ok (.aload_n 0, 1) := by decide +kernel
theorem dX7_go_72 : decode cX7_go 72 = .ok (.getfield 122, 3) := by decide +kernel
theorem dX7_go_75 : decode cX7_go 75 = .ok (.aload_n 0, 1) := by decide +kernel
theorem dX7_go_76 : decode cX7_go 76 = .ok (.getfield 125, 3) := by decide +kernel
theorem dX7_go_79 : decode cX7_go 79 = .ok (.if_icmp .lt 17, 3) := by decide +kernel
theorem dX7_go_82 : decode cX7_go 82 = .ok (.aload_n 0, 1) := by decide +kernel
theorem dX7_go_83 : decode cX7_go 83 = .ok (.aload_n 0, 1) := by decide +kernel
theorem dX7_go_84 : decode cX7_go 84 = .ok (.getfield 125, 3) := by decide +kernel
theorem dX7_go_87 : decode cX7_go 87 = .ok (.putfield 122, 3) := by decide +kernel
theorem dX7_go_90 : decode cX7_go 90 = .ok (.aload_n 0, 1) := by decide +kernel
theorem dX7_go_91 : decode cX7_go 91 = .ok (.iconst 1, 1) := by decide +kernel
theorem dX7_go_92 : decode cX7_go 92 = .ok (.putfield 128, 3) := by decide +kernel
theorem dX7_go_95 : decode cX7_go 95 = .ok (.return_, 1) := by decide +kernel
theorem dX7_go_96 : decode cX7_go 96 = .ok (.aload_n 0, 1) := by decide +kernel
theorem dX7_go_97 : decode cX7_go 97 = .ok (.getfield 119, 3) := by decide +kernel
theorem dX7_go_100 : decode cX7_go 100 = .ok (.aload_n 0, 1) := by decide +kernel
theorem dX7_go_101 : decode cX7_go 101 = .ok (.getfield 116, 3) := by decide +kernel
theorem dX7_go_104 : decode cX7_go 104 = .ok (.if_icmp .lt 9, 3) := by decide +kernel
theorem dX7_go_107 : decode cX7_go 107 = .ok (.aload_n 0, 1) := by decide +kernel
theorem dX7_go_108 : decode cX7_go 108 = .ok (.iconst 0, 1) := by decide +kernel
theorem dX7_go_109 : decode cX7_go 109 = .ok (.putfield 128, 3) := by decide +kernel
theorem dX7_go_112 : decode cX7_go 112 = .ok (.return_, 1) := by decide +kernel
theorem dX7_go_113 : decode cX7_go 113 = .ok (.aload_n 0, 1) := by decide +kernel
theorem dX7_go_114 : decode cX7_go 114 = .ok (.getfield 7, 3) := by decide +kernel
theorem dX7_go_117 : decode cX7_go 117 = .ok (.aload_n 0, 1) := by decide +kernel
theorem dX7_go_118 : decode cX7_go 118 = .ok (.getfield 119, 3) := by decide +kernel
theorem dX7_go_121 : decode cX7_go 121 = .ok (.iaload, 1) := by decide +kernel
theorem dX7_go_122 : decode cX7_go 122 = .ok (.istore_n 1, 1) := by decide +kernel
theorem dX7_go_123 : decode cX7_go 123 = .ok (.iload_n 1, 1) := by decide +kernel
theorem dX7_go_124 : decode cX7_go 124 = .ok (.invokestatic 131, 3) := by decide +kernel
theorem dX7_go_127 : decode cX7_go 127 = .ok (.ifCond .ne 36, 3) := by decide +kernel
theorem dX7_go_130 : decode cX7_go 130 = .ok (.iload_n 1, 1) := by decide +kernel
theorem dX7_go_131 : decode cX7_go 131 = .ok (.invokestatic 135, 3) := by decide +kernel
theorem dX7_go_134 : decode cX7_go 134 = .ok (.ifCond .ne 29, 3) := by decide +kernel
theorem dX7_go_137 : decode cX7_go 137 = .ok (.aload_n 0, 1) := by decide +kernel
theorem dX7_go_138 : decode cX7_go 138 = .ok (.iload_n 1, 1) := by decide +kernel
theorem dX7_go_139 : decode cX7_go 139 = .ok (.bipush 59, 2) := by decide +kernel
theorem dX7_go_141 : decode cX7_go 141 = .ok (.if_icmp .ne 7, 3) := by decide +kernel
theorem dX7_go_144 : decode cX7_go 144 = .ok (.iconst 4, 1) := by decide +kernel
theorem dX7_go_145 : decode cX7_go 145 = .ok (.goto 4, 3) := by decide +kernel
theorem dX7_go_148 : decode cX7_go 148 = .ok (.iconst 1, 1) := by decide +kernel
theorem dX7_go_149 : decode cX7_go 149 = .ok (.putfield 128, 3) := by decide +kernel
theorem dX7_go_152 : decode cX7_go 152 = .ok (.aload_n 0, 1) := by decide +kernel
theorem dX7_go_153 : decode cX7_go 153 = .ok (.dup, 1) := by decide +kernel
theorem dX7_go_154 : decode cX7_go 154 = .ok (.getfield 119, 3) := by decide +kernel
theorem dX7_go_157 : decode cX7_go 157 = .ok (.iconst 1, 1) := by decide +kernel
theorem dX7_go_158 : decode cX7_go 158 = .ok (.iadd, 1) := by decide +kernel
theorem dX7_go_159 : decode cX7_go 159 = .ok (.putfield 119, 3) := by decide +kernel
theorem dX7_go_162 : decode cX7_go 162 = .ok (.return_, 1) := by decide +kernel
theorem dX7_go_163 : decode cX7_go 163 = .ok (.iload_n 1, 1) := by decide +kernel
theorem dX7_go_164 : decode cX7_go 164 = .ok (.invokestatic 131, 3) := by decide +kernel
theorem dX7_go_167 : decode cX7_go 167 = .ok (.istore_n 2, 1) := by decide +kernel
theorem dX7_go_168 : decode cX7_go 168 = .ok (.iconst 1, 1) := by decide +kernel
theorem dX7_go_169 : decode cX7_go 169 = .ok (.istore_n 3, 1) := by decide +kernel
theorem dX7_go_170 : decode cX7_go 170 = .ok (.aload_n 0, 1) := by decide +kernel
theorem dX7_go_171 : decode cX7_go 171 = .ok (.lconst 0, 1) := by decide +kernel
theorem dX7_go_172 : decode cX7_go 172 = .ok (.putfield 138, 3) := by decide +kernel
theorem dX7_go_175 : decode cX7_go 175 = .ok (.aload_n 0, 1) := by decide +kernel
theorem dX7_go_176 : decode cX7_go 176 = .ok (.iconst 0, 1) := by decide +kernel
theorem dX7_go_177 : decode cX7_go 177 = .ok (.putfield 142, 3) := by decide +kernel
theorem dX7_go_180 : decode cX7_go 180 = .ok (.aload_n 0, 1) := by decide +kernel
theorem dX7_go_181 : decode cX7_go 181 = .ok (.aload_n 0, 1) := by decide +kernel
theorem dX7_go_182 : decode cX7_go 182 = .ok (.getfield 119, 3) := by decide +kernel
theorem dX7_go_185 : decode cX7_go 185 = .ok (.invokevirtual 145, 3) := by decide +kernel
theorem dX7_go_188 : decode cX7_go 188 = .ok (.invokestatic 131, 3) := by decide +kernel
theorem dX7_go_191 : decode cX7_go 191 = .ok (.ifCond .ne 17, 3) := by decide +kernel
theorem dX7_go_194 : decode cX7_go 194 = .ok (.aload_n 0, 1) := by decide +kernel
theorem dX7_go_195 : decode cX7_go 195 = .ok (.aload_n 0, 1) := by decide +kernel
theorem dX7_go_196 : decode cX7_go 196 = .ok (.getfield 119, 3) := by decide +kernel
theorem dX7_go_199 : decode cX7_go 199 = .ok (.invokevirtual 145, 3) := by decide +kernel
theorem dX7_go_202 : decode cX7_go 202 = .ok (.invokestatic 135, 3) := by decide +kernel
theorem dX7_go_205 : decode cX7_go 205 = .ok (.ifCond .eq 116, 3) := by decide +kernel
theorem dX7_go_208 : decode cX7_go 208 = .ok (.aload_n 0, 1) := by decide +kernel
theorem dX7_go_209 : decode cX7_go 209 = .ok (.getfield 7, 3) := by decide +kernel
theorem dX7_go_212 : decode cX7_go 212 = .ok (.aload_n 0, 1) := by decide +kernel
theorem dX7_go_213 : decode cX7_go 213 = .ok (.getfield 119, 3) := by decide +kernel
theorem dX7_go_216 : decode cX7_go 216 = .ok (.iaload, 1) := by decide +kernel
theorem dX7_go_217 : decode cX7_go 217 = .ok (.istore 4, 2) := by decide +kernel
theorem dX7_go_219 : decode cX7_go 219 = .ok (.iload_n 3, 1) := by decide +kernel
theorem dX7_go_220 : decode cX7_go 220 = .ok (.ifCond .eq 16, 3) := by decide +kernel
theorem dX7_go_223 : decode cX7_go 223 = .ok (.iload 4, 2) := by decide +kernel
theorem dX7_go_225 : decode cX7_go 225 = .ok (.invokestatic 131, 3) := by decide +kernel
theorem dX7_go_228 : decode cX7_go 228 = .ok (.iload_n 2, 1) := by decide +kernel
theorem dX7_go_229 : decode cX7_go 229 = .ok (.if_icmp .ne 7, 3) := by decide +kernel
theorem dX7_go_232 : decode cX7_go 232 = .ok (.iconst 1, 1) := by decide +kernel
theorem dX7_go_233 : decode cX7_go 233 = .ok (.goto 4, 3) := by decide +kernel
theorem dX7_go_236 : decode cX7_go 236 = .ok (.iconst 0, 1) := by decide +kernel
theorem dX7_go_237 : decode cX7_go 237 = .ok (.istore_n 3, 1) := by decide +kernel
theorem dX7_go_238 : decode cX7_go 238 = .ok (.aload_n 0, 1) := by decide +kernel
theorem dX7_go_239 : decode cX7_go 239 = .ok (.aload_n 0, 1) := by decide +kernel
theorem dX7_go_240 : decode cX7_go 240 = .ok (.getfield 119, 3) := by decide +kernel
theorem dX7_go_243 : decode cX7_go 243 = .ok (.aload_n 0, 1) := by decide +kernel
theorem dX7_go_244 : decode cX7_go 244 = .ok (.getfield 122, 3) := by decide +kernel
theorem dX7_go_247 : decode cX7_go 247 = .ok (.isub, 1) := by decide +kernel
theorem dX7_go_248 : decode cX7_go 248 = .ok (.bipush 7, 2) := by decide +kernel
theorem dX7_go_250 : decode cX7_go 250 = .ok (.if_icmp .ge 22, 3) := by decide +kernel
theorem dX7_go_253 : decode cX7_go 253 = .ok (.ldc2_w 149, 3) := by decide +kernel
theorem dX7_go_256 : decode cX7_go 256 = .ok (.aload_n 0, 1) := by decide +kernel
theorem dX7_go_257 : decode cX7_go 257 = .ok (.getfield 138, 3) := by decide +kernel
theorem dX7_go_260 : decode cX7_go 260 = .ok (.lmul, 1) := by decide +kernel
theorem dX7_go_261 : decode cX7_go 261 = .ok (.iload 4, 2) := by decide +kernel
theorem dX7_go_263 : decode cX7_go 263 = .ok (.i2l, 1) := by decide +kernel
theorem dX7_go_264 : decode cX7_go 264 = .ok (.ladd, 1) := by decide +kernel
theorem dX7_go_265 : decode cX7_go 265 = .ok (.ldc2_w 151, 3) := by decide +kernel
theorem dX7_go_268 : decode cX7_go 268 = .ok (.lsub, 1) := by decide +kernel
theorem dX7_go_269 : decode cX7_go 269 = .ok (.goto 6, 3) := by decide +kernel
theorem dX7_go_272 : decode cX7_go 272 = .ok (.ldc2_w 153, 3) := by decide +kernel
theorem dX7_go_275 : decode cX7_go 275 = .ok (.putfield 138, 3) := by decide +kernel
theorem dX7_go_278 : decode cX7_go 278 = .ok (.aload_n 0, 1) := by decide +kernel
theorem dX7_go_279 : decode cX7_go 279 = .ok (.getfield 119, 3) := by decide +kernel
theorem dX7_go_282 : decode cX7_go 282 = .ok (.aload_n 0, 1) := by decide +kernel
theorem dX7_go_283 : decode cX7_go 283 = .ok (.getfield 122, 3) := by decide +kernel
theorem dX7_go_286 : decode cX7_go 286 = .ok (.isub, 1) := by decide +kernel
end
section
theorem dX7_go_287 : decode cX7_go 287 = .ok (.iconst 4, 1) := by decide +kernel
theorem dX7_go_288 : decode cX7_go 288 = .ok (.if_icmp .ge 20, 3) := by decide +kernel
theorem dX7_go_291 : decode cX7_go 291 = .ok (.aload_n 0, 1) := by decide +kernel
theorem dX7_go_292 : decode cX7_go 292 = .ok (.bipush 10, 2) := by decide +kernel
theorem dX7_go_294 : decode cX7_go 294 = .ok (.aload_n 0, 1) := by decide +kernel
theorem dX7_go_295 : decode cX7_go 295 = .ok (.getfield 142, 3) := by decide +kernel
theorem dX7_go_298 : decode cX7_go 298 = .ok (.imul, 1) := by decide +kernel
theorem dX7_go_299 : decode cX7_go 299 = .ok (.iload 4, 2) := by decide +kernel
theorem dX7_go_301 : decode cX7_go 301 = .ok (.iadd, 1) := by decide +kernel
theorem dX7_go_302 : decode cX7_go 302 = .ok (.bipush 48, 2) := by decide +kernel
theorem dX7_go_304 : decode cX7_go 304 = .ok (.isub, 1) := by decide +kernel
theorem dX7_go_305 : decode cX7_go 305 = .ok (.putfield 142, 3) := by decide +kernel
theorem dX7_go_308 : decode cX7_go 308 = .ok (.aload_n 0, 1) := by decide +kernel
theorem dX7_go_309 : decode cX7_go 309 = .ok (.dup, 1) := by decide +kernel
theorem dX7_go_310 : decode cX7_go 310 = .ok (.getfield 119, 3) := by decide +kernel
theorem dX7_go_313 : decode cX7_go 313 = .ok (.iconst 1, 1) := by decide +kernel
theorem dX7_go_314 : decode cX7_go 314 = .ok (.iadd, 1) := by decide +kernel
theorem dX7_go_315 : decode cX7_go 315 = .ok (.putfield 119, 3) := by decide +kernel
theorem dX7_go_318 : decode cX7_go 318 = .ok (.goto (-138), 3) := by decide +kernel
theorem dX7_go_321 : decode cX7_go 321 = .ok (.aload_n 0, 1) := by decide +kernel
theorem dX7_go_322 : decode cX7_go 322 = .ok (.iload_n 3, 1) := by decide +kernel
theorem dX7_go_323 : decode cX7_go 323 = .ok (.ifCond .eq 20, 3) := by decide +kernel
theorem dX7_go_326 : decode cX7_go 326 = .ok (.iload_n 2, 1) := by decide +kernel
theorem dX7_go_327 : decode cX7_go 327 = .ok (.ifCond .ne 20, 3) := by decide +kernel
theorem dX7_go_330 : decode cX7_go 330 = .ok (.aload_n 0, 1) := by decide +kernel
theorem dX7_go_331 : decode cX7_go 331 = .ok (.getfield 119, 3) := by decide +kernel
theorem dX7_go_334 : decode cX7_go 334 = .ok (.aload_n 0, 1) := by decide +kernel
theorem dX7_go_335 : decode cX7_go 335 = .ok (.getfield 122, 3) := by decide +kernel
theorem dX7_go_338 : decode cX7_go 338 = .ok (.isub, 1) := by decide +kernel
theorem dX7_go_339 : decode cX7_go 339 = .ok (.iconst 4, 1) := by decide +kernel
theorem dX7_go_340 : decode cX7_go 340 = .ok (.if_icmp .le 7, 3) := by decide +kernel
theorem dX7_go_343 : decode cX7_go 343 = .ok (.iconst 1, 1) := by decide +kernel
theorem dX7_go_344 : decode cX7_go 344 = .ok (.goto 12, 3) := by decide +kernel
theorem dX7_go_347 : decode cX7_go 347 = .ok (.iload_n 2, 1) := by decide +kernel
theorem dX7_go_348 : decode cX7_go 348 = .ok (.ifCond .eq 7, 3) := by decide +kernel
theorem dX7_go_351 : decode cX7_go 351 = .ok (.iconst 2, 1) := by decide +kernel
theorem dX7_go_352 : decode cX7_go 352 = .ok (.goto 4, 3) := by decide +kernel
theorem dX7_go_355 : decode cX7_go 355 = .ok (.iconst 3, 1) := by decide +kernel
theorem dX7_go_356 : decode cX7_go 356 = .ok (.putfield 128, 3) := by decide +kernel
theorem dX7_go_359 : decode cX7_go 359 = .ok (.return_, 1) := by decide +kernel
theorem dX7_spelt_0 : decode cX7_spelt 0 = .ok (.ldc2_w 149, 3) := by decide +kernel
theorem dX7_spelt_3 : decode cX7_spelt 3 = .ok (.ldc2_w 149, 3) := by decide +kernel
theorem dX7_spelt_6 : decode cX7_spelt 6 = .ok (.iload_n 0, 1) := by decide +kernel
theorem dX7_spelt_7 : decode cX7_spelt 7 = .ok (.i2l, 1) := by decide +kernel
theorem dX7_spelt_8 : decode cX7_spelt 8 = .ok (.ldc2_w 151, 3) := by decide +kernel
theorem dX7_spelt_11 : decode cX7_spelt 11 = .ok (.lsub, 1) := by decide +kernel
theorem dX7_spelt_12 : decode cX7_spelt 12 = .ok (.lmul, 1) := by decide +kernel
theorem dX7_spelt_13 : decode cX7_spelt 13 = .ok (.iload_n 1, 1) := by decide +kernel
theorem dX7_spelt_14 : decode cX7_spelt 14 = .ok (.i2l, 1) := by decide +kernel
theorem dX7_spelt_15 : decode cX7_spelt 15 = .ok (.ladd, 1) := by decide +kernel
theorem dX7_spelt_16 : decode cX7_spelt 16 = .ok (.ldc2_w 151, 3) := by decide +kernel
theorem dX7_spelt_19 : decode cX7_spelt 19 = .ok (.lsub, 1) := by decide +kernel
theorem dX7_spelt_20 : decode cX7_spelt 20 = .ok (.lmul, 1) := by decide +kernel
theorem dX7_spelt_21 : decode cX7_spelt 21 = .ok (.iload_n 2, 1) := by decide +kernel
theorem dX7_spelt_22 : decode cX7_spelt 22 = .ok (.i2l, 1) := by decide +kernel
theorem dX7_spelt_23 : decode cX7_spelt 23 = .ok (.ladd, 1) := by decide +kernel
theorem dX7_spelt_24 : decode cX7_spelt 24 = .ok (.ldc2_w 151, 3) := by decide +kernel
theorem dX7_spelt_27 : decode cX7_spelt 27 = .ok (.lsub, 1) := by decide +kernel
theorem dX7_spelt_28 : decode cX7_spelt 28 = .ok (.lstore 6, 2) := by decide +kernel
theorem dX7_spelt_30 : decode cX7_spelt 30 = .ok (.iload_n 3, 1) := by decide +kernel
theorem dX7_spelt_31 : decode cX7_spelt 31 = .ok (.ifCond .le 18, 3) := by decide +kernel
theorem dX7_spelt_34 : decode cX7_spelt 34 = .ok (.ldc2_w 149, 3) := by decide +kernel
theorem dX7_spelt_37 : decode cX7_spelt 37 = .ok (.lload 6, 2) := by decide +kernel
theorem dX7_spelt_39 : decode cX7_spelt 39 = .ok (.lmul, 1) := by decide +kernel
theorem dX7_spelt_40 : decode cX7_spelt 40 = .ok (.iload_n 3, 1) := by decide +kernel
theorem dX7_spelt_41 : decode cX7_spelt 41 = .ok (.i2l, 1) := by decide +kernel
theorem dX7_spelt_42 : decode cX7_spelt 42 = .ok (.ladd, 1) := by decide +kernel
theorem dX7_spelt_43 : decode cX7_spelt 43 = .ok (.ldc2_w 151, 3) := by decide +kernel
theorem dX7_spelt_46 : decode cX7_spelt 46 = .ok (.lsub, 1) := by decide +kernel
theorem dX7_spelt_47 : decode cX7_spelt 47 = .ok (.lstore 6, 2) := by decide +kernel
theorem dX7_spelt_49 : decode cX7_spelt 49 = .ok (.iload 4, 2) := by decide +kernel
theorem dX7_spelt_51 : decode cX7_spelt 51 = .ok (.ifCond .le 19, 3) := by decide +kernel
theorem dX7_spelt_54 : decode cX7_spelt 54 = .ok (.ldc2_w 149, 3) := by decide +kernel
theorem dX7_spelt_57 : decode cX7_spelt 57 = .ok (.lload 6, 2) := by decide +kernel
theorem dX7_spelt_59 : decode cX7_spelt 59 = .ok (.lmul, 1) := by decide +kernel
theorem dX7_spelt_60 : decode cX7_spelt 60 = .ok (.iload 4, 2) := by decide +kernel
theorem dX7_spelt_62 : decode cX7_spelt 62 = .ok (.i2l, 1) := by decide +kernel
theorem dX7_spelt_63 : decode cX7_spelt 63 = .ok (.ladd, 1) := by decide +kernel
theorem dX7_spelt_64 : decode cX7_spelt 64 = .ok (.ldc2_w 151, 3) := by decide +kernel
theorem dX7_spelt_67 : decode cX7_spelt 67 = .ok (.lsub, 1) := by decide +kernel
theorem dX7_spelt_68 : decode cX7_spelt 68 = .ok (.lstore 6, 2) := by decide +kernel
theorem dX7_spelt_70 : decode cX7_spelt 70 = .ok (.iload 5, 2) := by decide +kernel
theorem dX7_spelt_72 : decode cX7_spelt 72 = .ok (.ifCond .le 20, 3) := by decide +kernel
theorem dX7_spelt_75 : decode cX7_spelt 75 = .ok (.ldc2_w 149, 3) := by decide +kernel
theorem dX7_spelt_78 : decode cX7_spelt 78 = .ok (.lload 6, 2) := by decide +kernel
theorem dX7_spelt_80 : decode cX7_spelt 80 = .ok (.lmul, 1) := by decide +kernel
theorem dX7_spelt_81 : decode cX7_spelt 81 = .ok (.iload 5, 2) := by decide +kernel
theorem dX7_spelt_83 : decode cX7_spelt 83 = .ok (.i2l, 1) := by decide +kernel
theorem dX7_spelt_84 : decode cX7_spelt 84 = .ok (.ladd, 1) := by decide +kernel
theorem dX7_spelt_85 : decode cX7_spelt 85 = .ok (.ldc2_w 151, 3) := by decide +kernel
theorem dX7_spelt_88 : decode cX7_spelt 88 = .ok (.lsub, 1) := by decide +kernel
theorem dX7_spelt_89 : decode cX7_spelt 89 = .ok (.goto 5, 3) := by decide +kernel
theorem dX7_spelt_92 : decode cX7_spelt 92 = .ok (.lload 6, 2) := by decide +kernel
theorem dX7_spelt_94 : decode cX7_spelt 94 = .ok (.lreturn, 1) := by decide +kernel
theorem dX7_isKey_0 : decode cX7_isKey 0 = .ok (.aload_n 0, 1) := by decide +kernel
theorem dX7_isKey_1 : decode cX7_isKey 1 = .ok (.getfield 128, 3) := by decide +kernel
theorem dX7_isKey_4 : decode cX7_isKey 4 = .ok (.iconst 2, 1) := by decide +kernel
theorem dX7_isKey_5 : decode cX7_isKey 5 = .ok (.if_icmp .ne 16, 3) := by decide +kernel
theorem dX7_isKey_8 : decode cX7_isKey 8 = .ok (.aload_n 0, 1) := by decide +kernel
theorem dX7_isKey_9 : decode cX7_isKey 9 = .ok (.getfield 138, 3) := by decide +kernel
theorem dX7_isKey_12 : decode cX7_isKey 12 = .ok (.lload_n 1, 1) := by decide +kernel
theorem dX7_isKey_13 : decode cX7_isKey 13 = .ok (.lcmp, 1) := by decide +kernel
theorem dX7_isKey_14 : decode cX7_isKey 14 = .ok (.ifCond .ne 7, 3) := by decide +kernel
theorem dX7_isKey_17 : decode cX7_isKey 17 = .ok (.iconst 1, 1) := by decide +kernel
theorem dX7_isKey_18 : decode cX7_isKey 18 = .ok (.goto 4, 3) := by decide +kernel
theorem dX7_isKey_21 : decode cX7_isKey 21 = .ok (.iconst 0, 1) := by decide +kernel
theorem dX7_isKey_22 : decode cX7_isKey 22 = .ok (.ireturn, 1) := by decide +kernel
theorem dX7_bad_0 : decode cX7_bad 0 = .ok (.aload_n 0, 1) := by decide +kernel
theorem dX7_bad_1 : decode cX7_bad 1 = .ok (.aload_n 0, 1) := by decide +kernel
theorem dX7_bad_2 : decode cX7_bad 2 = .ok (.getfield 128, 3) := by decide +kernel
theorem dX7_bad_5 : decode cX7_bad 5 = .ok (.iconst 1, 1) := by decide +kernel
theorem dX7_bad_6 : decode cX7_bad 6 = .ok (.if_icmp .ne 7, 3) := by decide +kernel
theorem dX7_bad_9 : decode cX7_bad 9 = .ok (.iconst 1, 1) := by decide +kernel
theorem dX7_bad_10 : decode cX7_bad 10 = .ok (.goto 4, 3) := by decide +kernel
theorem dX7_bad_13 : decode cX7_bad 13 = .ok (.iload_n 1, 1) := by decide +kernel
theorem dX7_bad_14 : decode cX7_bad 14 = .ok (.putfield 155, 3) := by decide +kernel
theorem dX7_bad_17 : decode cX7_bad 17 = .ok (.aload_n 0, 1) := by decide +kernel
theorem dX7_bad_18 : decode cX7_bad 18 = .ok (.aload_n 0, 1) := by decide +kernel
theorem dX7_bad_19 : decode cX7_bad 19 = .ok (.getfield 122, 3) := by decide +kernel
theorem dX7_bad_22 : decode cX7_bad 22 = .ok (.putfield 158, 3) := by decide +kernel
theorem dX7_bad_25 : decode cX7_bad 25 = .ok (.iconst 0, 1) := by decide +kernel
theorem dX7_bad_26 : decode cX7_bad 26 = .ok (.ireturn, 1) := by decide +kernel
theorem dX7_begins_0 : decode cX7_begins 0 = .ok (.aload_n 0, 1) := by decide +kernel
theorem dX7_begins_1 : decode cX7_begins 1 = .ok (.aload_n 0, 1) := by decide +kernel
theorem dX7_begins_2 : decode cX7_begins 2 = .ok (.getfield 109, 3) := by decide +kernel
theorem dX7_begins_5 : decode cX7_begins 5 = .ok (.putfield 116, 3) := by decide +kernel
theorem dX7_begins_8 : decode cX7_begins 8 = .ok (.aload_n 0, 1) := by decide +kernel
theorem dX7_begins_9 : decode cX7_begins 9 = .ok (.iconst 0, 1) := by decide +kernel
theorem dX7_begins_10 : decode cX7_begins 10 = .ok (.putfield 109, 3) := by decide +kernel
theorem dX7_begins_13 : decode cX7_begins 13 = .ok (.aload_n 0, 1) := by decide +kernel
theorem dX7_begins_14 : decode cX7_begins 14 = .ok (.iload_n 1, 1) := by decide +kernel
theorem dX7_begins_15 : decode cX7_begins 15 = .ok (.putfield 125, 3) := by decide +kernel
theorem dX7_begins_18 : decode cX7_begins 18 = .ok (.aload_n 0, 1) := by decide +kernel
theorem dX7_begins_19 : decode cX7_begins 19 = .ok (.iconst 0, 1) := by decide +kernel
theorem dX7_begins_20 : decode cX7_begins 20 = .ok (.putfield 155, 3) := by decide +kernel
theorem dX7_begins_23 : decode cX7_begins 23 = .ok (.aload_n 0, 1) := by decide +kernel
theorem dX7_begins_24 : decode cX7_begins 24 = .ok (.iconst 0, 1) := by decide +kernel
theorem dX7_begins_25 : decode cX7_begins 25 = .ok (.putfield 161, 3) := by decide +kernel
theorem dX7_begins_28 : decode cX7_begins 28 = .ok (.aload_n 0, 1) := by decide +kernel
theorem dX7_begins_29 : decode cX7_begins 29 = .ok (.iconst 0, 1) := by decide +kernel
theorem dX7_begins_30 : decode cX7_begins 30 = .ok (.putfield 119, 3) := by decide +kernel
theorem dX7_begins_33 : decode cX7_begins 33 = .ok (.aload_n 0, 1) := by decide +kernel
theorem dX7_begins_34 : decode cX7_begins 34 = .ok (.invokevirtual 164, 3) := by decide +kernel
theorem dX7_begins_37 : decode cX7_begins 37 = .ok (.return_, 1) := by decide +kernel
theorem dX7_readNumber_0 : decode cX7_readNumber 0 = .ok (.aload_n 0, 1) := by decide +kernel
theorem dX7_readNumber_1 : decode cX7_readNumber 1 = .ok (.getfield 128, 3) := by decide +kernel
theorem dX7_readNumber_4 : decode cX7_readNumber 4 = .ok (.iconst 3, 1) := by decide +kernel
theorem dX7_readNumber_5 : decode cX7_readNumber 5 = .ok (.if_icmp .eq 9, 3) := by decide +kernel
theorem dX7_readNumber_8 : decode cX7_readNumber 8 = .ok (.aload_n 0, 1) := by decide +kernel
theorem dX7_readNumber_9 : decode cX7_readNumber 9 = .ok (.iconst 1, 1) := by decide +kernel
theorem dX7_readNumber_10 : decode cX7_readNumber 10 = .ok (.invokevirtual 167, 3) := by decide +kernel
theorem dX7_readNumber_13 : decode cX7_readNumber 13 = .ok (.ireturn, 1) := by decide +kernel
theorem dX7_readNumber_14 : decode cX7_readNumber 14 = .ok (.aload_n 0, 1) := by decide +kernel
theorem dX7_readNumber_15 : decode cX7_readNumber 15 = .ok (.getfield 142, 3) := by decide +kernel
theorem dX7_readNumber_18 : decode cX7_readNumber 18 = .ok (.iload_n 1, 1) := by decide +kernel
theorem dX7_readNumber_19 : decode cX7_readNumber 19 = .ok (.if_icmp .lt 11, 3) := by decide +kernel
theorem dX7_readNumber_22 : decode cX7_readNumber 22 = .ok (.aload_n 0, 1) := by decide +kernel
theorem dX7_readNumber_23 : decode cX7_readNumber 23 = .ok (.getfield 142, 3) := by decide +kernel
theorem dX7_readNumber_26 : decode cX7_readNumber 26 = .ok (.iload_n 2, 1) := by decide +kernel
theorem dX7_readNumber_27 : decode cX7_readNumber 27 = .ok (.if_icmp .le 11, 3) := by decide +kernel
theorem dX7_readNumber_30 : decode cX7_readNumber 30 = .ok (.aload_n 0, 1) := by decide +kernel
theorem dX7_readNumber_31 : decode cX7_readNumber 31 = .ok (.iconst 2, 1) := by decide +kernel
theorem dX7_readNumber_32 : decode cX7_readNumber 32 = .ok (.invokevirtual 167, 3) := by decide +kernel
theorem dX7_readNumber_35 : decode cX7_readNumber 35 = .ok (.ifCond .eq 7, 3) := by decide +kernel
theorem dX7_readNumber_38 : decode cX7_readNumber 38 = .ok (.iconst 1, 1) := by decide +kernel
theorem dX7_readNumber_39 : decode cX7_readNumber 39 = .ok (.goto 4, 3) := by decide +kernel
theorem dX7_readNumber_42 : decode cX7_readNumber 42 = .ok (.iconst 0, 1) := by decide +kernel
theorem dX7_readNumber_43 : decode cX7_readNumber 43 = .ok (.ireturn, 1) := by decide +kernel
theorem dX7_ruleAtHand_0 : decode cX7_ruleAtHand 0 = .ok (.aload_n 0, 1) := by decide +kernel
theorem dX7_ruleAtHand_1 : decode cX7_ruleAtHand 1 = .ok (.bipush 103, 2) := by decide +kernel
theorem dX7_ruleAtHand_3 : decode cX7_ruleAtHand 3 = .ok (.bipush 97, 2) := by decide +kernel
theorem dX7_ruleAtHand_5 : decode cX7_ruleAtHand 5 = .ok (.bipush 112, 2) := by decide +kernel
theorem dX7_ruleAtHand_7 : decode cX7_ruleAtHand 7 = .ok (.iconst 0, 1) := by decide +kernel
theorem dX7_ruleAtHand_8 : decode cX7_ruleAtHand 8 = .ok (.iconst 0, 1) := by decide +kernel
theorem dX7_ruleAtHand_9 : decode cX7_ruleAtHand 9 = .ok (.iconst 0, 1) := by decide +kernel
theorem dX7_ruleAtHand_10 : decode cX7_ruleAtHand 10 = .ok (.invokestatic 170, 3) := by decide +kernel
theorem dX7_ruleAtHand_13 : decode cX7_ruleAtHand 13 = .ok (.invokevirtual 174, 3) := by decide +kernel
theorem dX7_ruleAtHand_16 : decode cX7_ruleAtHand 16 = .ok (.ifCond .eq 5, 3) := by decide +kernel
theorem dX7_ruleAtHand_19 : decode cX7_ruleAtHand 19 = .ok (.iconst 0, 1) := by decide +kernel
theorem dX7_ruleAtHand_20 : decode cX7_ruleAtHand 20 = .ok (.ireturn, 1) := by decide +kernel
theorem dX7_ruleAtHand_21 : decode cX7_ruleAtHand 21 = .ok (.aload_n 0, 1) := by decide +kernel
theorem dX7_ruleAtHand_22 : decode cX7_ruleAtHand 22 = .ok (.bipush 97, 2) := by decide +kernel
theorem dX7_ruleAtHand_24 : decode cX7_ruleAtHand 24 = .ok (.bipush 114, 2) := by decide +kernel
theorem dX7_ruleAtHand_26 : decode cX7_ruleAtHand 26 = .ok (.bipush 116, 2) := by decide +kernel
theorem dX7_ruleAtHand_28 : decode cX7_ruleAtHand 28 = .ok (.bipush 105, 2) := by decide +kernel
theorem dX7_ruleAtHand_30 : decode cX7_ruleAtHand 30 = .ok (.bipush 115, 2) := by decide +kernel
theorem dX7_ruleAtHand_32 : decode cX7_ruleAtHand 32 = .ok (.bipush 116, 2) := by decide +kernel
theorem dX7_ruleAtHand_34 : decode cX7_ruleAtHand 34 = .ok (.invokestatic 170, 3) := by decide +kernel
theorem dX7_ruleAtHand_37 : decode cX7_ruleAtHand 37 = .ok (.invokevirtual 174, 3) := by decide +kernel
theorem dX7_ruleAtHand_40 : decode cX7_ruleAtHand 40 = .ok (.ifCond .eq 5, 3) := by decide +kernel
theorem dX7_ruleAtHand_43 : decode cX7_ruleAtHand 43 = .ok (.iconst 1, 1) := by decide +kernel
theorem dX7_ruleAtHand_44 : decode cX7_ruleAtHand 44 = .ok (.ireturn, 1) := by decide +kernel
theorem dX7_ruleAtHand_45 : decode cX7_ruleAtHand 45 = .ok (.aload_n 0, 1) := by decide +kernel
theorem dX7_ruleAtHand_46 : decode cX7_ruleAtHand 46 = .ok (.bipush 107, 2) := by decide +kernel
theorem dX7_ruleAtHand_48 : decode cX7_ruleAtHand 48 = .ok (.bipush 101, 2) := by decide +kernel
theorem dX7_ruleAtHand_50 : decode cX7_ruleAtHand 50 = .ok (.bipush 121, 2) := by decide +kernel
theorem dX7_ruleAtHand_52 : decode cX7_ruleAtHand 52 = .ok (.bipush 115, 2) := by decide +kernel
theorem dX7_ruleAtHand_54 : decode cX7_ruleAtHand 54 = .ok (.iconst 0, 1) := by decide +kernel
theorem dX7_ruleAtHand_55 : decode cX7_ruleAtHand 55 = .ok (.iconst 0, 1) := by decide +kernel
theorem dX7_ruleAtHand_56 : decode cX7_ruleAtHand 56 = .ok (.invokestatic 170, 3) := by decide +kernel
theorem dX7_ruleAtHand_59 : decode cX7_ruleAtHand 59 = .ok (.invokevirtual 174, 3) := by decide +kernel
theorem dX7_ruleAtHand_62 : decode cX7_ruleAtHand 62 = .ok (.ifCond .eq 5, 3) := by decide +kernel
theorem dX7_ruleAtHand_65 : decode cX7_ruleAtHand 65 = .ok (.iconst 2, 1) := by decide +kernel
theorem dX7_ruleAtHand_66 : decode cX7_ruleAtHand 66 = .ok (.ireturn, 1) := by decide +kernel
theorem dX7_ruleAtHand_67 : decode cX7_ruleAtHand 67 = .ok (.aload_n 0, 1) := by decide +kernel
theorem dX7_ruleAtHand_68 : decode cX7_ruleAtHand 68 = .ok (.bipush 115, 2) := by decide +kernel
theorem dX7_ruleAtHand_70 : decode cX7_ruleAtHand 70 = .ok (.bipush 108, 2) := by decide +kernel
theorem dX7_ruleAtHand_72 : decode cX7_ruleAtHand 72 = .ok (.bipush 97, 2) := by decide +kernel
theorem dX7_ruleAtHand_74 : decode cX7_ruleAtHand 74 = .ok (.bipush 99, 2) := by decide +kernel
theorem dX7_ruleAtHand_76 : decode cX7_ruleAtHand 76 = .ok (.bipush 107, 2) := by decide +kernel
theorem dX7_ruleAtHand_78 : decode cX7_ruleAtHand 78 = .ok (.iconst 0, 1) := by decide +kernel
theorem dX7_ruleAtHand_79 : decode cX7_ruleAtHand 79 = .ok (.invokestatic 170, 3) := by decide +kernel
theorem dX7_ruleAtHand_82 : decode cX7_ruleAtHand 82 = .ok (.invokevirtual 174, 3) := by decide +kernel
theorem dX7_ruleAtHand_85 : decode cX7_ruleAtHand 85 = .ok (.ifCond .eq 5, 3) := by decide +kernel
theorem dX7_ruleAtHand_88 : decode cX7_ruleAtHand 88 = .ok (.iconst 3, 1) := by decide +kernel
theorem dX7_ruleAtHand_89 : decode cX7_ruleAtHand 89 = .ok (.ireturn, 1) := by decide +kernel
theorem dX7_ruleAtHand_90 : decode cX7_ruleAtHand 90 = .ok (.aload_n 0, 1) := by decide +kernel
theorem dX7_ruleAtHand_91 : decode cX7_ruleAtHand 91 = .ok (.bipush 109, 2) := by decide +kernel
theorem dX7_ruleAtHand_93 : decode cX7_ruleAtHand 93 = .ok (.bipush 111, 2) := by decide +kernel
theorem dX7_ruleAtHand_95 : decode cX7_ruleAtHand 95 = .ok (.bipush 115, 2) := by decide +kernel
theorem dX7_ruleAtHand_97 : decode cX7_ruleAtHand 97 = .ok (.bipush 116, 2) := by decide +kernel
theorem dX7_ruleAtHand_99 : decode cX7_ruleAtHand 99 = .ok (.iconst 0, 1) := by decide +kernel
theorem dX7_ruleAtHand_100 : decode cX7_ruleAtHand 100 = .ok (.iconst 0, 1) := by decide +kernel
theorem dX7_ruleAtHand_101 : decode cX7_ruleAtHand 101 = .ok (.invokestatic 170, 3) := by decide +kernel
theorem dX7_ruleAtHand_104 : decode cX7_ruleAtHand 104 = .ok (.invokevirtual 174, 3) := by decide +kernel
theorem dX7_ruleAtHand_107 : decode cX7_ruleAtHand 107 = .ok (.ifCond .eq 7, 3) := by decide +kernel
theorem dX7_ruleAtHand_110 : decode cX7_ruleAtHand 110 = .ok (.iconst 4, 1) := by decide +kernel
theorem dX7_ruleAtHand_111 : decode cX7_ruleAtHand 111 = .ok (.goto 4, 3) := by decide +kernel
theorem dX7_ruleAtHand_114 : decode cX7_ruleAtHand 114 = .ok (.iconst (-1), 1) := by decide +kernel
theorem dX7_ruleAtHand_115 : decode cX7_ruleAtHand 115 = .ok (.ireturn, 1) := by decide +kernel
theorem dX7_readRule_0 : decode cX7_readRule 0 = .ok (.aload_n 0, 1) := by decide +kernel
theorem dX7_readRule_1 : decode cX7_readRule 1 = .ok (.invokevirtual 178, 3) := by decide +kernel
theorem dX7_readRule_4 : decode cX7_readRule 4 = .ok (.istore_n 1, 1) := by decide +kernel
theorem dX7_readRule_5 : decode cX7_readRule 5 = .ok (.iload_n 1, 1) := by decide +kernel
theorem dX7_readRule_6 : decode cX7_readRule 6 = .ok (.iconst (-1), 1) := by decide +kernel
theorem dX7_readRule_7 : decode cX7_readRule 7 = .ok (.if_icmp .ne 9, 3) := by decide +kernel
theorem dX7_readRule_10 : decode cX7_readRule 10 = .ok (.aload_n 0, 1) := by decide +kernel
theorem dX7_readRule_11 : decode cX7_readRule 11 = .ok (.iconst 1, 1) := by decide +kernel
theorem dX7_readRule_12 : decode cX7_readRule 12 = .ok (.invokevirtual 167, 3) := by decide +kernel
theorem dX7_readRule_15 : decode cX7_readRule 15 = .ok (.ireturn, 1) := by decide +kernel
theorem dX7_readRule_16 : decode cX7_readRule 16 = .ok (.aload_n 0, 1) := by decide +kernel
theorem dX7_readRule_17 : decode cX7_readRule 17 = .ok (.getfield 161, 3) := by decide +kernel
theorem dX7_readRule_20 : decode cX7_readRule 20 = .ok (.iload_n 1, 1) := by decide +kernel
theorem dX7_readRule_21 : decode cX7_readRule 21 = .ok (.ishr, 1) := by decide +kernel
theorem dX7_readRule_22 : decode cX7_readRule 22 = .ok (.iconst 1, 1) := by decide +kernel
theorem dX7_readRule_23 : decode cX7_readRule 23 = .ok (.iand, 1) := by decide +kernel
theorem dX7_readRule_24 : decode cX7_readRule 24 = .ok (.iconst 1, 1) := by decide +kernel
theorem dX7_readRule_25 : decode cX7_readRule 25 = .ok (.if_icmp .ne 9, 3) := by decide +kernel
theorem dX7_readRule_28 : decode cX7_readRule 28 = .ok (.aload_n 0, 1) := by decide +kernel
theorem dX7_readRule_29 : decode cX7_readRule 29 = .ok (.iconst 3, 1) := by decide +kernel
theorem dX7_readRule_30 : decode cX7_readRule 30 = .ok (.invokevirtual 167, 3) := by decide +kernel
theorem dX7_readRule_33 : decode cX7_readRule 33 = .ok (.ireturn, 1) := by decide +kernel
theorem dX7_readRule_34 : decode cX7_readRule 34 = .ok (.aload_n 0, 1) := by decide +kernel
theorem dX7_readRule_35 : decode cX7_readRule 35 = .ok (.invokevirtual 164, 3) := by decide +kernel
theorem dX7_readRule_38 : decode cX7_readRule 38 = .ok (.aload_n 0, 1) := by decide +kernel
theorem dX7_readRule_39 : decode cX7_readRule 39 = .ok (.aload_n 0, 1) := by decide +kernel
theorem dX7_readRule_40 : decode cX7_readRule 40 = .ok (.getfield 22, 3) := by decide +kernel
theorem dX7_readRule_43 : decode cX7_readRule 43 = .ok (.iload_n 1, 1) := by decide +kernel
theorem dX7_readRule_44 : decode cX7_readRule 44 = .ok (.iaload, 1) := by decide +kernel
theorem dX7_readRule_45 : decode cX7_readRule 45 = .ok (.aload_n 0, 1) := by decide +kernel
theorem dX7_readRule_46 : decode cX7_readRule 46 = .ok (.getfield 25, 3) := by decide +kernel
theorem dX7_readRule_49 : decode cX7_readRule 49 = .ok (.iload_n 1, 1) := by decide +kernel
theorem dX7_readRule_50 : decode cX7_readRule 50 = .ok (.iaload, 1) := by decide +kernel
theorem dX7_readRule_51 : decode cX7_readRule 51 = .ok (.invokevirtual 182, 3) := by decide +kernel
theorem dX7_readRule_54 : decode cX7_readRule 54 = .ok (.ifCond .ne 5, 3) := by decide +kernel
theorem dX7_readRule_57 : decode cX7_readRule 57 = .ok (.iconst 0, 1) := by decide +kernel
theorem dX7_readRule_58 : decode cX7_readRule 58 = .ok (.ireturn, 1) := by decide +kernel
theorem dX7_readRule_59 : decode cX7_readRule 59 = .ok (.aload_n 0, 1) := by decide +kernel
theorem dX7_readRule_60 : decode cX7_readRule 60 = .ok (.getfield 19, 3) := by decide +kernel
theorem dX7_readRule_63 : decode cX7_readRule 63 = .ok (.iload_n 1, 1) := by decide +kernel
theorem dX7_readRule_64 : decode cX7_readRule 64 = .ok (.aload_n 0, 1) := by decide +kernel
theorem dX7_readRule_65 : decode cX7_readRule 65 = .ok (.getfield 142, 3) := by decide +kernel
theorem dX7_readRule_68 : decode cX7_readRule 68 = .ok (.iastore, 1) := by decide +kernel
theorem dX7_readRule_69 : decode cX7_readRule 69 = .ok (.aload_n 0, 1) := by decide +kernel
theorem dX7_readRule_70 : decode cX7_readRule 70 = .ok (.dup, 1) := by decide +kernel
theorem dX7_readRule_71 : decode cX7_readRule 71 = .ok (.getfield 161, 3) := by decide +kernel
theorem dX7_readRule_74 : decode cX7_readRule 74 = .ok (.iconst 1, 1) := by decide +kernel
theorem dX7_readRule_75 : decode cX7_readRule 75 = .ok (.iload_n 1, 1) := by decide +kernel
theorem dX7_readRule_76 : decode cX7_readRule 76 = .ok (.ishl, 1) := by decide +kernel
theorem dX7_readRule_77 : decode cX7_readRule 77 = .ok (.ior, 1) := by decide +kernel
theorem dX7_readRule_78 : decode cX7_readRule 78 = .ok (.putfield 161, 3) := by decide +kernel
theorem dX7_readRule_81 : decode cX7_readRule 81 = .ok (.aload_n 0, 1) := by decide +kernel
theorem dX7_readRule_82 : decode cX7_readRule 82 = .ok (.invokevirtual 164, 3) := by decide +kernel
theorem dX7_readRule_85 : decode cX7_readRule 85 = .ok (.aload_n 0, 1) := by decide +kernel
theorem dX7_readRule_86 : decode cX7_readRule 86 = .ok (.getfield 128, 3) := by decide +kernel
theorem dX7_readRule_89 : decode cX7_readRule 89 = .ok (.iconst 4, 1) := by decide +kernel
theorem dX7_readRule_90 : decode cX7_readRule 90 = .ok (.if_icmp .eq 11, 3) := by decide +kernel
theorem dX7_readRule_93 : decode cX7_readRule 93 = .ok (.aload_n 0, 1) := by decide +kernel
theorem dX7_readRule_94 : decode cX7_readRule 94 = .ok (.iconst 1, 1) := by decide +kernel
theorem dX7_readRule_95 : decode cX7_readRule 95 = .ok (.invokevirtual 167, 3) := by decide +kernel
theorem dX7_readRule_98 : decode cX7_readRule 98 = .ok (.ifCond .eq 7, 3) := by decide +kernel
theorem dX7_readRule_101 : decode cX7_readRule 101 = .ok (.iconst 1, 1) := by decide +kernel
theorem dX7_readRule_102 : decode cX7_readRule 102 = .ok (.goto 4, 3) := by decide +kernel
theorem dX7_readRule_105 : decode cX7_readRule 105 = .ok (.iconst 0, 1) := by decide +kernel
theorem dX7_readRule_106 : decode cX7_readRule 106 = .ok (.ireturn, 1) := by decide +kernel
theorem dX7_rules_0 : decode cX7_rules 0 = .ok (.aload_n 0, 1) := by decide +kernel
theorem dX7_rules_1 : decode cX7_rules 1 = .ok (.iconst 0, 1) := by decide +kernel
theorem dX7_rules_2 : decode cX7_rules 2 = .ok (.putfield 105, 3) := by decide +kernel
theorem dX7_rules_5 : decode cX7_rules 5 = .ok (.aload_n 0, 1) := by decide +kernel
theorem dX7_rules_6 : decode cX7_rules 6 = .ok (.bipush 120, 2) := by decide +kernel
theorem dX7_rules_8 : decode cX7_rules 8 = .ok (.invokevirtual 186, 3) := by decide +kernel
theorem dX7_rules_11 : decode cX7_rules 11 = .ok (.iconst 0, 1) := by decide +kernel
theorem dX7_rules_12 : decode cX7_rules 12 = .ok (.istore_n 1, 1) := by decide +kernel
theorem dX7_rules_13 : decode cX7_rules 13 = .ok (.iload_n 1, 1) := by decide +kernel
theorem dX7_rules_14 : decode cX7_rules 14 = .ok (.iconst 5, 1) := by decide +kernel
theorem dX7_rules_15 : decode cX7_rules 15 = .ok (.if_icmp .ge 21, 3) := by decide +kernel
theorem dX7_rules_18 : decode cX7_rules 18 = .ok (.aload_n 0, 1) := by decide +kernel
theorem dX7_rules_19 : decode cX7_rules 19 = .ok (.getfield 19, 3) := by decide +kernel
theorem dX7_rules_22 : decode cX7_rules 22 = .ok (.iload_n 1, 1) := by decide +kernel
theorem dX7_rules_23 : decode cX7_rules 23 = .ok (.aload_n 0, 1) := by decide +kernel
theorem dX7_rules_24 : decode cX7_rules 24 = .ok (.getfield 16, 3) := by decide +kernel
theorem dX7_rules_27 : decode cX7_rules 27 = .ok (.iload_n 1, 1) := by decide +kernel
theorem dX7_rules_28 : decode cX7_rules 28 = .ok (.iaload, 1) := by decide +kernel
theorem dX7_rules_29 : decode cX7_rules 29 = .ok (.iastore, 1) := by decide +kernel
theorem dX7_rules_30 : decode cX7_rules 30 = .ok (.iinc 1 1, 3) := by decide +kernel
theorem dX7_rules_33 : decode cX7_rules 33 = .ok (.goto (-20), 3) := by decide +kernel
theorem dX7_rules_36 : decode cX7_rules 36 = .ok (.iconst 0, 1) := by decide +kernel
theorem dX7_rules_37 : decode cX7_rules 37 = .ok (.istore_n 1, 1) := by decide +kernel
theorem dX7_rules_38 : decode cX7_rules 38 = .ok (.aload_n 0, 1) := by decide +kernel
theorem dX7_rules_39 : decode cX7_rules 39 = .ok (.getfield 128, 3) := by decide +kernel
theorem dX7_rules_42 : decode cX7_rules 42 = .ok (.ifCond .eq 27, 3) := by decide +kernel
theorem dX7_rules_45 : decode cX7_rules 45 = .ok (.aload_n 0, 1) := by decide +kernel
theorem dX7_rules_46 : decode cX7_rules 46 = .ok (.invokevirtual 189, 3) := by decide +kernel
theorem dX7_rules_49 : decode cX7_rules 49 = .ok (.ifCond .ne 10, 3) := by decide +kernel
theorem dX7_rules_52 : decode cX7_rules 52 = .ok (.iconst (-1), 1) := by decide +kernel
theorem dX7_rules_53 : decode cX7_rules 53 = .ok (.aload_n 0, 1) := by decide +kernel
theorem dX7_rules_54 : decode cX7_rules 54 = .ok (.getfield 158, 3) := by decide +kernel
theorem dX7_rules_57 : decode cX7_rules 57 = .ok (.isub, 1) := by decide +kernel
theorem dX7_rules_58 : decode cX7_rules 58 = .ok (.ireturn, 1) := by decide +kernel
theorem dX7_rules_59 : decode cX7_rules 59 = .ok (.iinc 1 1, 3) := by decide +kernel
theorem dX7_rules_62 : decode cX7_rules 62 = .ok (.aload_n 0, 1) := by decide +kernel
theorem dX7_rules_63 : decode cX7_rules 63 = .ok (.invokevirtual 164, 3) := by decide +kernel
theorem dX7_rules_66 : decode cX7_rules 66 = .ok (.goto (-28), 3) := by decide +kernel
theorem dX7_rules_69 : decode cX7_rules 69 = .ok (.iconst 0, 1) := by decide +kernel
theorem dX7_rules_70 : decode cX7_rules 70 = .ok (.istore_n 2, 1) := by decide +kernel
theorem dX7_rules_71 : decode cX7_rules 71 = .ok (.iload_n 2, 1) := by decide +kernel
theorem dX7_rules_72 : decode cX7_rules 72 = .ok (.iconst 5, 1) := by decide +kernel
theorem dX7_rules_73 : decode cX7_rules 73 = .ok (.if_icmp .ge 21, 3) := by decide +kernel
theorem dX7_rules_76 : decode cX7_rules 76 = .ok (.aload_n 0, 1) := by decide +kernel
theorem dX7_rules_77 : decode cX7_rules 77 = .ok (.getfield 13, 3) := by decide +kernel
theorem dX7_rules_80 : decode cX7_rules 80 = .ok (.iload_n 2, 1) := by decide +kernel
theorem dX7_rules_81 : decode cX7_rules 81 = .ok (.aload_n 0, 1) := by decide +kernel
theorem dX7_rules_82 : decode cX7_rules 82 = .ok (.getfield 19, 3) := by decide +kernel
theorem dX7_rules_85 : decode cX7_rules 85 = .ok (.iload_n 2, 1) := by decide +kernel
theorem dX7_rules_86 : decode cX7_rules 86 = .ok (.iaload, 1) := by decide +kernel
theorem dX7_rules_87 : decode cX7_rules 87 = .ok (.iastore, 1) := by decide +kernel
theorem dX7_rules_88 : decode cX7_rules 88 = .ok (.iinc 2 1, 3) := by decide +kernel
theorem dX7_rules_91 : decode cX7_rules 91 = .ok (.goto (-20), 3) := by decide +kernel
theorem dX7_rules_94 : decode cX7_rules 94 = .ok (.iload_n 1, 1) := by decide +kernel
theorem dX7_rules_95 : decode cX7_rules 95 = .ok (.ireturn, 1) := by decide +kernel
theorem dX7_readItem_0 : decode cX7_readItem 0 = .ok (.aload_n 0, 1) := by decide +kernel
theorem dX7_readItem_1 : decode cX7_readItem 1 = .ok (.bipush 115, 2) := by decide +kernel
theorem dX7_readItem_3 : decode cX7_readItem 3 = .ok (.bipush 111, 2) := by decide +kernel
theorem dX7_readItem_5 : decode cX7_readItem 5 = .ok (.bipush 110, 2) := by decide +kernel
theorem dX7_readItem_7 : decode cX7_readItem 7 = .ok (.bipush 103, 2) := by decide +kernel
theorem dX7_readItem_9 : decode cX7_readItem 9 = .ok (.bipush 115, 2) := by decide +kernel
theorem dX7_readItem_11 : decode cX7_readItem 11 = .ok (.iconst 0, 1) := by decide +kernel
theorem dX7_readItem_12 : decode cX7_readItem 12 = .ok (.invokestatic 170, 3) := by decide +kernel
theorem dX7_readItem_15 : decode cX7_readItem 15 = .ok (.invokevirtual 174, 3) := by decide +kernel
theorem dX7_readItem_18 : decode cX7_readItem 18 = .ok (.istore_n 1, 1) := by decide +kernel
theorem dX7_readItem_19 : decode cX7_readItem 19 = .ok (.iload_n 1, 1) := by decide +kernel
theorem dX7_readItem_20 : decode cX7_readItem 20 = .ok (.ifCond .ne 29, 3) := by decide +kernel
theorem dX7_readItem_23 : decode cX7_readItem 23 = .ok (.aload_n 0, 1) := by decide +kernel
theorem dX7_readItem_24 : decode cX7_readItem 24 = .ok (.bipush 116, 2) := by decide +kernel
theorem dX7_readItem_26 : decode cX7_readItem 26 = .ok (.bipush 97, 2) := by decide +kernel
theorem dX7_readItem_28 : decode cX7_readItem 28 = .ok (.bipush 108, 2) := by decide +kernel
theorem dX7_readItem_30 : decode cX7_readItem 30 = .ok (.bipush 107, 2) := by decide +kernel
theorem dX7_readItem_32 : decode cX7_readItem 32 = .ok (.iconst 0, 1) := by decide +kernel
theorem dX7_readItem_33 : decode cX7_readItem 33 = .ok (.iconst 0, 1) := by decide +kernel
theorem dX7_readItem_34 : decode cX7_readItem 34 = .ok (.invokestatic 170, 3) := by decide +kernel
theorem dX7_readItem_37 : decode cX7_readItem 37 = .ok (.invokevirtual 174, 3) := by decide +kernel
theorem dX7_readItem_40 : decode cX7_readItem 40 = .ok (.ifCond .ne 9, 3) := by decide +kernel
theorem dX7_readItem_43 : decode cX7_readItem 43 = .ok (.aload_n 0, 1) := by decide +kernel
theorem dX7_readItem_44 : decode cX7_readItem 44 = .ok (.iconst 1, 1) := by decide +kernel
theorem dX7_readItem_45 : decode cX7_readItem 45 = .ok (.invokevirtual 167, 3) := by decide +kernel
theorem dX7_readItem_48 : decode cX7_readItem 48 = .ok (.ireturn, 1) := by decide +kernel
theorem dX7_readItem_49 : decode cX7_readItem 49 = .ok (.aload_n 0, 1) := by decide +kernel
theorem dX7_readItem_50 : decode cX7_readItem 50 = .ok (.getfield 28, 3) := by decide +kernel
theorem dX7_readItem_53 : decode cX7_readItem 53 = .ok (.bipush 6, 2) := by decide +kernel
theorem dX7_readItem_55 : decode cX7_readItem 55 = .ok (.iaload, 1) := by decide +kernel
theorem dX7_readItem_56 : decode cX7_readItem 56 = .ok (.bipush 8, 2) := by decide +kernel
theorem dX7_readItem_58 : decode cX7_readItem 58 = .ok (.if_icmp .ne 9, 3) := by decide +kernel
theorem dX7_readItem_61 : decode cX7_readItem 61 = .ok (.aload_n 0, 1) := by decide +kernel
theorem dX7_readItem_62 : decode cX7_readItem 62 = .ok (.iconst 3, 1) := by decide +kernel
theorem dX7_readItem_63 : decode cX7_readItem 63 = .ok (.invokevirtual 167, 3) := by decide +kernel
theorem dX7_readItem_66 : decode cX7_readItem 66 = .ok (.ireturn, 1) := by decide +kernel
theorem dX7_readItem_67 : decode cX7_readItem 67 = .ok (.bipush 48, 2) := by decide +kernel
theorem dX7_readItem_69 : decode cX7_readItem 69 = .ok (.aload_n 0, 1) := by decide +kernel
theorem dX7_readItem_70 : decode cX7_readItem 70 = .ok (.getfield 28, 3) := by decide +kernel
theorem dX7_readItem_73 : decode cX7_readItem 73 = .ok (.bipush 6, 2) := by decide +kernel
theorem dX7_readItem_75 : decode cX7_readItem 75 = .ok (.iaload, 1) := by decide +kernel
theorem dX7_readItem_76 : decode cX7_readItem 76 = .ok (.iadd, 1) := by decide +kernel
theorem dX7_readItem_77 : decode cX7_readItem 77 = .ok (.istore_n 2, 1) := by decide +kernel
theorem dX7_readItem_78 : decode cX7_readItem 78 = .ok (.aload_n 0, 1) := by decide +kernel
theorem dX7_readItem_79 : decode cX7_readItem 79 = .ok (.invokevirtual 164, 3) := by decide +kernel
theorem dX7_readItem_82 : decode cX7_readItem 82 = .ok (.aload_n 0, 1) := by decide +kernel
theorem dX7_readItem_83 : decode cX7_readItem 83 = .ok (.iconst 1, 1) := by decide +kernel
theorem dX7_readItem_84 : decode cX7_readItem 84 = .ok (.sipush 3600, 3) := by decide +kernel
theorem dX7_readItem_87 : decode cX7_readItem 87 = .ok (.invokevirtual 182, 3) := by decide +kernel
theorem dX7_readItem_90 : decode cX7_readItem 90 = .ok (.ifCond .ne 5, 3) := by decide +kernel
theorem dX7_readItem_93 : decode cX7_readItem 93 = .ok (.iconst 0, 1) := by decide +kernel
theorem dX7_readItem_94 : decode cX7_readItem 94 = .ok (.ireturn, 1) := by decide +kernel
theorem dX7_readItem_95 : decode cX7_readItem 95 = .ok (.aload_n 0, 1) := by decide +kernel
theorem dX7_readItem_96 : decode cX7_readItem 96 = .ok (.dup, 1) := by decide +kernel
theorem dX7_readItem_97 : decode cX7_readItem 97 = .ok (.getfield 193, 3) := by decide +kernel
theorem dX7_readItem_100 : decode cX7_readItem 100 = .ok (.aload_n 0, 1) := by decide +kernel
theorem dX7_readItem_101 : decode cX7_readItem 101 = .ok (.getfield 142, 3) := by decide +kernel
theorem dX7_readItem_104 : decode cX7_readItem 104 = .ok (.iadd, 1) := by decide +kernel
theorem dX7_readItem_105 : decode cX7_readItem 105 = .ok (.putfield 193, 3) := by decide +kernel
theorem dX7_readItem_108 : decode cX7_readItem 108 = .ok (.aload_n 0, 1) := by decide +kernel
theorem dX7_readItem_109 : decode cX7_readItem 109 = .ok (.getfield 193, 3) := by decide +kernel
theorem dX7_readItem_112 : decode cX7_readItem 112 = .ok (.sipush 3600, 3) := by decide +kernel
theorem dX7_readItem_115 : decode cX7_readItem 115 = .ok (.if_icmp .le 9, 3) := by decide +kernel
theorem dX7_readItem_118 : decode cX7_readItem 118 = .ok (.aload_n 0, 1) := by decide +kernel
theorem dX7_readItem_119 : decode cX7_readItem 119 = .ok (.iconst 3, 1) := by decide +kernel
theorem dX7_readItem_120 : decode cX7_readItem 120 = .ok (.invokevirtual 167, 3) := by decide +kernel
theorem dX7_readItem_123 : decode cX7_readItem 123 = .ok (.ireturn, 1) := by decide +kernel
theorem dX7_readItem_124 : decode cX7_readItem 124 = .ok (.aload_n 0, 1) := by decide +kernel
theorem dX7_readItem_125 : decode cX7_readItem 125 = .ok (.getfield 31, 3) := by decide +kernel
theorem dX7_readItem_128 : decode cX7_readItem 128 = .ok (.iload_n 2, 1) := by decide +kernel
theorem dX7_readItem_129 : decode cX7_readItem 129 = .ok (.aload_n 0, 1) := by decide +kernel
theorem dX7_readItem_130 : decode cX7_readItem 130 = .ok (.getfield 142, 3) := by decide +kernel
theorem dX7_readItem_133 : decode cX7_readItem 133 = .ok (.iastore, 1) := by decide +kernel
theorem dX7_readItem_134 : decode cX7_readItem 134 = .ok (.aload_n 0, 1) := by decide +kernel
theorem dX7_readItem_135 : decode cX7_readItem 135 = .ok (.getfield 34, 3) := by decide +kernel
theorem dX7_readItem_138 : decode cX7_readItem 138 = .ok (.iload_n 2, 1) := by decide +kernel
theorem dX7_readItem_139 : decode cX7_readItem 139 = .ok (.iconst (-1), 1) := by decide +kernel
theorem dX7_readItem_140 : decode cX7_readItem 140 = .ok (.iastore, 1) := by decide +kernel
theorem dX7_readItem_141 : decode cX7_readItem 141 = .ok (.aload_n 0, 1) := by decide +kernel
theorem dX7_readItem_142 : decode cX7_readItem 142 = .ok (.getfield 37, 3) := by decide +kernel
theorem dX7_readItem_145 : decode cX7_readItem 145 = .ok (.iload_n 2, 1) := by decide +kernel
theorem dX7_readItem_146 : decode cX7_readItem 146 = .ok (.iload_n 1, 1) := by decide +kernel
theorem dX7_readItem_147 : decode cX7_readItem 147 = .ok (.ifCond .eq 7, 3) := by decide +kernel
theorem dX7_readItem_150 : decode cX7_readItem 150 = .ok (.iconst 0, 1) := by decide +kernel
theorem dX7_readItem_151 : decode cX7_readItem 151 = .ok (.goto 4, 3) := by decide +kernel
theorem dX7_readItem_154 : decode cX7_readItem 154 = .ok (.iconst (-1), 1) := by decide +kernel
theorem dX7_readItem_155 : decode cX7_readItem 155 = .ok (.iastore, 1) := by decide +kernel
theorem dX7_readItem_156 : decode cX7_readItem 156 = .ok (.aload_n 0, 1) := by decide +kernel
theorem dX7_readItem_157 : decode cX7_readItem 157 = .ok (.invokevirtual 164, 3) := by decide +kernel
theorem dX7_readItem_160 : decode cX7_readItem 160 = .ok (.iload_n 1, 1) := by decide +kernel
theorem dX7_readItem_161 : decode cX7_readItem 161 = .ok (.ifCond .eq 52, 3) := by decide +kernel
theorem dX7_readItem_164 : decode cX7_readItem 164 = .ok (.aload_n 0, 1) := by decide +kernel
theorem dX7_readItem_165 : decode cX7_readItem 165 = .ok (.bipush 109, 2) := by decide +kernel
theorem dX7_readItem_167 : decode cX7_readItem 167 = .ok (.bipush 111, 2) := by decide +kernel
theorem dX7_readItem_169 : decode cX7_readItem 169 = .ok (.bipush 111, 2) := by decide +kernel
theorem dX7_readItem_171 : decode cX7_readItem 171 = .ok (.bipush 100, 2) := by decide +kernel
theorem dX7_readItem_173 : decode cX7_readItem 173 = .ok (.iconst 0, 1) := by decide +kernel
theorem dX7_readItem_174 : decode cX7_readItem 174 = .ok (.iconst 0, 1) := by decide +kernel
theorem dX7_readItem_175 : decode cX7_readItem 175 = .ok (.invokestatic 170, 3) := by decide +kernel
theorem dX7_readItem_178 : decode cX7_readItem 178 = .ok (.invokevirtual 174, 3) := by decide +kernel
theorem dX7_readItem_181 : decode cX7_readItem 181 = .ok (.ifCond .eq 32, 3) := by decide +kernel
theorem dX7_readItem_184 : decode cX7_readItem 184 = .ok (.aload_n 0, 1) := by decide +kernel
theorem dX7_readItem_185 : decode cX7_readItem 185 = .ok (.invokevirtual 164, 3) := by decide +kernel
theorem dX7_readItem_188 : decode cX7_readItem 188 = .ok (.aload_n 0, 1) := by decide +kernel
theorem dX7_readItem_189 : decode cX7_readItem 189 = .ok (.iconst 0, 1) := by decide +kernel
theorem dX7_readItem_190 : decode cX7_readItem 190 = .ok (.iconst 3, 1) := by decide +kernel
theorem dX7_readItem_191 : decode cX7_readItem 191 = .ok (.invokevirtual 182, 3) := by decide +kernel
theorem dX7_readItem_194 : decode cX7_readItem 194 = .ok (.ifCond .ne 5, 3) := by decide +kernel
theorem dX7_readItem_197 : decode cX7_readItem 197 = .ok (.iconst 0, 1) := by decide +kernel
theorem dX7_readItem_198 : decode cX7_readItem 198 = .ok (.ireturn, 1) := by decide +kernel
theorem dX7_readItem_199 : decode cX7_readItem 199 = .ok (.aload_n 0, 1) := by decide +kernel
theorem dX7_readItem_200 : decode cX7_readItem 200 = .ok (.getfield 34, 3) := by decide +kernel
theorem dX7_readItem_203 : decode cX7_readItem 203 = .ok (.iload_n 2, 1) := by decide +kernel
theorem dX7_readItem_204 : decode cX7_readItem 204 = .ok (.aload_n 0, 1) := by decide +kernel
theorem dX7_readItem_205 : decode cX7_readItem 205 = .ok (.getfield 142, 3) := by decide +kernel
theorem dX7_readItem_208 : decode cX7_readItem 208 = .ok (.iastore, 1) := by decide +kernel
theorem dX7_readItem_209 : decode cX7_readItem 209 = .ok (.aload_n 0, 1) := by decide +kernel
theorem dX7_readItem_210 : decode cX7_readItem 210 = .ok (.invokevirtual 164, 3) := by decide +kernel
theorem dX7_readItem_213 : decode cX7_readItem 213 = .ok (.iload_n 1, 1) := by decide +kernel
theorem dX7_readItem_214 : decode cX7_readItem 214 = .ok (.ifCond .eq 51, 3) := by decide +kernel
theorem dX7_readItem_217 : decode cX7_readItem 217 = .ok (.aload_n 0, 1) := by decide +kernel
theorem dX7_readItem_218 : decode cX7_readItem 218 = .ok (.bipush 110, 2) := by decide +kernel
theorem dX7_readItem_220 : decode cX7_readItem 220 = .ok (.bipush 101, 2) := by decide +kernel
theorem dX7_readItem_222 : decode cX7_readItem 222 = .ok (.bipush 119, 2) := by decide +kernel
theorem dX7_readItem_224 : decode cX7_readItem 224 = .ok (.iconst 0, 1) := by decide +kernel
theorem dX7_readItem_225 : decode cX7_readItem 225 = .ok (.iconst 0, 1) := by decide +kernel
theorem dX7_readItem_226 : decode cX7_readItem 226 = .ok (.iconst 0, 1) := by decide +kernel
theorem dX7_readItem_227 : decode cX7_readItem 227 = .ok (.invokestatic 170, 3) := by decide +kernel
theorem dX7_readItem_230 : decode cX7_readItem 230 = .ok (.invokevirtual 174, 3) := by decide +kernel
theorem dX7_readItem_233 : decode cX7_readItem 233 = .ok (.ifCond .eq 32, 3) := by decide +kernel
theorem dX7_readItem_236 : decode cX7_readItem 236 = .ok (.aload_n 0, 1) := by decide +kernel
theorem dX7_readItem_237 : decode cX7_readItem 237 = .ok (.invokevirtual 164, 3) := by decide +kernel
theorem dX7_readItem_240 : decode cX7_readItem 240 = .ok (.aload_n 0, 1) := by decide +kernel
theorem dX7_readItem_241 : decode cX7_readItem 241 = .ok (.iconst 0, 1) := by decide +kernel
theorem dX7_readItem_242 : decode cX7_readItem 242 = .ok (.iconst 4, 1) := by decide +kernel
theorem dX7_readItem_243 : decode cX7_readItem 243 = .ok (.invokevirtual 182, 3) := by decide +kernel
theorem dX7_readItem_246 : decode cX7_readItem 246 = .ok (.ifCond .ne 5, 3) := by decide +kernel
theorem dX7_readItem_249 : decode cX7_readItem 249 = .ok (.iconst 0, 1) := by decide +kernel
theorem dX7_readItem_250 : decode cX7_readItem 250 = .ok (.ireturn, 1) := by decide +kernel
theorem dX7_readItem_251 : decode cX7_readItem 251 = .ok (.aload_n 0, 1) := by decide +kernel
theorem dX7_readItem_252 : decode cX7_readItem 252 = .ok (.getfield 37, 3) := by decide +kernel
theorem dX7_readItem_255 : decode cX7_readItem 255 = .ok (.iload_n 2, 1) := by decide +kernel
theorem dX7_readItem_256 : decode cX7_readItem 256 = .ok (.aload_n 0, 1) := by decide +kernel
theorem dX7_readItem_257 : decode cX7_readItem 257 = .ok (.getfield 142, 3) := by decide +kernel
theorem dX7_readItem_260 : decode cX7_readItem 260 = .ok (.iastore, 1) := by decide +kernel
theorem dX7_readItem_261 : decode cX7_readItem 261 = .ok (.aload_n 0, 1) := by decide +kernel
theorem dX7_readItem_262 : decode cX7_readItem 262 = .ok (.invokevirtual 164, 3) := by decide +kernel
theorem dX7_readItem_265 : decode cX7_readItem 265 = .ok (.aload_n 0, 1) := by decide +kernel
theorem dX7_readItem_266 : decode cX7_readItem 266 = .ok (.getfield 128, 3) := by decide +kernel
theorem dX7_readItem_269 : decode cX7_readItem 269 = .ok (.iconst 4, 1) := by decide +kernel
theorem dX7_readItem_270 : decode cX7_readItem 270 = .ok (.if_icmp .eq 9, 3) := by decide +kernel
theorem dX7_readItem_273 : decode cX7_readItem 273 = .ok (.aload_n 0, 1) := by decide +kernel
theorem dX7_readItem_274 : decode cX7_readItem 274 = .ok (.iconst 1, 1) := by decide +kernel
theorem dX7_readItem_275 : decode cX7_readItem 275 = .ok (.invokevirtual 167, 3) := by decide +kernel
theorem dX7_readItem_278 : decode cX7_readItem 278 = .ok (.ireturn, 1) := by decide +kernel
theorem dX7_readItem_279 : decode cX7_readItem 279 = .ok (.aload_n 0, 1) := by decide +kernel
theorem dX7_readItem_280 : decode cX7_readItem 280 = .ok (.getfield 28, 3) := by decide +kernel
theorem dX7_readItem_283 : decode cX7_readItem 283 = .ok (.bipush 6, 2) := by decide +kernel
theorem dX7_readItem_285 : decode cX7_readItem 285 = .ok (.dup2, 1) := by decide +kernel
theorem dX7_readItem_286 : decode cX7_readItem 286 = .ok (.iaload, 1) := by decide +kernel
theorem dX7_readItem_287 : decode cX7_readItem 287 = .ok (.iconst 1, 1) := by decide +kernel
theorem dX7_readItem_288 : decode cX7_readItem 288 = .ok (.iadd, 1) := by decide +kernel
theorem dX7_readItem_289 : decode cX7_readItem 289 = .ok (.iastore, 1) := by decide +kernel
theorem dX7_readItem_290 : decode cX7_readItem 290 = .ok (.aload_n 0, 1) := by decide +kernel
theorem dX7_readItem_291 : decode cX7_readItem 291 = .ok (.invokevirtual 164, 3) := by decide +kernel
theorem dX7_readItem_294 : decode cX7_readItem 294 = .ok (.iconst 1, 1) := by decide +kernel
theorem dX7_readItem_295 : decode cX7_readItem 295 = .ok (.ireturn, 1) := by decide +kernel
theorem dX7_isClock_0 : decode cX7_isClock 0 = .ok (.iload_n 0, 1) := by decide +kernel
theorem dX7_isClock_1 : decode cX7_isClock 1 = .ok (.ifCond .lt 13, 3) := by decide +kernel
theorem dX7_isClock_4 : decode cX7_isClock 4 = .ok (.iload_n 0, 1) := by decide +kernel
theorem dX7_isClock_5 : decode cX7_isClock 5 = .ok (.bipush 6, 2) := by decide +kernel
theorem dX7_isClock_7 : decode cX7_isClock 7 = .ok (.if_icmp .ge 7, 3) := by decide +kernel
theorem dX7_isClock_10 : decode cX7_isClock 10 = .ok (.iconst 1, 1) := by decide +kernel
theorem dX7_isClock_11 : decode cX7_isClock 11 = .ok (.goto 4, 3) := by decide +kernel
theorem dX7_isClock_14 : decode cX7_isClock 14 = .ok (.iconst 0, 1) := by decide +kernel
theorem dX7_isClock_15 : decode cX7_isClock 15 = .ok (.ireturn, 1) := by decide +kernel
theorem dX7_clock_0 : decode cX7_clock 0 = .ok (.iload_n 1, 1) := by decide +kernel
theorem dX7_clock_1 : decode cX7_clock 1 = .ok (.invokestatic 196, 3) := by decide +kernel
theorem dX7_clock_4 : decode cX7_clock 4 = .ok (.ifCond .ne 8, 3) := by decide +kernel
theorem dX7_clock_7 : decode cX7_clock 7 = .ok (.aload_n 0, 1) := by decide +kernel
theorem dX7_clock_8 : decode cX7_clock 8 = .ok (.invokevirtual 199, 3) := by decide +kernel
theorem dX7_clock_11 : decode cX7_clock 11 = .ok (.ireturn, 1) := by decide +kernel
theorem dX7_clock_12 : decode cX7_clock 12 = .ok (.aload_n 0, 1) := by decide +kernel
theorem dX7_clock_13 : decode cX7_clock 13 = .ok (.iconst 0, 1) := by decide +kernel
theorem dX7_clock_14 : decode cX7_clock 14 = .ok (.putfield 105, 3) := by decide +kernel
theorem dX7_clock_17 : decode cX7_clock 17 = .ok (.aload_n 0, 1) := by decide +kernel
theorem dX7_clock_18 : decode cX7_clock 18 = .ok (.sipush 240, 3) := by decide +kernel
theorem dX7_clock_21 : decode cX7_clock 21 = .ok (.invokevirtual 186, 3) := by decide +kernel
theorem dX7_clock_24 : decode cX7_clock 24 = .ok (.aload_n 0, 1) := by decide +kernel
theorem dX7_clock_25 : decode cX7_clock 25 = .ok (.getfield 28, 3) := by decide +kernel
theorem dX7_clock_28 : decode cX7_clock 28 = .ok (.bipush 6, 2) := by decide +kernel
theorem dX7_clock_30 : decode cX7_clock 30 = .ok (.iconst 0, 1) := by decide +kernel
theorem dX7_clock_31 : decode cX7_clock 31 = .ok (.iastore, 1) := by decide +kernel
theorem dX7_clock_32 : decode cX7_clock 32 = .ok (.aload_n 0, 1) := by decide +kernel
theorem dX7_clock_33 : decode cX7_clock 33 = .ok (.iconst 0, 1) := by decide +kernel
theorem dX7_clock_34 : decode cX7_clock 34 = .ok (.putfield 193, 3) := by decide +kernel
theorem dX7_clock_37 : decode cX7_clock 37 = .ok (.aload_n 0, 1) := by decide +kernel
theorem dX7_clock_38 : decode cX7_clock 38 = .ok (.getfield 128, 3) := by decide +kernel
theorem dX7_clock_41 : decode cX7_clock 41 = .ok (.ifCond .eq 17, 3) := by decide +kernel
theorem dX7_clock_44 : decode cX7_clock 44 = .ok (.aload_n 0, 1) := by decide +kernel
theorem dX7_clock_45 : decode cX7_clock 45 = .ok (.invokevirtual 202, 3) := by decide +kernel
theorem dX7_clock_48 : decode cX7_clock 48 = .ok (.ifCond .ne (-11), 3) := by decide +kernel
theorem dX7_clock_51 : decode cX7_clock 51 = .ok (.iconst (-1), 1) := by decide +kernel
theorem dX7_clock_52 : decode cX7_clock 52 = .ok (.aload_n 0, 1) := by decide +kernel
theorem dX7_clock_53 : decode cX7_clock 53 = .ok (.getfield 158, 3) := by decide +kernel
theorem dX7_clock_56 : decode cX7_clock 56 = .ok (.isub, 1) := by decide +kernel
theorem dX7_clock_57 : decode cX7_clock 57 = .ok (.ireturn, 1) := by decide +kernel
theorem dX7_clock_58 : decode cX7_clock 58 = .ok (.aload_n 0, 1) := by decide +kernel
theorem dX7_clock_59 : decode cX7_clock 59 = .ok (.getfield 193, 3) := by decide +kernel
theorem dX7_clock_62 : decode cX7_clock 62 = .ok (.sipush 3600, 3) := by decide +kernel
theorem dX7_clock_65 : decode cX7_clock 65 = .ok (.if_icmp .ge 15, 3) := by decide +kernel
theorem dX7_clock_68 : decode cX7_clock 68 = .ok (.aload_n 0, 1) := by decide +kernel
theorem dX7_clock_69 : decode cX7_clock 69 = .ok (.iconst 4, 1) := by decide +kernel
theorem dX7_clock_70 : decode cX7_clock 70 = .ok (.putfield 155, 3) := by decide +kernel
theorem dX7_clock_73 : decode cX7_clock 73 = .ok (.iconst (-1), 1) := by decide +kernel
theorem dX7_clock_74 : decode cX7_clock 74 = .ok (.aload_n 0, 1) := by decide +kernel
theorem dX7_clock_75 : decode cX7_clock 75 = .ok (.getfield 116, 3) := by decide +kernel
theorem dX7_clock_78 : decode cX7_clock 78 = .ok (.isub, 1) := by decide +kernel
theorem dX7_clock_79 : decode cX7_clock 79 = .ok (.ireturn, 1) := by decide +kernel
theorem dX7_clock_80 : decode cX7_clock 80 = .ok (.aload_n 0, 1) := by decide +kernel
theorem dX7_clock_81 : decode cX7_clock 81 = .ok (.getfield 28, 3) := by decide +kernel
theorem dX7_clock_84 : decode cX7_clock 84 = .ok (.iload_n 1, 1) := by decide +kernel
theorem dX7_clock_85 : decode cX7_clock 85 = .ok (.aload_n 0, 1) := by decide +kernel
theorem dX7_clock_86 : decode cX7_clock 86 = .ok (.getfield 28, 3) := by decide +kernel
theorem dX7_clock_89 : decode cX7_clock 89 = .ok (.bipush 6, 2) := by decide +kernel
theorem dX7_clock_91 : decode cX7_clock 91 = .ok (.iaload, 1) := by decide +kernel
theorem dX7_clock_92 : decode cX7_clock 92 = .ok (.iastore, 1) := by decide +kernel
theorem dX7_clock_93 : decode cX7_clock 93 = .ok (.iconst 0, 1) := by decide +kernel
theorem dX7_clock_94 : decode cX7_clock 94 = .ok (.istore_n 2, 1) := by decide +kernel
theorem dX7_clock_95 : decode cX7_clock 95 = .ok (.iload_n 2, 1) := by decide +kernel
theorem dX7_clock_96 : decode cX7_clock 96 = .ok (.aload_n 0, 1) := by decide +kernel
theorem dX7_clock_97 : decode cX7_clock 97 = .ok (.getfield 28, 3) := by decide +kernel
theorem dX7_clock_100 : decode cX7_clock 100 = .ok (.iload_n 1, 1) := by decide +kernel
theorem dX7_clock_101 : decode cX7_clock 101 = .ok (.iaload, 1) := by decide +kernel
theorem dX7_clock_102 : decode cX7_clock 102 = .ok (.if_icmp .ge 69, 3) := by decide +kernel
theorem dX7_clock_105 : decode cX7_clock 105 = .ok (.aload_n 0, 1) := by decide +kernel
theorem dX7_clock_106 : decode cX7_clock 106 = .ok (.getfield 31, 3) := by decide +kernel
theorem dX7_clock_109 : decode cX7_clock 109 = .ok (.bipush 8, 2) := by decide +kernel
theorem dX7_clock_111 : decode cX7_clock 111 = .ok (.iload_n 1, 1) := by decide +kernel
theorem dX7_clock_112 : decode cX7_clock 112 = .ok (.imul, 1) := by decide +kernel
theorem dX7_clock_113 : decode cX7_clock 113 = .ok (.iload_n 2, 1) := by decide +kernel
theorem dX7_clock_114 : decode cX7_clock 114 = .ok (.iadd, 1) := by decide +kernel
theorem dX7_clock_115 : decode cX7_clock 115 = .ok (.aload_n 0, 1) := by decide +kernel
theorem dX7_clock_116 : decode cX7_clock 116 = .ok (.getfield 31, 3) := by decide +kernel
theorem dX7_clock_119 : decode cX7_clock 119 = .ok (.bipush 48, 2) := by decide +kernel
theorem dX7_clock_121 : decode cX7_clock 121 = .ok (.iload_n 2, 1) := by decide +kernel
theorem dX7_clock_122 : decode cX7_clock 122 = .ok (.iadd, 1) := by decide +kernel
theorem dX7_clock_123 : decode cX7_clock 123 = .ok (.iaload, 1) := by decide +kernel
theorem dX7_clock_124 : decode cX7_clock 124 = .ok (.iastore, 1) := by decide +kernel
theorem dX7_clock_125 : decode cX7_clock 125 = .ok (.aload_n 0, 1) := by decide +kernel
theorem dX7_clock_126 : decode cX7_clock 126 = .ok (.getfield 34, 3) := by decide +kernel
theorem dX7_clock_129 : decode cX7_clock 129 = .ok (.bipush 8, 2) := by decide +kernel
theorem dX7_clock_131 : decode cX7_clock 131 = .ok (.iload_n 1, 1) := by decide +kernel
theorem dX7_clock_132 : decode cX7_clock 132 = .ok (.imul, 1) := by decide +kernel
theorem dX7_clock_133 : decode cX7_clock 133 = .ok (.iload_n 2, 1) := by decide +kernel
theorem dX7_clock_134 : decode cX7_clock 134 = .ok (.iadd, 1) := by decide +kernel
theorem dX7_clock_135 : decode cX7_clock 135 = .ok (.aload_n 0, 1) := by decide +kernel
theorem dX7_clock_136 : decode cX7_clock 136 = .ok (.getfield 34, 3) := by decide +kernel
theorem dX7_clock_139 : decode cX7_clock 139 = .ok (.bipush 48, 2) := by decide +kernel
theorem dX7_clock_141 : decode cX7_clock 141 = .ok (.iload_n 2, 1) := by decide +kernel
theorem dX7_clock_142 : decode cX7_clock 142 = .ok (.iadd, 1) := by decide +kernel
theorem dX7_clock_143 : decode cX7_clock 143 = .ok (.iaload, 1) := by decide +kernel
theorem dX7_clock_144 : decode cX7_clock 144 = .ok (.iastore, 1) := by decide +kernel
theorem dX7_clock_145 : decode cX7_clock 145 = .ok (.aload_n 0, 1) := by decide +kernel
theorem dX7_clock_146 : decode cX7_clock 146 = .ok (.getfield 37, 3) := by decide +kernel
theorem dX7_clock_149 : decode cX7_clock 149 = .ok (.bipush 8, 2) := by decide +kernel
theorem dX7_clock_151 : decode cX7_clock 151 = .ok (.iload_n 1, 1) := by decide +kernel
theorem dX7_clock_152 : decode cX7_clock 152 = .ok (.imul, 1) := by decide +kernel
theorem dX7_clock_153 : decode cX7_clock 153 = .ok (.iload_n 2, 1) := by decide +kernel
theorem dX7_clock_154 : decode cX7_clock 154 = .ok (.iadd, 1) := by decide +kernel
theorem dX7_clock_155 : decode cX7_clock 155 = .ok (.aload_n 0, 1) := by decide +kernel
theorem dX7_clock_156 : decode cX7_clock 156 = .ok (.getfield 37, 3) := by decide +kernel
theorem dX7_clock_159 : decode cX7_clock 159 = .ok (.bipush 48, 2) := by decide +kernel
theorem dX7_clock_161 : decode cX7_clock 161 = .ok (.iload_n 2, 1) := by decide +kernel
theorem dX7_clock_162 : decode cX7_clock 162 = .ok (.iadd, 1) := by decide +kernel
theorem dX7_clock_163 : decode cX7_clock 163 = .ok (.iaload, 1) := by decide +kernel
theorem dX7_clock_164 : decode cX7_clock 164 = .ok (.iastore, 1) := by decide +kernel
theorem dX7_clock_165 : decode cX7_clock 165 = .ok (.iinc 2 1, 3) := by decide +kernel
theorem dX7_clock_168 : decode cX7_clock 168 = .ok (.goto (-73), 3) := by decide +kernel
theorem dX7_clock_171 : decode cX7_clock 171 = .ok (.aload_n 0, 1) := by decide +kernel
theorem dX7_clock_172 : decode cX7_clock 172 = .ok (.getfield 28, 3) := by decide +kernel
theorem dX7_clock_175 : decode cX7_clock 175 = .ok (.iload_n 1, 1) := by decide +kernel
theorem dX7_clock_176 : decode cX7_clock 176 = .ok (.iaload, 1) := by decide +kernel
theorem dX7_clock_177 : decode cX7_clock 177 = .ok (.ireturn, 1) := by decide +kernel
theorem dX7_fault_0 : decode cX7_fault 0 = .ok (.aload_n 0, 1) := by decide +kernel
theorem dX7_fault_1 : decode cX7_fault 1 = .ok (.iconst 0, 1) := by decide +kernel
theorem dX7_fault_2 : decode cX7_fault 2 = .ok (.putfield 105, 3) := by decide +kernel
theorem dX7_fault_5 : decode cX7_fault 5 = .ok (.aload_n 0, 1) := by decide +kernel
theorem dX7_fault_6 : decode cX7_fault 6 = .ok (.getfield 155, 3) := by decide +kernel
theorem dX7_fault_9 : decode cX7_fault 9 = .ok (.ireturn, 1) := by decide +kernel
theorem dX7_rule_0 : decode cX7_rule 0 = .ok (.aload_n 0, 1) := by decide +kernel
theorem dX7_rule_1 : decode cX7_rule 1 = .ok (.iconst 0, 1) := by decide +kernel
theorem dX7_rule_2 : decode cX7_rule 2 = .ok (.putfield 105, 3) := by decide +kernel
theorem dX7_rule_5 : decode cX7_rule 5 = .ok (.iload_n 1, 1) := by decide +kernel
theorem dX7_rule_6 : decode cX7_rule 6 = .ok (.ifCond .lt 8, 3) := by decide +kernel
theorem dX7_rule_9 : decode cX7_rule 9 = .ok (.iload_n 1, 1) := by decide +kernel
theorem dX7_rule_10 : decode cX7_rule 10 = .ok (.iconst 5, 1) := by decide +kernel
theorem dX7_rule_11 : decode cX7_rule 11 = .ok (.if_icmp .lt 7, 3) := by decide +kernel
theorem dX7_rule_14 : decode cX7_rule 14 = .ok (.iconst (-1), 1) := by decide +kernel
theorem dX7_rule_15 : decode cX7_rule 15 = .ok (.goto 9, 3) := by decide +kernel
theorem dX7_rule_18 : decode cX7_rule 18 = .ok (.aload_n 0, 1) := by decide +kernel
theorem dX7_rule_19 : decode cX7_rule 19 = .ok (.getfield 13, 3) := by decide +kernel
theorem dX7_rule_22 : decode cX7_rule 22 = .ok (.iload_n 1, 1) := by decide +kernel
theorem dX7_rule_23 : decode cX7_rule 23 = .ok (.iaload, 1) := by decide +kernel
theorem dX7_rule_24 : decode cX7_rule 24 = .ok (.ireturn, 1) := by decide +kernel
theorem dX7_isIn_0 : decode cX7_isIn 0 = .ok (.iload_n 0, 1) := by decide +kernel
theorem dX7_isIn_1 : decode cX7_isIn 1 = .ok (.iload_n 1, 1) := by decide +kernel
theorem dX7_isIn_2 : decode cX7_isIn 2 = .ok (.if_icmp .lt 12, 3) := by decide +kernel
theorem dX7_isIn_5 : decode cX7_isIn 5 = .ok (.iload_n 0, 1) := by decide +kernel
theorem dX7_isIn_6 : decode cX7_isIn 6 = .ok (.iload_n 2, 1) := by decide +kernel
theorem dX7_isIn_7 : decode cX7_isIn 7 = .ok (.if_icmp .gt 7, 3) := by decide +kernel
theorem dX7_isIn_10 : decode cX7_isIn 10 = .ok (.iconst 1, 1) := by decide +kernel
theorem dX7_isIn_11 : decode cX7_isIn 11 = .ok (.goto 4, 3) := by decide +kernel
theorem dX7_isIn_14 : decode cX7_isIn 14 = .ok (.iconst 0, 1) := by decide +kernel
theorem dX7_isIn_15 : decode cX7_isIn 15 = .ok (.ireturn, 1) := by decide +kernel
theorem dX7_isSong_0 : decode cX7_isSong 0 = .ok (.iload_n 1, 1) := by decide +kernel
theorem dX7_isSong_1 : decode cX7_isSong 1 = .ok (.ifCond .lt 15, 3) := by decide +kernel
theorem dX7_isSong_4 : decode cX7_isSong 4 = .ok (.iload_n 1, 1) := by decide +kernel
theorem dX7_isSong_5 : decode cX7_isSong 5 = .ok (.aload_n 0, 1) := by decide +kernel
theorem dX7_isSong_6 : decode cX7_isSong 6 = .ok (.getfield 205, 3) := by decide +kernel
theorem dX7_isSong_9 : decode cX7_isSong 9 = .ok (.if_icmp .ge 7, 3) := by decide +kernel
theorem dX7_isSong_12 : decode cX7_isSong 12 = .ok (.iconst 1, 1) := by decide +kernel
theorem dX7_isSong_13 : decode cX7_isSong 13 = .ok (.goto 4, 3) := by decide +kernel
theorem dX7_isSong_16 : decode cX7_isSong 16 = .ok (.iconst 0, 1) := by decide +kernel
theorem dX7_isSong_17 : decode cX7_isSong 17 = .ok (.ireturn, 1) := by decide +kernel
theorem dX7_song_0 : decode cX7_song 0 = .ok (.aload_n 0, 1) := by decide +kernel
theorem dX7_song_1 : decode cX7_song 1 = .ok (.iconst 0, 1) := by decide +kernel
theorem dX7_song_2 : decode cX7_song 2 = .ok (.putfield 105, 3) := by decide +kernel
theorem dX7_song_5 : decode cX7_song 5 = .ok (.aload_n 0, 1) := by decide +kernel
theorem dX7_song_6 : decode cX7_song 6 = .ok (.getfield 205, 3) := by decide +kernel
theorem dX7_song_9 : decode cX7_song 9 = .ok (.bipush 24, 2) := by decide +kernel
theorem dX7_song_11 : decode cX7_song 11 = .ok (.if_icmp .eq 45, 3) := by decide +kernel
theorem dX7_song_14 : decode cX7_song 14 = .ok (.iload_n 1, 1) := by decide +kernel
theorem dX7_song_15 : decode cX7_song 15 = .ok (.bipush 30, 2) := by decide +kernel
theorem dX7_song_17 : decode cX7_song 17 = .ok (.sipush 900, 3) := by decide +kernel
theorem dX7_song_20 : decode cX7_song 20 = .ok (.invokestatic 208, 3) := by decide +kernel
theorem dX7_song_23 : decode cX7_song 23 = .ok (.ifCond .eq 33, 3) := by decide +kernel
theorem dX7_song_26 : decode cX7_song 26 = .ok (.iload_n 2, 1) := by decide +kernel
theorem dX7_song_27 : decode cX7_song 27 = .ok (.iconst 0, 1) := by decide +kernel
theorem dX7_song_28 : decode cX7_song 28 = .ok (.bipush 11, 2) := by decide +kernel
theorem dX7_song_30 : decode cX7_song 30 = .ok (.invokestatic 208, 3) := by decide +kernel
theorem dX7_song_33 : decode cX7_song 33 = .ok (.ifCond .eq 23, 3) := by decide +kernel
theorem dX7_song_36 : decode cX7_song 36 = .ok (.iload_n 3, 1) := by decide +kernel
theorem dX7_song_37 : decode cX7_song 37 = .ok (.iconst 0, 1) := by decide +kernel
theorem dX7_song_38 : decode cX7_song 38 = .ok (.bipush 11, 2) := by decide +kernel
theorem dX7_song_40 : decode cX7_song 40 = .ok (.invokestatic 208, 3) := by decide +kernel
theorem dX7_song_43 : decode cX7_song 43 = .ok (.ifCond .eq 13, 3) := by decide +kernel
theorem dX7_song_46 : decode cX7_song 46 = .ok (.iload 4, 2) := by decide +kernel
theorem dX7_song_48 : decode cX7_song 48 = .ok (.iconst 0, 1) := by decide +kernel
theorem dX7_song_49 : decode cX7_song 49 = .ok (.iconst 3, 1) := by decide +kernel
theorem dX7_song_50 : decode cX7_song 50 = .ok (.invokestatic 208, 3) := by decide +kernel
theorem dX7_song_53 : decode cX7_song 53 = .ok (.ifCond .ne 5, 3) := by decide +kernel
theorem dX7_song_56 : decode cX7_song 56 = .ok (.iconst (-1), 1) := by decide +kernel
theorem dX7_song_57 : decode cX7_song 57 = .ok (.ireturn, 1) := by decide +kernel
theorem dX7_song_58 : decode cX7_song 58 = .ok (.aload_n 0, 1) := by decide +kernel
theorem dX7_song_59 : decode cX7_song 59 = .ok (.getfield 40, 3) := by decide +kernel
theorem dX7_song_62 : decode cX7_song 62 = .ok (.aload_n 0, 1) := by decide +kernel
theorem dX7_song_63 : decode cX7_song 63 = .ok (.getfield 205, 3) := by decide +kernel
theorem dX7_song_66 : decode cX7_song 66 = .ok (.iload_n 1, 1) := by decide +kernel
theorem dX7_song_67 : decode cX7_song 67 = .ok (.iastore, 1) := by decide +kernel
theorem dX7_song_68 : decode cX7_song 68 = .ok (.aload_n 0, 1) := by decide +kernel
theorem dX7_song_69 : decode cX7_song 69 = .ok (.getfield 43, 3) := by decide +kernel
theorem dX7_song_72 : decode cX7_song 72 = .ok (.aload_n 0, 1) := by decide +kernel
theorem dX7_song_73 : decode cX7_song 73 = .ok (.getfield 205, 3) := by decide +kernel
theorem dX7_song_76 : decode cX7_song 76 = .ok (.iload_n 2, 1) := by decide +kernel
theorem dX7_song_77 : decode cX7_song 77 = .ok (.iastore, 1) := by decide +kernel
theorem dX7_song_78 : decode cX7_song 78 = .ok (.aload_n 0, 1) := by decide +kernel
theorem dX7_song_79 : decode cX7_song 79 = .ok (.getfield 46, 3) := by decide +kernel
theorem dX7_song_82 : decode cX7_song 82 = .ok (.aload_n 0, 1) := by decide +kernel
theorem dX7_song_83 : decode cX7_song 83 = .ok (.getfield 205, 3) := by decide +kernel
theorem dX7_song_86 : decode cX7_song 86 = .ok (.iload_n 3, 1) := by decide +kernel
theorem dX7_song_87 : decode cX7_song 87 = .ok (.iastore, 1) := by decide +kernel
theorem dX7_song_88 : decode cX7_song 88 = .ok (.aload_n 0, 1) := by decide +kernel
theorem dX7_song_89 : decode cX7_song 89 = .ok (.getfield 49, 3) := by decide +kernel
theorem dX7_song_92 : decode cX7_song 92 = .ok (.aload_n 0, 1) := by decide +kernel
theorem dX7_song_93 : decode cX7_song 93 = .ok (.getfield 205, 3) := by decide +kernel
theorem dX7_song_96 : decode cX7_song 96 = .ok (.iload 4, 2) := by decide +kernel
theorem dX7_song_98 : decode cX7_song 98 = .ok (.iastore, 1) := by decide +kernel
theorem dX7_song_99 : decode cX7_song 99 = .ok (.aload_n 0, 1) := by decide +kernel
theorem dX7_song_100 : decode cX7_song 100 = .ok (.getfield 67, 3) := by decide +kernel
theorem dX7_song_103 : decode cX7_song 103 = .ok (.aload_n 0, 1) := by decide +kernel
theorem dX7_song_104 : decode cX7_song 104 = .ok (.getfield 205, 3) := by decide +kernel
theorem dX7_song_107 : decode cX7_song 107 = .ok (.iload 5, 2) := by decide +kernel
theorem dX7_song_109 : decode cX7_song 109 = .ok (.bastore, 1) := by decide +kernel
theorem dX7_song_110 : decode cX7_song 110 = .ok (.aload_n 0, 1) := by decide +kernel
theorem dX7_song_111 : decode cX7_song 111 = .ok (.dup, 1) := by decide +kernel
theorem dX7_song_112 : decode cX7_song 112 = .ok (.getfield 205, 3) := by decide +kernel
theorem dX7_song_115 : decode cX7_song 115 = .ok (.iconst 1, 1) := by decide +kernel
theorem dX7_song_116 : decode cX7_song 116 = .ok (.iadd, 1) := by decide +kernel
theorem dX7_song_117 : decode cX7_song 117 = .ok (.putfield 205, 3) := by decide +kernel
theorem dX7_song_120 : decode cX7_song 120 = .ok (.aload_n 0, 1) := by decide +kernel
theorem dX7_song_121 : decode cX7_song 121 = .ok (.getfield 205, 3) := by decide +kernel
theorem dX7_song_124 : decode cX7_song 124 = .ok (.iconst 1, 1) := by decide +kernel
theorem dX7_song_125 : decode cX7_song 125 = .ok (.isub, 1) := by decide +kernel
theorem dX7_song_126 : decode cX7_song 126 = .ok (.ireturn, 1) := by decide +kernel
theorem dX7_heatOf_0 : decode cX7_heatOf 0 = .ok (.bipush 15, 2) := by decide +kernel
theorem dX7_heatOf_2 : decode cX7_heatOf 2 = .ok (.aload_n 0, 1) := by decide +kernel
theorem dX7_heatOf_3 : decode cX7_heatOf 3 = .ok (.getfield 55, 3) := by decide +kernel
theorem dX7_heatOf_6 : decode cX7_heatOf 6 = .ok (.iload_n 1, 1) := by decide +kernel
theorem dX7_heatOf_7 : decode cX7_heatOf 7 = .ok (.iaload, 1) := by decide +kernel
theorem dX7_heatOf_8 : decode cX7_heatOf 8 = .ok (.imul, 1) := by decide +kernel
theorem dX7_heatOf_9 : decode cX7_heatOf 9 = .ok (.istore_n 2, 1) := by decide +kernel
theorem dX7_heatOf_10 : decode cX7_heatOf 10 = .ok (.iconst 0, 1) := by decide +kernel
theorem dX7_heatOf_11 : decode cX7_heatOf 11 = .ok (.istore_n 3, 1) := by decide +kernel
theorem dX7_heatOf_12 : decode cX7_heatOf 12 = .ok (.iload_n 3, 1) := by decide +kernel
theorem dX7_heatOf_13 : decode cX7_heatOf 13 = .ok (.bipush 10, 2) := by decide +kernel
theorem dX7_heatOf_15 : decode cX7_heatOf 15 = .ok (.if_icmp .ge 33, 3) := by decide +kernel
theorem dX7_heatOf_18 : decode cX7_heatOf 18 = .ok (.iload_n 3, 1) := by decide +kernel
theorem dX7_heatOf_19 : decode cX7_heatOf 19 = .ok (.aload_n 0, 1) := by decide +kernel
theorem dX7_heatOf_20 : decode cX7_heatOf 20 = .ok (.getfield 52, 3) := by decide +kernel
theorem dX7_heatOf_23 : decode cX7_heatOf 23 = .ok (.iload_n 1, 1) := by decide +kernel
theorem dX7_heatOf_24 : decode cX7_heatOf 24 = .ok (.iaload, 1) := by decide +kernel
theorem dX7_heatOf_25 : decode cX7_heatOf 25 = .ok (.if_icmp .ge 23, 3) := by decide +kernel
theorem dX7_heatOf_28 : decode cX7_heatOf 28 = .ok (.iload_n 2, 1) := by decide +kernel
theorem dX7_heatOf_29 : decode cX7_heatOf 29 = .ok (.aload_n 0, 1) := by decide +kernel
theorem dX7_heatOf_30 : decode cX7_heatOf 30 = .ok (.getfield 61, 3) := by decide +kernel
theorem dX7_heatOf_33 : decode cX7_heatOf 33 = .ok (.bipush 10, 2) := by decide +kernel
theorem dX7_heatOf_35 : decode cX7_heatOf 35 = .ok (.iload_n 1, 1) := by decide +kernel
theorem dX7_heatOf_36 : decode cX7_heatOf 36 = .ok (.imul, 1) := by decide +kernel
theorem dX7_heatOf_37 : decode cX7_heatOf 37 = .ok (.iload_n 3, 1) := by decide +kernel
theorem dX7_heatOf_38 : decode cX7_heatOf 38 = .ok (.iadd, 1) := by decide +kernel
theorem dX7_heatOf_39 : decode cX7_heatOf 39 = .ok (.iaload, 1) := by decide +kernel
theorem dX7_heatOf_40 : decode cX7_heatOf 40 = .ok (.iadd, 1) := by decide +kernel
theorem dX7_heatOf_41 : decode cX7_heatOf 41 = .ok (.istore_n 2, 1) := by decide +kernel
theorem dX7_heatOf_42 : decode cX7_heatOf 42 = .ok (.iinc 3 1, 3) := by decide +kernel
theorem dX7_heatOf_45 : decode cX7_heatOf 45 = .ok (.goto (-33), 3) := by decide +kernel
theorem dX7_heatOf_48 : decode cX7_heatOf 48 = .ok (.iload_n 2, 1) := by decide +kernel
theorem dX7_heatOf_49 : decode cX7_heatOf 49 = .ok (.ireturn, 1) := by decide +kernel
theorem dX7_vote_0 : decode cX7_vote 0 = .ok (.aload_n 0, 1) := by decide +kernel
theorem dX7_vote_1 : decode cX7_vote 1 = .ok (.iconst 0, 1) := by decide +kernel
theorem dX7_vote_2 : decode cX7_vote 2 = .ok (.putfield 105, 3) := by decide +kernel
theorem dX7_vote_5 : decode cX7_vote 5 = .ok (.aload_n 0, 1) := by decide +kernel
theorem dX7_vote_6 : decode cX7_vote 6 = .ok (.iload_n 1, 1) := by decide +kernel
theorem dX7_vote_7 : decode cX7_vote 7 = .ok (.invokevirtual 212, 3) := by decide +kernel
theorem dX7_vote_10 : decode cX7_vote 10 = .ok (.ifCond .eq 13, 3) := by decide +kernel
theorem dX7_vote_13 : decode cX7_vote 13 = .ok (.iload_n 2, 1) := by decide +kernel
theorem dX7_vote_14 : decode cX7_vote 14 = .ok (.iconst 0, 1) := by decide +kernel
theorem dX7_vote_15 : decode cX7_vote 15 = .ok (.bipush 9, 2) := by decide +kernel
theorem dX7_vote_17 : decode cX7_vote 17 = .ok (.invokestatic 208, 3) := by decide +kernel
theorem dX7_vote_20 : decode cX7_vote 20 = .ok (.ifCond .ne 5, 3) := by decide +kernel
theorem dX7_vote_23 : decode cX7_vote 23 = .ok (.iconst (-1), 1) := by decide +kernel
theorem dX7_vote_24 : decode cX7_vote 24 = .ok (.ireturn, 1) := by decide +kernel
theorem dX7_vote_25 : decode cX7_vote 25 = .ok (.aload_n 0, 1) := by decide +kernel
theorem dX7_vote_26 : decode cX7_vote 26 = .ok (.getfield 61, 3) := by decide +kernel
theorem dX7_vote_29 : decode cX7_vote 29 = .ok (.bipush 10, 2) := by decide +kernel
theorem dX7_vote_31 : decode cX7_vote 31 = .ok (.iload_n 1, 1) := by decide +kernel
theorem dX7_vote_32 : decode cX7_vote 32 = .ok (.imul, 1) := by decide +kernel
theorem dX7_vote_33 : decode cX7_vote 33 = .ok (.aload_n 0, 1) := by decide +kernel
theorem dX7_vote_34 : decode cX7_vote 34 = .ok (.getfield 52, 3) := by decide +kernel
theorem dX7_vote_37 : decode cX7_vote 37 = .ok (.iload_n 1, 1) := by decide +kernel
theorem dX7_vote_38 : decode cX7_vote 38 = .ok (.iaload, 1) := by decide +kernel
theorem dX7_vote_39 : decode cX7_vote 39 = .ok (.bipush 10, 2) := by decide +kernel
theorem dX7_vote_41 : decode cX7_vote 41 = .ok (.irem, 1) := by decide +kernel
theorem dX7_vote_42 : decode cX7_vote 42 = .ok (.iadd, 1) := by decide +kernel
theorem dX7_vote_43 : decode cX7_vote 43 = .ok (.iload_n 2, 1) := by decide +kernel
theorem dX7_vote_44 : decode cX7_vote 44 = .ok (.iastore, 1) := by decide +kernel
theorem dX7_vote_45 : decode cX7_vote 45 = .ok (.aload_n 0, 1) := by decide +kernel
theorem dX7_vote_46 : decode cX7_vote 46 = .ok (.getfield 52, 3) := by decide +kernel
theorem dX7_vote_49 : decode cX7_vote 49 = .ok (.iload_n 1, 1) := by decide +kernel
theorem dX7_vote_50 : decode cX7_vote 50 = .ok (.dup2, 1) := by decide +kernel
theorem dX7_vote_51 : decode cX7_vote 51 = .ok (.iaload, 1) := by decide +kernel
theorem dX7_vote_52 : decode cX7_vote 52 = .ok (.iconst 1, 1) := by decide +kernel
theorem dX7_vote_53 : decode cX7_vote 53 = .ok (.iadd, 1) := by decide +kernel
theorem dX7_vote_54 : decode cX7_vote 54 = .ok (.iastore, 1) := by decide +kernel
theorem dX7_vote_55 : decode cX7_vote 55 = .ok (.aload_n 0, 1) := by decide +kernel
theorem dX7_vote_56 : decode cX7_vote 56 = .ok (.iload_n 1, 1) := by decide +kernel
theorem dX7_vote_57 : decode cX7_vote 57 = .ok (.invokevirtual 215, 3) := by decide +kernel
theorem dX7_vote_60 : decode cX7_vote 60 = .ok (.ireturn, 1) := by decide +kernel
theorem dX7_ask_0 : decode cX7_ask 0 = .ok (.aload_n 0, 1) := by decide +kernel
theorem dX7_ask_1 : decode cX7_ask 1 = .ok (.iconst 0, 1) := by decide +kernel
theorem dX7_ask_2 : decode cX7_ask 2 = .ok (.putfield 105, 3) := by decide +kernel
theorem dX7_ask_5 : decode cX7_ask 5 = .ok (.aload_n 0, 1) := by decide +kernel
theorem dX7_ask_6 : decode cX7_ask 6 = .ok (.iload_n 1, 1) := by decide +kernel
theorem dX7_ask_7 : decode cX7_ask 7 = .ok (.invokevirtual 212, 3) := by decide +kernel
theorem dX7_ask_10 : decode cX7_ask 10 = .ok (.ifCond .eq 14, 3) := by decide +kernel
theorem dX7_ask_13 : decode cX7_ask 13 = .ok (.aload_n 0, 1) := by decide +kernel
theorem dX7_ask_14 : decode cX7_ask 14 = .ok (.getfield 55, 3) := by decide +kernel
theorem dX7_ask_17 : decode cX7_ask 17 = .ok (.iload_n 1, 1) := by decide +kernel
theorem dX7_ask_18 : decode cX7_ask 18 = .ok (.iaload, 1) := by decide +kernel
theorem dX7_ask_19 : decode cX7_ask 19 = .ok (.bipush 20, 2) := by decide +kernel
theorem dX7_ask_21 : decode cX7_ask 21 = .ok (.if_icmp .ne 5, 3) := by decide +kernel
theorem dX7_ask_24 : decode cX7_ask 24 = .ok (.iconst (-1), 1) := by decide +kernel
theorem dX7_ask_25 : decode cX7_ask 25 = .ok (.ireturn, 1) := by decide +kernel
theorem dX7_ask_26 : decode cX7_ask 26 = .ok (.aload_n 0, 1) := by decide +kernel
theorem dX7_ask_27 : decode cX7_ask 27 = .ok (.getfield 55, 3) := by decide +kernel
theorem dX7_ask_30 : decode cX7_ask 30 = .ok (.iload_n 1, 1) := by decide +kernel
theorem dX7_ask_31 : decode cX7_ask 31 = .ok (.dup2, 1) := by decide +kernel
theorem dX7_ask_32 : decode cX7_ask 32 = .ok (.iaload, 1) := by decide +kernel
theorem dX7_ask_33 : decode cX7_ask 33 = .ok (.iconst 1, 1) := by decide +kernel
theorem dX7_ask_34 : decode cX7_ask 34 = .ok (.iadd, 1) := by decide +kernel
theorem dX7_ask_35 : decode cX7_ask 35 = .ok (.iastore, 1) := by decide +kernel
theorem dX7_ask_36 : decode cX7_ask 36 = .ok (.aload_n 0, 1) := by decide +kernel
theorem dX7_ask_37 : decode cX7_ask 37 = .ok (.getfield 55, 3) := by decide +kernel
theorem dX7_ask_40 : decode cX7_ask 40 = .ok (.iload_n 1, 1) := by decide +kernel
theorem dX7_ask_41 : decode cX7_ask 41 = .ok (.iaload, 1) := by decide +kernel
theorem dX7_ask_42 : decode cX7_ask 42 = .ok (.ireturn, 1) := by decide +kernel
theorem dX7_endOf_0 : decode cX7_endOf 0 = .ok (.aload_n 0, 1) := by decide +kernel
theorem dX7_endOf_1 : decode cX7_endOf 1 = .ok (.getfield 74, 3) := by decide +kernel
theorem dX7_endOf_4 : decode cX7_endOf 4 = .ok (.iload_n 1, 1) := by decide +kernel
theorem dX7_endOf_5 : decode cX7_endOf 5 = .ok (.iaload, 1) := by decide +kernel
theorem dX7_endOf_6 : decode cX7_endOf 6 = .ok (.aload_n 0, 1) := by decide +kernel
theorem dX7_endOf_7 : decode cX7_endOf 7 = .ok (.getfield 40, 3) := by decide +kernel
theorem dX7_endOf_10 : decode cX7_endOf 10 = .ok (.aload_n 0, 1) := by decide +kernel
theorem dX7_endOf_11 : decode cX7_endOf 11 = .ok (.getfield 71, 3) := by decide +kernel
theorem dX7_endOf_14 : decode cX7_endOf 14 = .ok (.iload_n 1, 1) := by decide +kernel
theorem dX7_endOf_15 : decode cX7_endOf 15 = .ok (.iaload, 1) := by decide +kernel
theorem dX7_endOf_16 : decode cX7_endOf 16 = .ok (.iaload, 1) := by decide +kernel
theorem dX7_endOf_17 : decode cX7_endOf 17 = .ok (.iadd, 1) := by decide +kernel
theorem dX7_endOf_18 : decode cX7_endOf 18 = .ok (.ireturn, 1) := by decide +kernel
theorem dX7_soundsOf_0 : decode cX7_soundsOf 0 = .ok (.iconst 0, 1) := by decide +kernel
theorem dX7_soundsOf_1 : decode cX7_soundsOf 1 = .ok (.istore_n 2, 1) := by decide +kernel
theorem dX7_soundsOf_2 : decode cX7_soundsOf 2 = .ok (.iconst 0, 1) := by decide +kernel
theorem dX7_soundsOf_3 : decode cX7_soundsOf 3 = .ok (.istore_n 3, 1) := by decide +kernel
theorem dX7_soundsOf_4 : decode cX7_soundsOf 4 = .ok (.iload_n 3, 1) := by decide +kernel
theorem dX7_soundsOf_5 : decode cX7_soundsOf 5 = .ok (.aload_n 0, 1) := by decide +kernel
theorem dX7_soundsOf_6 : decode cX7_soundsOf 6 = .ok (.getfield 218, 3) := by decide +kernel
theorem dX7_soundsOf_9 : decode cX7_soundsOf 9 = .ok (.if_icmp .ge 22, 3) := by decide +kernel
theorem dX7_soundsOf_12 : decode cX7_soundsOf 12 = .ok (.aload_n 0, 1) := by decide +kernel
theorem dX7_soundsOf_13 : decode cX7_soundsOf 13 = .ok (.getfield 71, 3) := by decide +kernel
theorem dX7_soundsOf_16 : decode cX7_soundsOf 16 = .ok (.iload_n 3, 1) := by decide +kernel
theorem dX7_soundsOf_17 : decode cX7_soundsOf 17 = .ok (.iaload, 1) := by decide +kernel
theorem dX7_soundsOf_18 : decode cX7_soundsOf 18 = .ok (.iload_n 1, 1) := by decide +kernel
theorem dX7_soundsOf_19 : decode cX7_soundsOf 19 = .ok (.if_icmp .ne 6, 3) := by decide +kernel
theorem dX7_soundsOf_22 : decode cX7_soundsOf 22 = .ok (.iinc 2 1, 3) := by decide +kernel
theorem dX7_soundsOf_25 : decode cX7_soundsOf 25 = .ok (.iinc 3 1, 3) := by decide +kernel
theorem dX7_soundsOf_28 : decode cX7_soundsOf 28 = .ok (.goto (-24), 3) := by decide +kernel
theorem dX7_soundsOf_31 : decode cX7_soundsOf 31 = .ok (.iload_n 2, 1) := by decide +kernel
theorem dX7_soundsOf_32 : decode cX7_soundsOf 32 = .ok (.ireturn, 1) := by decide +kernel
theorem dX7_ask0_0 : decode cX7_ask0 0 = .ok (.iconst 0, 1) := by decide +kernel
theorem dX7_ask0_1 : decode cX7_ask0 1 = .ok (.istore_n 1, 1) := by decide +kernel
theorem dX7_ask0_2 : decode cX7_ask0 2 = .ok (.iload_n 1, 1) := by decide +kernel
theorem dX7_ask0_3 : decode cX7_ask0 3 = .ok (.aload_n 0, 1) := by decide +kernel
theorem dX7_ask0_4 : decode cX7_ask0 4 = .ok (.getfield 205, 3) := by decide +kernel
theorem dX7_ask0_7 : decode cX7_ask0 7 = .ok (.if_icmp .ge 83, 3) := by decide +kernel
theorem dX7_ask0_10 : decode cX7_ask0 10 = .ok (.aload_n 0, 1) := by decide +kernel
theorem dX7_ask0_11 : decode cX7_ask0 11 = .ok (.getfield 83, 3) := by decide +kernel
theorem dX7_ask0_14 : decode cX7_ask0 14 = .ok (.iload_n 1, 1) := by decide +kernel
theorem dX7_ask0_15 : decode cX7_ask0 15 = .ok (.iconst 0, 1) := by decide +kernel
theorem dX7_ask0_16 : decode cX7_ask0 16 = .ok (.iastore, 1) := by decide +kernel
theorem dX7_ask0_17 : decode cX7_ask0 17 = .ok (.iconst 0, 1) := by decide +kernel
theorem dX7_ask0_18 : decode cX7_ask0 18 = .ok (.istore_n 2, 1) := by decide +kernel
theorem dX7_ask0_19 : decode cX7_ask0 19 = .ok (.iload_n 2, 1) := by decide +kernel
theorem dX7_ask0_20 : decode cX7_ask0 20 = .ok (.aload_n 0, 1) := by decide +kernel
theorem dX7_ask0_21 : decode cX7_ask0 21 = .ok (.getfield 218, 3) := by decide +kernel
theorem dX7_ask0_24 : decode cX7_ask0 24 = .ok (.if_icmp .ge 60, 3) := by decide +kernel
theorem dX7_ask0_27 : decode cX7_ask0 27 = .ok (.aload_n 0, 1) := by decide +kernel
theorem dX7_ask0_28 : decode cX7_ask0 28 = .ok (.getfield 74, 3) := by decide +kernel
theorem dX7_ask0_31 : decode cX7_ask0 31 = .ok (.iload_n 2, 1) := by decide +kernel
theorem dX7_ask0_32 : decode cX7_ask0 32 = .ok (.iaload, 1) := by decide +kernel
theorem dX7_ask0_33 : decode cX7_ask0 33 = .ok (.aload_n 0, 1) := by decide +kernel
theorem dX7_ask0_34 : decode cX7_ask0 34 = .ok (.aload_n 0, 1) := by decide +kernel
theorem dX7_ask0_35 : decode cX7_ask0 35 = .ok (.getfield 71, 3) := by decide +kernel
theorem dX7_ask0_38 : decode cX7_ask0 38 = .ok (.iload_n 2, 1) := by decide +kernel
theorem dX7_ask0_39 : decode cX7_ask0 39 = .ok (.iaload, 1) := by decide +kernel
theorem dX7_ask0_40 : decode cX7_ask0 40 = .ok (.iload_n 1, 1) := by decide +kernel
theorem dX7_ask0_41 : decode cX7_ask0 41 = .ok (.invokevirtual 221, 3) := by decide +kernel
theorem dX7_ask0_44 : decode cX7_ask0 44 = .ok (.iadd, 1) := by decide +kernel
theorem dX7_ask0_45 : decode cX7_ask0 45 = .ok (.aload_n 0, 1) := by decide +kernel
theorem dX7_ask0_46 : decode cX7_ask0 46 = .ok (.getfield 83, 3) := by decide +kernel
theorem dX7_ask0_49 : decode cX7_ask0 49 = .ok (.iload_n 1, 1) := by decide +kernel
theorem dX7_ask0_50 : decode cX7_ask0 50 = .ok (.iaload, 1) := by decide +kernel
theorem dX7_ask0_51 : decode cX7_ask0 51 = .ok (.if_icmp .le 27, 3) := by decide +kernel
theorem dX7_ask0_54 : decode cX7_ask0 54 = .ok (.aload_n 0, 1) := by decide +kernel
theorem dX7_ask0_55 : decode cX7_ask0 55 = .ok (.getfield 83, 3) := by decide +kernel
theorem dX7_ask0_58 : decode cX7_ask0 58 = .ok (.iload_n 1, 1) := by decide +kernel
theorem dX7_ask0_59 : decode cX7_ask0 59 = .ok (.aload_n 0, 1) := by decide +kernel
theorem dX7_ask0_60 : decode cX7_ask0 60 = .ok (.getfield 74, 3) := by decide +kernel
theorem dX7_ask0_63 : decode cX7_ask0 63 = .ok (.iload_n 2, 1) := by decide +kernel
theorem dX7_ask0_64 : decode cX7_ask0 64 = .ok (.iaload, 1) := by decide +kernel
theorem dX7_ask0_65 : decode cX7_ask0 65 = .ok (.aload_n 0, 1) := by decide +kernel
theorem dX7_ask0_66 : decode cX7_ask0 66 = .ok (.aload_n 0, 1) := by decide +kernel
theorem dX7_ask0_67 : decode cX7_ask0 67 = .ok (.getfield 71, 3) := by decide +kernel
theorem dX7_ask0_70 : decode cX7_ask0 70 = .ok (.iload_n 2, 1) := by decide +kernel
theorem dX7_ask0_71 : decode cX7_ask0 71 = .ok (.iaload, 1) := by decide +kernel
theorem dX7_ask0_72 : decode cX7_ask0 72 = .ok (.iload_n 1, 1) := by decide +kernel
theorem dX7_ask0_73 : decode cX7_ask0 73 = .ok (.invokevirtual 221, 3) := by decide +kernel
theorem dX7_ask0_76 : decode cX7_ask0 76 = .ok (.iadd, 1) := by decide +kernel
theorem dX7_ask0_77 : decode cX7_ask0 77 = .ok (.iastore, 1) := by decide +kernel
theorem dX7_ask0_78 : decode cX7_ask0 78 = .ok (.iinc 2 1, 3) := by decide +kernel
theorem dX7_ask0_81 : decode cX7_ask0 81 = .ok (.goto (-62), 3) := by decide +kernel
theorem dX7_ask0_84 : decode cX7_ask0 84 = .ok (.iinc 1 1, 3) := by decide +kernel
theorem dX7_ask0_87 : decode cX7_ask0 87 = .ok (.goto (-85), 3) := by decide +kernel
theorem dX7_ask0_90 : decode cX7_ask0 90 = .ok (.return_, 1) := by decide +kernel
theorem dX7_rests_0 : decode cX7_rests 0 = .ok (.iload_n 1, 1) := by decide +kernel
theorem dX7_rests_1 : decode cX7_rests 1 = .ok (.iload_n 2, 1) := by decide +kernel
theorem dX7_rests_2 : decode cX7_rests 2 = .ok (.if_icmp .ne 12, 3) := by decide +kernel
theorem dX7_rests_5 : decode cX7_rests 5 = .ok (.aload_n 0, 1) := by decide +kernel
theorem dX7_rests_6 : decode cX7_rests 6 = .ok (.getfield 13, 3) := by decide +kernel
theorem dX7_rests_9 : decode cX7_rests 9 = .ok (.iconst 0, 1) := by decide +kernel
theorem dX7_rests_10 : decode cX7_rests 10 = .ok (.iaload, 1) := by decide +kernel
theorem dX7_rests_11 : decode cX7_rests 11 = .ok (.goto 4, 3) := by decide +kernel
theorem dX7_rests_14 : decode cX7_rests 14 = .ok (.iconst 0, 1) := by decide +kernel
theorem dX7_rests_15 : decode cX7_rests 15 = .ok (.istore_n 3, 1) := by decide +kernel
theorem dX7_rests_16 : decode cX7_rests 16 = .ok (.aload_n 0, 1) := by decide +kernel
theorem dX7_rests_17 : decode cX7_rests 17 = .ok (.getfield 43, 3) := by decide +kernel
theorem dX7_rests_20 : decode cX7_rests 20 = .ok (.iload_n 1, 1) := by decide +kernel
theorem dX7_rests_21 : decode cX7_rests 21 = .ok (.iaload, 1) := by decide +kernel
theorem dX7_rests_22 : decode cX7_rests 22 = .ok (.aload_n 0, 1) := by decide +kernel
theorem dX7_rests_23 : decode cX7_rests 23 = .ok (.getfield 43, 3) := by decide +kernel
theorem dX7_rests_26 : decode cX7_rests 26 = .ok (.iload_n 2, 1) := by decide +kernel
theorem dX7_rests_27 : decode cX7_rests 27 = .ok (.iaload, 1) := by decide +kernel
theorem dX7_rests_28 : decode cX7_rests 28 = .ok (.if_icmp .ne 20, 3) := by decide +kernel
theorem dX7_rests_31 : decode cX7_rests 31 = .ok (.aload_n 0, 1) := by decide +kernel
theorem dX7_rests_32 : decode cX7_rests 32 = .ok (.getfield 13, 3) := by decide +kernel
theorem dX7_rests_35 : decode cX7_rests 35 = .ok (.iconst 1, 1) := by decide +kernel
theorem dX7_rests_36 : decode cX7_rests 36 = .ok (.iaload, 1) := by decide +kernel
theorem dX7_rests_37 : decode cX7_rests 37 = .ok (.iload_n 3, 1) := by decide +kernel
theorem dX7_rests_38 : decode cX7_rests 38 = .ok (.if_icmp .le 10, 3) := by decide +kernel
theorem dX7_rests_41 : decode cX7_rests 41 = .ok (.aload_n 0, 1) := by decide +kernel
theorem dX7_rests_42 : decode cX7_rests 42 = .ok (.getfield 13, 3) := by decide +kernel
theorem dX7_rests_45 : decode cX7_rests 45 = .ok (.iconst 1, 1) := by decide +kernel
theorem dX7_rests_46 : decode cX7_rests 46 = .ok (.iaload, 1) := by decide +kernel
theorem dX7_rests_47 : decode cX7_rests 47 = .ok (.istore_n 3, 1) := by decide +kernel
theorem dX7_rests_48 : decode cX7_rests 48 = .ok (.bipush 60, 2) := by decide +kernel
theorem dX7_rests_50 : decode cX7_rests 50 = .ok (.iload_n 3, 1) := by decide +kernel
theorem dX7_rests_51 : decode cX7_rests 51 = .ok (.imul, 1) := by decide +kernel
theorem dX7_rests_52 : decode cX7_rests 52 = .ok (.ireturn, 1) := by decide +kernel
theorem dX7_goWith_0 : decode cX7_goWith 0 = .ok (.aload_n 0, 1) := by decide +kernel
theorem dX7_goWith_1 : decode cX7_goWith 1 = .ok (.getfield 46, 3) := by decide +kernel
theorem dX7_goWith_4 : decode cX7_goWith 4 = .ok (.iload_n 1, 1) := by decide +kernel
theorem dX7_goWith_5 : decode cX7_goWith 5 = .ok (.iaload, 1) := by decide +kernel
theorem dX7_goWith_6 : decode cX7_goWith 6 = .ok (.aload_n 0, 1) := by decide +kernel
theorem dX7_goWith_7 : decode cX7_goWith 7 = .ok (.getfield 46, 3) := by decide +kernel
theorem dX7_goWith_10 : decode cX7_goWith 10 = .ok (.iload_n 2, 1) := by decide +kernel
theorem dX7_goWith_11 : decode cX7_goWith 11 = .ok (.iaload, 1) := by decide +kernel
theorem dX7_goWith_12 : decode cX7_goWith 12 = .ok (.if_icmp .le 19, 3) := by decide +kernel
theorem dX7_goWith_15 : decode cX7_goWith 15 = .ok (.aload_n 0, 1) := by decide +kernel
theorem dX7_goWith_16 : decode cX7_goWith 16 = .ok (.getfield 46, 3) := by decide +kernel
theorem dX7_goWith_19 : decode cX7_goWith 19 = .ok (.iload_n 1, 1) := by decide +kernel
theorem dX7_goWith_20 : decode cX7_goWith 20 = .ok (.iaload, 1) := by decide +kernel
theorem dX7_goWith_21 : decode cX7_goWith 21 = .ok (.aload_n 0, 1) := by decide +kernel
theorem dX7_goWith_22 : decode cX7_goWith 22 = .ok (.getfield 46, 3) := by decide +kernel
theorem dX7_goWith_25 : decode cX7_goWith 25 = .ok (.iload_n 2, 1) := by decide +kernel
theorem dX7_goWith_26 : decode cX7_goWith 26 = .ok (.iaload, 1) := by decide +kernel
theorem dX7_goWith_27 : decode cX7_goWith 27 = .ok (.isub, 1) := by decide +kernel
theorem dX7_goWith_28 : decode cX7_goWith 28 = .ok (.goto 16, 3) := by decide +kernel
theorem dX7_goWith_31 : decode cX7_goWith 31 = .ok (.aload_n 0, 1) := by decide +kernel
theorem dX7_goWith_32 : decode cX7_goWith 32 = .ok (.getfield 46, 3) := by decide +kernel
theorem dX7_goWith_35 : decode cX7_goWith 35 = .ok (.iload_n 2, 1) := by decide +kernel
theorem dX7_goWith_36 : decode cX7_goWith 36 = .ok (.iaload, 1) := by decide +kernel
theorem dX7_goWith_37 : decode cX7_goWith 37 = .ok (.aload_n 0, 1) := by decide +kernel
theorem dX7_goWith_38 : decode cX7_goWith 38 = .ok (.getfield 46, 3) := by decide +kernel
theorem dX7_goWith_41 : decode cX7_goWith 41 = .ok (.iload_n 1, 1) := by decide +kernel
theorem dX7_goWith_42 : decode cX7_goWith 42 = .ok (.iaload, 1) := by decide +kernel
theorem dX7_goWith_43 : decode cX7_goWith 43 = .ok (.isub, 1) := by decide +kernel
theorem dX7_goWith_44 : decode cX7_goWith 44 = .ok (.istore_n 3, 1) := by decide +kernel
theorem dX7_goWith_45 : decode cX7_goWith 45 = .ok (.iload_n 3, 1) := by decide +kernel
theorem dX7_goWith_46 : decode cX7_goWith 46 = .ok (.bipush 6, 2) := by decide +kernel
theorem dX7_goWith_48 : decode cX7_goWith 48 = .ok (.if_icmp .le 10, 3) := by decide +kernel
theorem dX7_goWith_51 : decode cX7_goWith 51 = .ok (.bipush 12, 2) := by decide +kernel
theorem dX7_goWith_53 : decode cX7_goWith 53 = .ok (.iload_n 3, 1) := by decide +kernel
theorem dX7_goWith_54 : decode cX7_goWith 54 = .ok (.isub, 1) := by decide +kernel
theorem dX7_goWith_55 : decode cX7_goWith 55 = .ok (.goto 4, 3) := by decide +kernel
theorem dX7_goWith_58 : decode cX7_goWith 58 = .ok (.iload_n 3, 1) := by decide +kernel
theorem dX7_goWith_59 : decode cX7_goWith 59 = .ok (.aload_n 0, 1) := by decide +kernel
theorem dX7_goWith_60 : decode cX7_goWith 60 = .ok (.getfield 13, 3) := by decide +kernel
theorem dX7_goWith_63 : decode cX7_goWith 63 = .ok (.iconst 2, 1) := by decide +kernel
theorem dX7_goWith_64 : decode cX7_goWith 64 = .ok (.iaload, 1) := by decide +kernel
theorem dX7_goWith_65 : decode cX7_goWith 65 = .ok (.if_icmp .gt 7, 3) := by decide +kernel
theorem dX7_goWith_68 : decode cX7_goWith 68 = .ok (.iconst 1, 1) := by decide +kernel
theorem dX7_goWith_69 : decode cX7_goWith 69 = .ok (.goto 4, 3) := by decide +kernel
theorem dX7_goWith_72 : decode cX7_goWith 72 = .ok (.iconst 0, 1) := by decide +kernel
theorem dX7_goWith_73 : decode cX7_goWith 73 = .ok (.ireturn, 1) := by decide +kernel
theorem dX7_judge_0 : decode cX7_judge 0 = .ok (.iload 4, 2) := by decide +kernel
theorem dX7_judge_2 : decode cX7_judge 2 = .ok (.iload 5, 2) := by decide +kernel
theorem dX7_judge_4 : decode cX7_judge 4 = .ok (.isub, 1) := by decide +kernel
theorem dX7_judge_5 : decode cX7_judge 5 = .ok (.istore 7, 2) := by decide +kernel
theorem dX7_judge_7 : decode cX7_judge 7 = .ok (.aload_n 0, 1) := by decide +kernel
theorem dX7_judge_8 : decode cX7_judge 8 = .ok (.getfield 64, 3) := by decide +kernel
theorem dX7_judge_11 : decode cX7_judge 11 = .ok (.iload_n 3, 1) := by decide +kernel
theorem dX7_judge_12 : decode cX7_judge 12 = .ok (.iaload, 1) := by decide +kernel
theorem dX7_judge_13 : decode cX7_judge 13 = .ok (.istore 8, 2) := by decide +kernel
theorem dX7_judge_15 : decode cX7_judge 15 = .ok (.aload_n 0, 1) := by decide +kernel
theorem dX7_judge_16 : decode cX7_judge 16 = .ok (.getfield 67, 3) := by decide +kernel
theorem dX7_judge_19 : decode cX7_judge 19 = .ok (.iload_n 3, 1) := by decide +kernel
theorem dX7_judge_20 : decode cX7_judge 20 = .ok (.baload, 1) := by decide +kernel
theorem dX7_judge_21 : decode cX7_judge 21 = .ok (.ifCond .eq 7, 3) := by decide +kernel
theorem dX7_judge_24 : decode cX7_judge 24 = .ok (.iconst 1, 1) := by decide +kernel
theorem dX7_judge_25 : decode cX7_judge 25 = .ok (.goto 4, 3) := by decide +kernel
theorem dX7_judge_28 : decode cX7_judge 28 = .ok (.iconst 0, 1) := by decide +kernel
theorem dX7_judge_29 : decode cX7_judge 29 = .ok (.istore 9, 2) := by decide +kernel
theorem dX7_judge_31 : decode cX7_judge 31 = .ok (.iconst 0, 1) := by decide +kernel
theorem dX7_judge_32 : decode cX7_judge 32 = .ok (.istore 10, 2) := by decide +kernel
theorem dX7_judge_34 : decode cX7_judge 34 = .ok (.iload 10, 2) := by decide +kernel
theorem dX7_judge_36 : decode cX7_judge 36 = .ok (.iload_n 2, 1) := by decide +kernel
theorem dX7_judge_37 : decode cX7_judge 37 = .ok (.if_icmp .ge 52, 3) := by decide +kernel
theorem dX7_judge_40 : decode cX7_judge 40 = .ok (.iload 8, 2) := by decide +kernel
theorem dX7_judge_42 : decode cX7_judge 42 = .ok (.aload_n 0, 1) := by decide +kernel
theorem dX7_judge_43 : decode cX7_judge 43 = .ok (.getfield 64, 3) := by decide +kernel
theorem dX7_judge_46 : decode cX7_judge 46 = .ok (.aload_n 0, 1) := by decide +kernel
theorem dX7_judge_47 : decode cX7_judge 47 = .ok (.getfield 87, 3) := by decide +kernel
theorem dX7_judge_50 : decode cX7_judge 50 = .ok (.iconst 4, 1) := by decide +kernel
theorem dX7_judge_51 : decode cX7_judge 51 = .ok (.iload_n 1, 1) := by decide +kernel
theorem dX7_judge_52 : decode cX7_judge 52 = .ok (.imul, 1) := by decide +kernel
theorem dX7_judge_53 : decode cX7_judge 53 = .ok (.iload 10, 2) := by decide +kernel
theorem dX7_judge_55 : decode cX7_judge 55 = .ok (.iadd, 1) := by decide +kernel
theorem dX7_judge_56 : decode cX7_judge 56 = .ok (.iaload, 1) := by decide +kernel
theorem dX7_judge_57 : decode cX7_judge 57 = .ok (.iaload, 1) := by decide +kernel
theorem dX7_judge_58 : decode cX7_judge 58 = .ok (.iadd, 1) := by decide +kernel
theorem dX7_judge_59 : decode cX7_judge 59 = .ok (.istore 8, 2) := by decide +kernel
theorem dX7_judge_61 : decode cX7_judge 61 = .ok (.aload_n 0, 1) := by decide +kernel
theorem dX7_judge_62 : decode cX7_judge 62 = .ok (.getfield 67, 3) := by decide +kernel
theorem dX7_judge_65 : decode cX7_judge 65 = .ok (.aload_n 0, 1) := by decide +kernel
theorem dX7_judge_66 : decode cX7_judge 66 = .ok (.getfield 87, 3) := by decide +kernel
theorem dX7_judge_69 : decode cX7_judge 69 = .ok (.iconst 4, 1) := by decide +kernel
theorem dX7_judge_70 : decode cX7_judge 70 = .ok (.iload_n 1, 1) := by decide +kernel
theorem dX7_judge_71 : decode cX7_judge 71 = .ok (.imul, 1) := by decide +kernel
theorem dX7_judge_72 : decode cX7_judge 72 = .ok (.iload 10, 2) := by decide +kernel
theorem dX7_judge_74 : decode cX7_judge 74 = .ok (.iadd, 1) := by decide +kernel
theorem dX7_judge_75 : decode cX7_judge 75 = .ok (.iaload, 1) := by decide +kernel
theorem dX7_judge_76 : decode cX7_judge 76 = .ok (.baload, 1) := by decide +kernel
theorem dX7_judge_77 : decode cX7_judge 77 = .ok (.ifCond .eq 6, 3) := by decide +kernel
theorem dX7_judge_80 : decode cX7_judge 80 = .ok (.iinc 9 1, 3) := by decide +kernel
theorem dX7_judge_83 : decode cX7_judge 83 = .ok (.iinc 10 1, 3) := by decide +kernel
theorem dX7_judge_86 : decode cX7_judge 86 = .ok (.goto (-52), 3) := by decide +kernel
theorem dX7_judge_89 : decode cX7_judge 89 = .ok (.iload 7, 2) := by decide +kernel
theorem dX7_judge_91 : decode cX7_judge 91 = .ok (.aload_n 0, 1) := by decide +kernel
theorem dX7_judge_92 : decode cX7_judge 92 = .ok (.getfield 13, 3) := by decide +kernel
theorem dX7_judge_95 : decode cX7_judge 95 = .ok (.iconst 3, 1) := by decide +kernel
theorem dX7_judge_96 : decode cX7_judge 96 = .ok (.iaload, 1) := by decide +kernel
theorem dX7_judge_97 : decode cX7_judge 97 = .ok (.if_icmp .gt 10, 3) := by decide +kernel
theorem dX7_judge_100 : decode cX7_judge 100 = .ok (.iload 9, 2) := by decide +kernel
theorem dX7_judge_102 : decode cX7_judge 102 = .ok (.iload 6, 2) := by decide +kernel
theorem dX7_judge_104 : decode cX7_judge 104 = .ok (.if_icmp .ge 4, 3) := by decide +kernel
theorem dX7_judge_107 : decode cX7_judge 107 = .ok (.return_, 1) := by decide +kernel
theorem dX7_judge_108 : decode cX7_judge 108 = .ok (.aload_n 0, 1) := by decide +kernel
theorem dX7_judge_109 : decode cX7_judge 109 = .ok (.getfield 225, 3) := by decide +kernel
theorem dX7_judge_112 : decode cX7_judge 112 = .ok (.ifCond .le 50, 3) := by decide +kernel
theorem dX7_judge_115 : decode cX7_judge 115 = .ok (.iload 7, 2) := by decide +kernel
theorem dX7_judge_117 : decode cX7_judge 117 = .ok (.aload_n 0, 1) := by decide +kernel
theorem dX7_judge_118 : decode cX7_judge 118 = .ok (.getfield 228, 3) := by decide +kernel
theorem dX7_judge_121 : decode cX7_judge 121 = .ok (.if_icmp .gt 40, 3) := by decide +kernel
theorem dX7_judge_124 : decode cX7_judge 124 = .ok (.iload 7, 2) := by decide +kernel
theorem dX7_judge_126 : decode cX7_judge 126 = .ok (.aload_n 0, 1) := by decide +kernel
theorem dX7_judge_127 : decode cX7_judge 127 = .ok (.getfield 228, 3) := by decide +kernel
theorem dX7_judge_130 : decode cX7_judge 130 = .ok (.if_icmp .ne 32, 3) := by decide +kernel
theorem dX7_judge_133 : decode cX7_judge 133 = .ok (.iload 8, 2) := by decide +kernel
theorem dX7_judge_135 : decode cX7_judge 135 = .ok (.aload_n 0, 1) := by decide +kernel
theorem dX7_judge_136 : decode cX7_judge 136 = .ok (.getfield 231, 3) := by decide +kernel
theorem dX7_judge_139 : decode cX7_judge 139 = .ok (.if_icmp .lt 22, 3) := by decide +kernel
theorem dX7_judge_142 : decode cX7_judge 142 = .ok (.iload 8, 2) := by decide +kernel
theorem dX7_judge_144 : decode cX7_judge 144 = .ok (.aload_n 0, 1) := by decide +kernel
theorem dX7_judge_145 : decode cX7_judge 145 = .ok (.getfield 231, 3) := by decide +kernel
theorem dX7_judge_148 : decode cX7_judge 148 = .ok (.if_icmp .ne 14, 3) := by decide +kernel
theorem dX7_judge_151 : decode cX7_judge 151 = .ok (.aload_n 0, 1) := by decide +kernel
theorem dX7_judge_152 : decode cX7_judge 152 = .ok (.iload_n 1, 1) := by decide +kernel
theorem dX7_judge_153 : decode cX7_judge 153 = .ok (.iload_n 2, 1) := by decide +kernel
theorem dX7_judge_154 : decode cX7_judge 154 = .ok (.iload_n 3, 1) := by decide +kernel
theorem dX7_judge_155 : decode cX7_judge 155 = .ok (.invokevirtual 234, 3) := by decide +kernel
theorem dX7_judge_158 : decode cX7_judge 158 = .ok (.ifCond .ne 4, 3) := by decide +kernel
theorem dX7_judge_161 : decode cX7_judge 161 = .ok (.return_, 1) := by decide +kernel
theorem dX7_judge_162 : decode cX7_judge 162 = .ok (.iconst 0, 1) := by decide +kernel
theorem dX7_judge_163 : decode cX7_judge 163 = .ok (.istore 10, 2) := by decide +kernel
theorem dX7_judge_165 : decode cX7_judge 165 = .ok (.iload 10, 2) := by decide +kernel
theorem dX7_judge_167 : decode cX7_judge 167 = .ok (.iload_n 2, 1) := by decide +kernel
theorem dX7_judge_168 : decode cX7_judge 168 = .ok (.if_icmp .ge 27, 3) := by decide +kernel
theorem dX7_judge_171 : decode cX7_judge 171 = .ok (.aload_n 0, 1) := by decide +kernel
theorem dX7_judge_172 : decode cX7_judge 172 = .ok (.getfield 99, 3) := by decide +kernel
theorem dX7_judge_175 : decode cX7_judge 175 = .ok (.iload 10, 2) := by decide +kernel
theorem dX7_judge_177 : decode cX7_judge 177 = .ok (.aload_n 0, 1) := by decide +kernel
theorem dX7_judge_178 : decode cX7_judge 178 = .ok (.getfield 87, 3) := by decide +kernel
theorem dX7_judge_181 : decode cX7_judge 181 = .ok (.iconst 4, 1) := by decide +kernel
theorem dX7_judge_182 : decode cX7_judge 182 = .ok (.iload_n 1, 1) := by decide +kernel
theorem dX7_judge_183 : decode cX7_judge 183 = .ok (.imul, 1) := by decide +kernel
theorem dX7_judge_184 : decode cX7_judge 184 = .ok (.iload 10, 2) := by decide +kernel
theorem dX7_judge_186 : decode cX7_judge 186 = .ok (.iadd, 1) := by decide +kernel
theorem dX7_judge_187 : decode cX7_judge 187 = .ok (.iaload, 1) := by decide +kernel
theorem dX7_judge_188 : decode cX7_judge 188 = .ok (.iastore, 1) := by decide +kernel
theorem dX7_judge_189 : decode cX7_judge 189 = .ok (.iinc 10 1, 3) := by decide +kernel
theorem dX7_judge_192 : decode cX7_judge 192 = .ok (.goto (-27), 3) := by decide +kernel
theorem dX7_judge_195 : decode cX7_judge 195 = .ok (.aload_n 0, 1) := by decide +kernel
theorem dX7_judge_196 : decode cX7_judge 196 = .ok (.getfield 99, 3) := by decide +kernel
theorem dX7_judge_199 : decode cX7_judge 199 = .ok (.iload_n 2, 1) := by decide +kernel
theorem dX7_judge_200 : decode cX7_judge 200 = .ok (.iload_n 3, 1) := by decide +kernel
theorem dX7_judge_201 : decode cX7_judge 201 = .ok (.iastore, 1) := by decide +kernel
theorem dX7_judge_202 : decode cX7_judge 202 = .ok (.aload_n 0, 1) := by decide +kernel
theorem dX7_judge_203 : decode cX7_judge 203 = .ok (.iload_n 2, 1) := by decide +kernel
theorem dX7_judge_204 : decode cX7_judge 204 = .ok (.iconst 1, 1) := by decide +kernel
theorem dX7_judge_205 : decode cX7_judge 205 = .ok (.iadd, 1) := by decide +kernel
theorem dX7_judge_206 : decode cX7_judge 206 = .ok (.putfield 225, 3) := by decide +kernel
theorem dX7_judge_209 : decode cX7_judge 209 = .ok (.aload_n 0, 1) := by decide +kernel
theorem dX7_judge_210 : decode cX7_judge 210 = .ok (.iload 7, 2) := by decide +kernel
theorem dX7_judge_212 : decode cX7_judge 212 = .ok (.putfield 228, 3) := by decide +kernel
theorem dX7_judge_215 : decode cX7_judge 215 = .ok (.aload_n 0, 1) := by decide +kernel
theorem dX7_judge_216 : decode cX7_judge 216 = .ok (.iload 8, 2) := by decide +kernel
theorem dX7_judge_218 : decode cX7_judge 218 = .ok (.putfield 231, 3) := by decide +kernel
theorem dX7_judge_221 : decode cX7_judge 221 = .ok (.return_, 1) := by decide +kernel
theorem dX7_comesAhead_0 : decode cX7_comesAhead 0 = .ok (.iconst 0, 1) := by decide +kernel
theorem dX7_comesAhead_1 : decode cX7_comesAhead 1 = .ok (.istore 4, 2) := by decide +kernel
theorem dX7_comesAhead_3 : decode cX7_comesAhead 3 = .ok (.iload 4, 2) := by decide +kernel
theorem dX7_comesAhead_5 : decode cX7_comesAhead 5 = .ok (.iload_n 2, 1) := by decide +kernel
theorem dX7_comesAhead_6 : decode cX7_comesAhead 6 = .ok (.if_icmp .gt 71, 3) := by decide +kernel
theorem dX7_comesAhead_9 : decode cX7_comesAhead 9 = .ok (.iload 4, 2) := by decide +kernel
theorem dX7_comesAhead_11 : decode cX7_comesAhead 11 = .ok (.aload_n 0, 1) := by decide +kernel
theorem dX7_comesAhead_12 : decode cX7_comesAhead 12 = .ok (.getfield 225, 3) := by decide +kernel
theorem dX7_comesAhead_15 : decode cX7_comesAhead 15 = .ok (.if_icmp .ge 62, 3) := by decide +kernel
theorem dX7_comesAhead_18 : decode cX7_comesAhead 18 = .ok (.iload 4, 2) := by decide +kernel
theorem dX7_comesAhead_20 : decode cX7_comesAhead 20 = .ok (.iload_n 2, 1) := by decide +kernel
theorem dX7_comesAhead_21 : decode cX7_comesAhead 21 = .ok (.if_icmp .ge 17, 3) := by decide +kernel
theorem dX7_comesAhead_24 : decode cX7_comesAhead 24 = .ok (.aload_n 0, 1) := by decide +kernel
theorem dX7_comesAhead_25 : decode cX7_comesAhead 25 = .ok (.getfield 87, 3) := by decide +kernel
theorem dX7_comesAhead_28 : decode cX7_comesAhead 28 = .ok (.iconst 4, 1) := by decide +kernel
theorem dX7_comesAhead_29 : decode cX7_comesAhead 29 = .ok (.iload_n 1, 1) := by decide +kernel
theorem dX7_comesAhead_30 : decode cX7_comesAhead 30 = .ok (.imul, 1) := by decide +kernel
theorem dX7_comesAhead_31 : decode cX7_comesAhead 31 = .ok (.iload 4, 2) := by decide +kernel
theorem dX7_comesAhead_33 : decode cX7_comesAhead 33 = .ok (.iadd, 1) := by decide +kernel
theorem dX7_comesAhead_34 : decode cX7_comesAhead 34 = .ok (.iaload, 1) := by decide +kernel
theorem dX7_comesAhead_35 : decode cX7_comesAhead 35 = .ok (.goto 4, 3) := by decide +kernel
theorem dX7_comesAhead_38 : decode cX7_comesAhead 38 = .ok (.iload_n 3, 1) := by decide +kernel
theorem dX7_comesAhead_39 : decode cX7_comesAhead 39 = .ok (.istore 5, 2) := by decide +kernel
theorem dX7_comesAhead_41 : decode cX7_comesAhead 41 = .ok (.iload 5, 2) := by decide +kernel
theorem dX7_comesAhead_43 : decode cX7_comesAhead 43 = .ok (.aload_n 0, 1) := by decide +kernel
theorem dX7_comesAhead_44 : decode cX7_comesAhead 44 = .ok (.getfield 99, 3) := by decide +kernel
theorem dX7_comesAhead_47 : decode cX7_comesAhead 47 = .ok (.iload 4, 2) := by decide +kernel
theorem dX7_comesAhead_49 : decode cX7_comesAhead 49 = .ok (.iaload, 1) := by decide +kernel
theorem dX7_comesAhead_50 : decode cX7_comesAhead 50 = .ok (.if_icmp .eq 21, 3) := by decide +kernel
theorem dX7_comesAhead_53 : decode cX7_comesAhead 53 = .ok (.iload 5, 2) := by decide +kernel
theorem dX7_comesAhead_55 : decode cX7_comesAhead 55 = .ok (.aload_n 0, 1) := by decide +kernel
theorem dX7_comesAhead_56 : decode cX7_comesAhead 56 = .ok (.getfield 99, 3) := by decide +kernel
theorem dX7_comesAhead_59 : decode cX7_comesAhead 59 = .ok (.iload 4, 2) := by decide +kernel
theorem dX7_comesAhead_61 : decode cX7_comesAhead 61 = .ok (.iaload, 1) := by decide +kernel
theorem dX7_comesAhead_62 : decode cX7_comesAhead 62 = .ok (.if_icmp .ge 7, 3) := by decide +kernel
theorem dX7_comesAhead_65 : decode cX7_comesAhead 65 = .ok (.iconst 1, 1) := by decide +kernel
theorem dX7_comesAhead_66 : decode cX7_comesAhead 66 = .ok (.goto 4, 3) := by decide +kernel
theorem dX7_comesAhead_69 : decode cX7_comesAhead 69 = .ok (.iconst 0, 1) := by decide +kernel
theorem dX7_comesAhead_70 : decode cX7_comesAhead 70 = .ok (.ireturn, 1) := by decide +kernel
theorem dX7_comesAhead_71 : decode cX7_comesAhead 71 = .ok (.iinc 4 1, 3) := by decide +kernel
theorem dX7_comesAhead_74 : decode cX7_comesAhead 74 = .ok (.goto (-71), 3) := by decide +kernel
theorem dX7_comesAhead_77 : decode cX7_comesAhead 77 = .ok (.iload_n 2, 1) := by decide +kernel
theorem dX7_comesAhead_78 : decode cX7_comesAhead 78 = .ok (.iconst 1, 1) := by decide +kernel
theorem dX7_comesAhead_79 : decode cX7_comesAhead 79 = .ok (.iadd, 1) := by decide +kernel
theorem dX7_comesAhead_80 : decode cX7_comesAhead 80 = .ok (.aload_n 0, 1) := by decide +kernel
theorem dX7_comesAhead_81 : decode cX7_comesAhead 81 = .ok (.getfield 225, 3) := by decide +kernel
theorem dX7_comesAhead_84 : decode cX7_comesAhead 84 = .ok (.if_icmp .ge 7, 3) := by decide +kernel
theorem dX7_comesAhead_87 : decode cX7_comesAhead 87 = .ok (.iconst 1, 1) := by decide +kernel
theorem dX7_comesAhead_88 : decode cX7_comesAhead 88 = .ok (.goto 4, 3) := by decide +kernel
theorem dX7_comesAhead_91 : decode cX7_comesAhead 91 = .ok (.iconst 0, 1) := by decide +kernel
theorem dX7_comesAhead_92 : decode cX7_comesAhead 92 = .ok (.ireturn, 1) := by decide +kernel
theorem dX7_fits_0 : decode cX7_fits 0 = .ok (.iload_n 3, 1) := by decide +kernel
theorem dX7_fits_1 : decode cX7_fits 1 = .ok (.istore 6, 2) := by decide +kernel
theorem dX7_fits_3 : decode cX7_fits 3 = .ok (.iconst 0, 1) := by decide +kernel
theorem dX7_fits_4 : decode cX7_fits 4 = .ok (.istore 7, 2) := by decide +kernel
theorem dX7_fits_6 : decode cX7_fits 6 = .ok (.iload 7, 2) := by decide +kernel
theorem dX7_fits_8 : decode cX7_fits 8 = .ok (.iload_n 2, 1) := by decide +kernel
theorem dX7_fits_9 : decode cX7_fits 9 = .ok (.if_icmp .ge 52, 3) := by decide +kernel
theorem dX7_fits_12 : decode cX7_fits 12 = .ok (.aload_n 0, 1) := by decide +kernel
theorem dX7_fits_13 : decode cX7_fits 13 = .ok (.getfield 87, 3) := by decide +kernel
theorem dX7_fits_16 : decode cX7_fits 16 = .ok (.iconst 4, 1) := by decide +kernel
theorem dX7_fits_17 : decode cX7_fits 17 = .ok (.iload_n 1, 1) := by decide +kernel
theorem dX7_fits_18 : decode cX7_fits 18 = .ok (.imul, 1) := by decide +kernel
theorem dX7_fits_19 : decode cX7_fits 19 = .ok (.iload 7, 2) := by decide +kernel
theorem dX7_fits_21 : decode cX7_fits 21 = .ok (.iadd, 1) := by decide +kernel
theorem dX7_fits_22 : decode cX7_fits 22 = .ok (.iaload, 1) := by decide +kernel
theorem dX7_fits_23 : decode cX7_fits 23 = .ok (.istore 8, 2) := by decide +kernel
theorem dX7_fits_25 : decode cX7_fits 25 = .ok (.iload 5, 2) := by decide +kernel
theorem dX7_fits_27 : decode cX7_fits 27 = .ok (.iload 6, 2) := by decide +kernel
theorem dX7_fits_29 : decode cX7_fits 29 = .ok (.isub, 1) := by decide +kernel
theorem dX7_fits_30 : decode cX7_fits 30 = .ok (.aload_n 0, 1) := by decide +kernel
theorem dX7_fits_31 : decode cX7_fits 31 = .ok (.iload 8, 2) := by decide +kernel
theorem dX7_fits_33 : decode cX7_fits 33 = .ok (.iload 4, 2) := by decide +kernel
theorem dX7_fits_35 : decode cX7_fits 35 = .ok (.invokevirtual 221, 3) := by decide +kernel
theorem dX7_fits_38 : decode cX7_fits 38 = .ok (.if_icmp .ge 5, 3) := by decide +kernel
theorem dX7_fits_41 : decode cX7_fits 41 = .ok (.iconst 0, 1) := by decide +kernel
theorem dX7_fits_42 : decode cX7_fits 42 = .ok (.ireturn, 1) := by decide +kernel
theorem dX7_fits_43 : decode cX7_fits 43 = .ok (.iload 6, 2) := by decide +kernel
theorem dX7_fits_45 : decode cX7_fits 45 = .ok (.aload_n 0, 1) := by decide +kernel
theorem dX7_fits_46 : decode cX7_fits 46 = .ok (.getfield 40, 3) := by decide +kernel
theorem dX7_fits_49 : decode cX7_fits 49 = .ok (.iload 8, 2) := by decide +kernel
theorem dX7_fits_51 : decode cX7_fits 51 = .ok (.iaload, 1) := by decide +kernel
theorem dX7_fits_52 : decode cX7_fits 52 = .ok (.iadd, 1) := by decide +kernel
theorem dX7_fits_53 : decode cX7_fits 53 = .ok (.istore 6, 2) := by decide +kernel
theorem dX7_fits_55 : decode cX7_fits 55 = .ok (.iinc 7 1, 3) := by decide +kernel
theorem dX7_fits_58 : decode cX7_fits 58 = .ok (.goto (-52), 3) := by decide +kernel
theorem dX7_fits_61 : decode cX7_fits 61 = .ok (.iload_n 2, 1) := by decide +kernel
theorem dX7_fits_62 : decode cX7_fits 62 = .ok (.ifCond .ne 52, 3) := by decide +kernel
theorem dX7_fits_65 : decode cX7_fits 65 = .ok (.aload_n 0, 1) := by decide +kernel
theorem dX7_fits_66 : decode cX7_fits 66 = .ok (.getfield 218, 3) := by decide +kernel
theorem dX7_fits_69 : decode cX7_fits 69 = .ok (.ifCond .eq 37, 3) := by decide +kernel
theorem dX7_fits_72 : decode cX7_fits 72 = .ok (.aload_n 0, 1) := by decide +kernel
theorem dX7_fits_73 : decode cX7_fits 73 = .ok (.aload_n 0, 1) := by decide +kernel
theorem dX7_fits_74 : decode cX7_fits 74 = .ok (.getfield 218, 3) := by decide +kernel
theorem dX7_fits_77 : decode cX7_fits 77 = .ok (.iconst 1, 1) := by decide +kernel
theorem dX7_fits_78 : decode cX7_fits 78 = .ok (.isub, 1) := by decide +kernel
theorem dX7_fits_79 : decode cX7_fits 79 = .ok (.invokevirtual 237, 3) := by decide +kernel
theorem dX7_fits_82 : decode cX7_fits 82 = .ok (.iload_n 3, 1) := by decide +kernel
theorem dX7_fits_83 : decode cX7_fits 83 = .ok (.if_icmp .ne 23, 3) := by decide +kernel
theorem dX7_fits_86 : decode cX7_fits 86 = .ok (.aload_n 0, 1) := by decide +kernel
theorem dX7_fits_87 : decode cX7_fits 87 = .ok (.aload_n 0, 1) := by decide +kernel
theorem dX7_fits_88 : decode cX7_fits 88 = .ok (.getfield 71, 3) := by decide +kernel
theorem dX7_fits_91 : decode cX7_fits 91 = .ok (.aload_n 0, 1) := by decide +kernel
theorem dX7_fits_92 : decode cX7_fits 92 = .ok (.getfield 218, 3) := by decide +kernel
theorem dX7_fits_95 : decode cX7_fits 95 = .ok (.iconst 1, 1) := by decide +kernel
theorem dX7_fits_96 : decode cX7_fits 96 = .ok (.isub, 1) := by decide +kernel
theorem dX7_fits_97 : decode cX7_fits 97 = .ok (.iaload, 1) := by decide +kernel
theorem dX7_fits_98 : decode cX7_fits 98 = .ok (.iload 4, 2) := by decide +kernel
theorem dX7_fits_100 : decode cX7_fits 100 = .ok (.invokevirtual 240, 3) := by decide +kernel
theorem dX7_fits_103 : decode cX7_fits 103 = .ok (.ifCond .eq 7, 3) := by decide +kernel
theorem dX7_fits_106 : decode cX7_fits 106 = .ok (.iconst 1, 1) := by decide +kernel
theorem dX7_fits_107 : decode cX7_fits 107 = .ok (.goto 25, 3) := by decide +kernel
theorem dX7_fits_110 : decode cX7_fits 110 = .ok (.iconst 0, 1) := by decide +kernel
theorem dX7_fits_111 : decode cX7_fits 111 = .ok (.goto 21, 3) := by decide +kernel
theorem dX7_fits_114 : decode cX7_fits 114 = .ok (.aload_n 0, 1) := by decide +kernel
theorem dX7_fits_115 : decode cX7_fits 115 = .ok (.aload_n 0, 1) := by decide +kernel
theorem dX7_fits_116 : decode cX7_fits 116 = .ok (.getfield 87, 3) := by decide +kernel
theorem dX7_fits_119 : decode cX7_fits 119 = .ok (.iconst 4, 1) := by decide +kernel
theorem dX7_fits_120 : decode cX7_fits 120 = .ok (.iload_n 1, 1) := by decide +kernel
theorem dX7_fits_121 : decode cX7_fits 121 = .ok (.imul, 1) := by decide +kernel
theorem dX7_fits_122 : decode cX7_fits 122 = .ok (.iload_n 2, 1) := by decide +kernel
theorem dX7_fits_123 : decode cX7_fits 123 = .ok (.iadd, 1) := by decide +kernel
theorem dX7_fits_124 : decode cX7_fits 124 = .ok (.iconst 1, 1) := by decide +kernel
theorem dX7_fits_125 : decode cX7_fits 125 = .ok (.isub, 1) := by decide +kernel
theorem dX7_fits_126 : decode cX7_fits 126 = .ok (.iaload, 1) := by decide +kernel
theorem dX7_fits_127 : decode cX7_fits 127 = .ok (.iload 4, 2) := by decide +kernel
theorem dX7_fits_129 : decode cX7_fits 129 = .ok (.invokevirtual 240, 3) := by decide +kernel
theorem dX7_fits_132 : decode cX7_fits 132 = .ok (.ireturn, 1) := by decide +kernel
theorem dX7_fill_0 : decode cX7_fill 0 = .ok (.aload_n 0, 1) := by decide +kernel
theorem dX7_fill_1 : decode cX7_fill 1 = .ok (.invokevirtual 243, 3) := by decide +kernel
theorem dX7_fill_4 : decode cX7_fill 4 = .ok (.aload_n 0, 1) := by decide +kernel
theorem dX7_fill_5 : decode cX7_fill 5 = .ok (.iconst 0, 1) := by decide +kernel
theorem dX7_fill_6 : decode cX7_fill 6 = .ok (.putfield 225, 3) := by decide +kernel
theorem dX7_fill_9 : decode cX7_fill 9 = .ok (.aload_n 0, 1) := by decide +kernel
theorem dX7_fill_10 : decode cX7_fill 10 = .ok (.iconst 1, 1) := by decide +kernel
theorem dX7_fill_11 : decode cX7_fill 11 = .ok (.putfield 246, 3) := by decide +kernel
theorem dX7_fill_14 : decode cX7_fill 14 = .ok (.aload_n 0, 1) := by decide +kernel
theorem dX7_fill_15 : decode cX7_fill 15 = .ok (.getfield 93, 3) := by decide +kernel
theorem dX7_fill_18 : decode cX7_fill 18 = .ok (.iconst 0, 1) := by decide +kernel
theorem dX7_fill_19 : decode cX7_fill 19 = .ok (.iconst 0, 1) := by decide +kernel
theorem dX7_fill_20 : decode cX7_fill 20 = .ok (.iastore, 1) := by decide +kernel
theorem dX7_fill_21 : decode cX7_fill 21 = .ok (.iconst 0, 1) := by decide +kernel
theorem dX7_fill_22 : decode cX7_fill 22 = .ok (.istore 5, 2) := by decide +kernel
theorem dX7_fill_24 : decode cX7_fill 24 = .ok (.iload 5, 2) := by decide +kernel
theorem dX7_fill_26 : decode cX7_fill 26 = .ok (.aload_n 0, 1) := by decide +kernel
theorem dX7_fill_27 : decode cX7_fill 27 = .ok (.getfield 13, 3) := by decide +kernel
theorem dX7_fill_30 : decode cX7_fill 30 = .ok (.iconst 4, 1) := by decide +kernel
theorem dX7_fill_31 : decode cX7_fill 31 = .ok (.iaload, 1) := by decide +kernel
theorem dX7_fill_32 : decode cX7_fill 32 = .ok (.if_icmp .ge 318, 3) := by decide +kernel
theorem dX7_fill_35 : decode cX7_fill 35 = .ok (.aload_n 0, 1) := by decide +kernel
theorem dX7_fill_36 : decode cX7_fill 36 = .ok (.iconst 0, 1) := by decide +kernel
theorem dX7_fill_37 : decode cX7_fill 37 = .ok (.putfield 249, 3) := by decide +kernel
theorem dX7_fill_40 : decode cX7_fill 40 = .ok (.iconst 0, 1) := by decide +kernel
theorem dX7_fill_41 : decode cX7_fill 41 = .ok (.istore 6, 2) := by decide +kernel
theorem dX7_fill_43 : decode cX7_fill 43 = .ok (.iload 6, 2) := by decide +kernel
theorem dX7_fill_45 : decode cX7_fill 45 = .ok (.aload_n 0, 1) := by decide +kernel
theorem dX7_fill_46 : decode cX7_fill 46 = .ok (.getfield 246, 3) := by decide +kernel
theorem dX7_fill_49 : decode cX7_fill 49 = .ok (.if_icmp .ge 221, 3) := by decide +kernel
theorem dX7_fill_52 : decode cX7_fill 52 = .ok (.iconst 0, 1) := by decide +kernel
theorem dX7_fill_53 : decode cX7_fill 53 = .ok (.istore 7, 2) := by decide +kernel
theorem dX7_fill_55 : decode cX7_fill 55 = .ok (.iload 7, 2) := by decide +kernel
theorem dX7_fill_57 : decode cX7_fill 57 = .ok (.aload_n 0, 1) := by decide +kernel
theorem dX7_fill_58 : decode cX7_fill 58 = .ok (.getfield 205, 3) := by decide +kernel
theorem dX7_fill_61 : decode cX7_fill 61 = .ok (.if_icmp .ge 203, 3) := by decide +kernel
theorem dX7_fill_64 : decode cX7_fill 64 = .ok (.aload_n 0, 1) := by decide +kernel
theorem dX7_fill_65 : decode cX7_fill 65 = .ok (.getfield 93, 3) := by decide +kernel
theorem dX7_fill_68 : decode cX7_fill 68 = .ok (.iload 6, 2) := by decide +kernel
theorem dX7_fill_70 : decode cX7_fill 70 = .ok (.iaload, 1) := by decide +kernel
theorem dX7_fill_71 : decode cX7_fill 71 = .ok (.aload_n 0, 1) := by decide +kernel
theorem dX7_fill_72 : decode cX7_fill 72 = .ok (.getfield 40, 3) := by decide +kernel
theorem dX7_fill_75 : decode cX7_fill 75 = .ok (.iload 7, 2) := by decide +kernel
theorem dX7_fill_77 : decode cX7_fill 77 = .ok (.iaload, 1) := by decide +kernel
theorem dX7_fill_78 : decode cX7_fill 78 = .ok (.iadd, 1) := by decide +kernel
theorem dX7_fill_79 : decode cX7_fill 79 = .ok (.istore 8, 2) := by decide +kernel
theorem dX7_fill_81 : decode cX7_fill 81 = .ok (.iload 8, 2) := by decide +kernel
theorem dX7_fill_83 : decode cX7_fill 83 = .ok (.iload_n 2, 1) := by decide +kernel
theorem dX7_fill_84 : decode cX7_fill 84 = .ok (.if_icmp .gt 174, 3) := by decide +kernel
theorem dX7_fill_87 : decode cX7_fill 87 = .ok (.iload_n 3, 1) := by decide +kernel
theorem dX7_fill_88 : decode cX7_fill 88 = .ok (.iconst (-1), 1) := by decide +kernel
theorem dX7_fill_89 : decode cX7_fill 89 = .ok (.if_icmp .eq 14, 3) := by decide +kernel
theorem dX7_fill_92 : decode cX7_fill 92 = .ok (.aload_n 0, 1) := by decide +kernel
theorem dX7_fill_93 : decode cX7_fill 93 = .ok (.getfield 49, 3) := by decide +kernel
theorem dX7_fill_96 : decode cX7_fill 96 = .ok (.iload 7, 2) := by decide +kernel
theorem dX7_fill_98 : decode cX7_fill 98 = .ok (.iaload, 1) := by decide +kernel
theorem dX7_fill_99 : decode cX7_fill 99 = .ok (.iload_n 3, 1) := by decide +kernel
theorem dX7_fill_100 : decode cX7_fill 100 = .ok (.if_icmp .ne 158, 3) := by decide +kernel
theorem dX7_fill_103 : decode cX7_fill 103 = .ok (.iload_n 1, 1) := by decide +kernel
theorem dX7_fill_104 : decode cX7_fill 104 = .ok (.aload_n 0, 1) := by decide +kernel
theorem dX7_fill_105 : decode cX7_fill 105 = .ok (.getfield 93, 3) := by decide +kernel
theorem dX7_fill_108 : decode cX7_fill 108 = .ok (.iload 6, 2) := by decide +kernel
theorem dX7_fill_110 : decode cX7_fill 110 = .ok (.iaload, 1) := by decide +kernel
theorem dX7_fill_111 : decode cX7_fill 111 = .ok (.iadd, 1) := by decide +kernel
theorem dX7_fill_112 : decode cX7_fill 112 = .ok (.aload_n 0, 1) := by decide +kernel
theorem dX7_fill_113 : decode cX7_fill 113 = .ok (.getfield 83, 3) := by decide +kernel
theorem dX7_fill_116 : decode cX7_fill 116 = .ok (.iload 7, 2) := by decide +kernel
theorem dX7_fill_118 : decode cX7_fill 118 = .ok (.iaload, 1) := by decide +kernel
theorem dX7_fill_119 : decode cX7_fill 119 = .ok (.if_icmp .lt 139, 3) := by decide +kernel
theorem dX7_fill_122 : decode cX7_fill 122 = .ok (.aload_n 0, 1) := by decide +kernel
theorem dX7_fill_123 : decode cX7_fill 123 = .ok (.iload 6, 2) := by decide +kernel
theorem dX7_fill_125 : decode cX7_fill 125 = .ok (.iload 5, 2) := by decide +kernel
theorem dX7_fill_127 : decode cX7_fill 127 = .ok (.iload_n 1, 1) := by decide +kernel
theorem dX7_fill_128 : decode cX7_fill 128 = .ok (.iload 7, 2) := by decide +kernel
theorem dX7_fill_130 : decode cX7_fill 130 = .ok (.iload_n 1, 1) := by decide +kernel
theorem dX7_fill_131 : decode cX7_fill 131 = .ok (.aload_n 0, 1) := by decide +kernel
theorem dX7_fill_132 : decode cX7_fill 132 = .ok (.getfield 93, 3) := by decide +kernel
theorem dX7_fill_135 : decode cX7_fill 135 = .ok (.iload 6, 2) := by decide +kernel
theorem dX7_fill_137 : decode cX7_fill 137 = .ok (.iaload, 1) := by decide +kernel
theorem dX7_fill_138 : decode cX7_fill 138 = .ok (.iadd, 1) := by decide +kernel
theorem dX7_fill_139 : decode cX7_fill 139 = .ok (.invokevirtual 252, 3) := by decide +kernel
theorem dX7_fill_142 : decode cX7_fill 142 = .ok (.ifCond .ne 6, 3) := by decide +kernel
theorem dX7_fill_145 : decode cX7_fill 145 = .ok (.goto 113, 3) := by decide +kernel
theorem dX7_fill_148 : decode cX7_fill 148 = .ok (.aload_n 0, 1) := by decide +kernel
theorem dX7_fill_149 : decode cX7_fill 149 = .ok (.iload 6, 2) := by decide +kernel
theorem dX7_fill_151 : decode cX7_fill 151 = .ok (.iload 5, 2) := by decide +kernel
theorem dX7_fill_153 : decode cX7_fill 153 = .ok (.iload 7, 2) := by decide +kernel
theorem dX7_fill_155 : decode cX7_fill 155 = .ok (.iload_n 2, 1) := by decide +kernel
theorem dX7_fill_156 : decode cX7_fill 156 = .ok (.iload 8, 2) := by decide +kernel
theorem dX7_fill_158 : decode cX7_fill 158 = .ok (.iload 4, 2) := by decide +kernel
theorem dX7_fill_160 : decode cX7_fill 160 = .ok (.invokevirtual 256, 3) := by decide +kernel
theorem dX7_fill_163 : decode cX7_fill 163 = .ok (.iload 5, 2) := by decide +kernel
theorem dX7_fill_165 : decode cX7_fill 165 = .ok (.iconst 1, 1) := by decide +kernel
theorem dX7_fill_166 : decode cX7_fill 166 = .ok (.iadd, 1) := by decide +kernel
theorem dX7_fill_167 : decode cX7_fill 167 = .ok (.aload_n 0, 1) := by decide +kernel
theorem dX7_fill_168 : decode cX7_fill 168 = .ok (.getfield 13, 3) := by decide +kernel
theorem dX7_fill_171 : decode cX7_fill 171 = .ok (.iconst 4, 1) := by decide +kernel
theorem dX7_fill_172 : decode cX7_fill 172 = .ok (.iaload, 1) := by decide +kernel
theorem dX7_fill_173 : decode cX7_fill 173 = .ok (.if_icmp .ne 6, 3) := by decide +kernel
theorem dX7_fill_176 : decode cX7_fill 176 = .ok (.goto 82, 3) := by decide +kernel
theorem dX7_fill_179 : decode cX7_fill 179 = .ok (.iconst 0, 1) := by decide +kernel
theorem dX7_fill_180 : decode cX7_fill 180 = .ok (.istore 9, 2) := by decide +kernel
theorem dX7_fill_182 : decode cX7_fill 182 = .ok (.iload 9, 2) := by decide +kernel
theorem dX7_fill_184 : decode cX7_fill 184 = .ok (.iload 5, 2) := by decide +kernel
theorem dX7_fill_186 : decode cX7_fill 186 = .ok (.if_icmp .ge 35, 3) := by decide +kernel
theorem dX7_fill_189 : decode cX7_fill 189 = .ok (.aload_n 0, 1) := by decide +kernel
theorem dX7_fill_190 : decode cX7_fill 190 = .ok (.getfield 90, 3) := by decide +kernel
theorem dX7_fill_193 : decode cX7_fill 193 = .ok (.iconst 4, 1) := by decide +kernel
theorem dX7_fill_194 : decode cX7_fill 194 = .ok (.aload_n 0, 1) := by decide +kernel
theorem dX7_fill_195 : decode cX7_fill 195 = .ok (.getfield 249, 3) := by decide +kernel
theorem dX7_fill_198 : decode cX7_fill 198 = .ok (.imul, 1) := by decide +kernel
theorem dX7_fill_199 : decode cX7_fill 199 = .ok (.iload 9, 2) := by decide +kernel
theorem dX7_fill_201 : decode cX7_fill 201 = .ok (.iadd, 1) := by decide +kernel
theorem dX7_fill_202 : decode cX7_fill 202 = .ok (.aload_n 0, 1) := by decide +kernel
theorem dX7_fill_203 : decode cX7_fill 203 = .ok (.getfield 87, 3) := by decide +kernel
theorem dX7_fill_206 : decode cX7_fill 206 = .ok (.iconst 4, 1) := by decide +kernel
theorem dX7_fill_207 : decode cX7_fill 207 = .ok (.iload 6, 2) := by decide +kernel
theorem dX7_fill_209 : decode cX7_fill 209 = .ok (.imul, 1) := by decide +kernel
theorem dX7_fill_210 : decode cX7_fill 210 = .ok (.iload 9, 2) := by decide +kernel
theorem dX7_fill_212 : decode cX7_fill 212 = .ok (.iadd, 1) := by decide +kernel
theorem dX7_fill_213 : decode cX7_fill 213 = .ok (.iaload, 1) := by decide +kernel
theorem dX7_fill_214 : decode cX7_fill 214 = .ok (.iastore, 1) := by decide +kernel
theorem dX7_fill_215 : decode cX7_fill 215 = .ok (.iinc 9 1, 3) := by decide +kernel
theorem dX7_fill_218 : decode cX7_fill 218 = .ok (.goto (-36), 3) := by decide +kernel
theorem dX7_fill_221 : decode cX7_fill 221 = .ok (.aload_n 0, 1) := by decide +kernel
theorem dX7_fill_222 : decode cX7_fill 222 = .ok (.getfield 90, 3) := by decide +kernel
theorem dX7_fill_225 : decode cX7_fill 225 = .ok (.iconst 4, 1) := by decide +kernel
theorem dX7_fill_226 : decode cX7_fill 226 = .ok (.aload_n 0, 1) := by decide +kernel
theorem dX7_fill_227 : decode cX7_fill 227 = .ok (.getfield 249, 3) := by decide +kernel
theorem dX7_fill_230 : decode cX7_fill 230 = .ok (.imul, 1) := by decide +kernel
theorem dX7_fill_231 : decode cX7_fill 231 = .ok (.iload 5, 2) := by decide +kernel
theorem dX7_fill_233 : decode cX7_fill 233 = .ok (.iadd, 1) := by decide +kernel
theorem dX7_fill_234 : decode cX7_fill 234 = .ok (.iload 7, 2) := by decide +kernel
theorem dX7_fill_236 : decode cX7_fill 236 = .ok (.iastore, 1) := by decide +kernel
theorem dX7_fill_237 : decode cX7_fill 237 = .ok (.aload_n 0, 1) := by decide +kernel
theorem dX7_fill_238 : decode cX7_fill 238 = .ok (.getfield 96, 3) := by decide +kernel
theorem dX7_fill_241 : decode cX7_fill 241 = .ok (.aload_n 0, 1) := by decide +kernel
theorem dX7_fill_242 : decode cX7_fill 242 = .ok (.getfield 249, 3) := by decide +kernel
theorem dX7_fill_245 : decode cX7_fill 245 = .ok (.iload 8, 2) := by decide +kernel
theorem dX7_fill_247 : decode cX7_fill 247 = .ok (.iastore, 1) := by decide +kernel
theorem dX7_fill_248 : decode cX7_fill 248 = .ok (.aload_n 0, 1) := by decide +kernel
theorem dX7_fill_249 : decode cX7_fill 249 = .ok (.dup, 1) := by decide +kernel
theorem dX7_fill_250 : decode cX7_fill 250 = .ok (.getfield 249, 3) := by decide +kernel
theorem dX7_fill_253 : decode cX7_fill 253 = .ok (.iconst 1, 1) := by decide +kernel
theorem dX7_fill_254 : decode cX7_fill 254 = .ok (.iadd, 1) := by decide +kernel
theorem dX7_fill_255 : decode cX7_fill 255 = .ok (.putfield 249, 3) := by decide +kernel
theorem dX7_fill_258 : decode cX7_fill 258 = .ok (.iinc 7 1, 3) := by decide +kernel
theorem dX7_fill_261 : decode cX7_fill 261 = .ok (.goto (-206), 3) := by decide +kernel
theorem dX7_fill_264 : decode cX7_fill 264 = .ok (.iinc 6 1, 3) := by decide +kernel
theorem dX7_fill_267 : decode cX7_fill 267 = .ok (.goto (-224), 3) := by decide +kernel
theorem dX7_fill_270 : decode cX7_fill 270 = .ok (.aload_n 0, 1) := by decide +kernel
theorem dX7_fill_271 : decode cX7_fill 271 = .ok (.aload_n 0, 1) := by decide +kernel
theorem dX7_fill_272 : decode cX7_fill 272 = .ok (.getfield 249, 3) := by decide +kernel
theorem dX7_fill_275 : decode cX7_fill 275 = .ok (.putfield 246, 3) := by decide +kernel
theorem dX7_fill_278 : decode cX7_fill 278 = .ok (.iconst 0, 1) := by decide +kernel
theorem dX7_fill_279 : decode cX7_fill 279 = .ok (.istore 6, 2) := by decide +kernel
theorem dX7_fill_281 : decode cX7_fill 281 = .ok (.iload 6, 2) := by decide +kernel
theorem dX7_fill_283 : decode cX7_fill 283 = .ok (.iconst 4, 1) := by decide +kernel
theorem dX7_fill_284 : decode cX7_fill 284 = .ok (.aload_n 0, 1) := by decide +kernel
theorem dX7_fill_285 : decode cX7_fill 285 = .ok (.getfield 249, 3) := by decide +kernel
theorem dX7_fill_288 : decode cX7_fill 288 = .ok (.imul, 1) := by decide +kernel
theorem dX7_fill_289 : decode cX7_fill 289 = .ok (.if_icmp .ge 23, 3) := by decide +kernel
theorem dX7_fill_292 : decode cX7_fill 292 = .ok (.aload_n 0, 1) := by decide +kernel
theorem dX7_fill_293 : decode cX7_fill 293 = .ok (.getfield 87, 3) := by decide +kernel
theorem dX7_fill_296 : decode cX7_fill 296 = .ok (.iload 6, 2) := by decide +kernel
theorem dX7_fill_298 : decode cX7_fill 298 = .ok (.aload_n 0, 1) := by decide +kernel
theorem dX7_fill_299 : decode cX7_fill 299 = .ok (.getfield 90, 3) := by decide +kernel
theorem dX7_fill_302 : decode cX7_fill 302 = .ok (.iload 6, 2) := by decide +kernel
theorem dX7_fill_304 : decode cX7_fill 304 = .ok (.iaload, 1) := by decide +kernel
theorem dX7_fill_305 : decode cX7_fill 305 = .ok (.iastore, 1) := by decide +kernel
theorem dX7_fill_306 : decode cX7_fill 306 = .ok (.iinc 6 1, 3) := by decide +kernel
theorem dX7_fill_309 : decode cX7_fill 309 = .ok (.goto (-28), 3) := by decide +kernel
theorem dX7_fill_312 : decode cX7_fill 312 = .ok (.iconst 0, 1) := by decide +kernel
theorem dX7_fill_313 : decode cX7_fill 313 = .ok (.istore 6, 2) := by decide +kernel
theorem dX7_fill_315 : decode cX7_fill 315 = .ok (.iload 6, 2) := by decide +kernel
theorem dX7_fill_317 : decode cX7_fill 317 = .ok (.aload_n 0, 1) := by decide +kernel
theorem dX7_fill_318 : decode cX7_fill 318 = .ok (.getfield 249, 3) := by decide +kernel
theorem dX7_fill_321 : decode cX7_fill 321 = .ok (.if_icmp .ge 23, 3) := by decide +kernel
theorem dX7_fill_324 : decode cX7_fill 324 = .ok (.aload_n 0, 1) := by decide +kernel
theorem dX7_fill_325 : decode cX7_fill 325 = .ok (.getfield 93, 3) := by decide +kernel
theorem dX7_fill_328 : decode cX7_fill 328 = .ok (.iload 6, 2) := by decide +kernel
theorem dX7_fill_330 : decode cX7_fill 330 = .ok (.aload_n 0, 1) := by decide +kernel
theorem dX7_fill_331 : decode cX7_fill 331 = .ok (.getfield 96, 3) := by decide +kernel
theorem dX7_fill_334 : decode cX7_fill 334 = .ok (.iload 6, 2) := by decide +kernel
theorem dX7_fill_336 : decode cX7_fill 336 = .ok (.iaload, 1) := by decide +kernel
theorem dX7_fill_337 : decode cX7_fill 337 = .ok (.iastore, 1) := by decide +kernel
theorem dX7_fill_338 : decode cX7_fill 338 = .ok (.iinc 6 1, 3) := by decide +kernel
theorem dX7_fill_341 : decode cX7_fill 341 = .ok (.goto (-26), 3) := by decide +kernel
theorem dX7_fill_344 : decode cX7_fill 344 = .ok (.iinc 5 1, 3) := by decide +kernel
theorem dX7_fill_347 : decode cX7_fill 347 = .ok (.goto (-323), 3) := by decide +kernel
theorem dX7_fill_350 : decode cX7_fill 350 = .ok (.return_, 1) := by decide +kernel
theorem dX7_layStretch_0 : decode cX7_layStretch 0 = .ok (.aload_n 0, 1) := by decide +kernel
theorem dX7_layStretch_1 : decode cX7_layStretch 1 = .ok (.iload_n 3, 1) := by decide +kernel
theorem dX7_layStretch_2 : decode cX7_layStretch 2 = .ok (.aload_n 0, 1) := by decide +kernel
theorem dX7_layStretch_3 : decode cX7_layStretch 3 = .ok (.getfield 31, 3) := by decide +kernel
theorem dX7_layStretch_6 : decode cX7_layStretch 6 = .ok (.iload_n 1, 1) := by decide +kernel
theorem dX7_layStretch_7 : decode cX7_layStretch 7 = .ok (.iaload, 1) := by decide +kernel
theorem dX7_layStretch_8 : decode cX7_layStretch 8 = .ok (.aload_n 0, 1) := by decide +kernel
theorem dX7_layStretch_9 : decode cX7_layStretch 9 = .ok (.getfield 34, 3) := by decide +kernel
theorem dX7_layStretch_12 : decode cX7_layStretch 12 = .ok (.iload_n 1, 1) := by decide +kernel
theorem dX7_layStretch_13 : decode cX7_layStretch 13 = .ok (.iaload, 1) := by decide +kernel
theorem dX7_layStretch_14 : decode cX7_layStretch 14 = .ok (.aload_n 0, 1) := by decide +kernel
theorem dX7_layStretch_15 : decode cX7_layStretch 15 = .ok (.getfield 37, 3) := by decide +kernel
theorem dX7_layStretch_18 : decode cX7_layStretch 18 = .ok (.iload_n 1, 1) := by decide +kernel
theorem dX7_layStretch_19 : decode cX7_layStretch 19 = .ok (.iaload, 1) := by decide +kernel
theorem dX7_layStretch_20 : decode cX7_layStretch 20 = .ok (.invokevirtual 260, 3) := by decide +kernel
theorem dX7_layStretch_23 : decode cX7_layStretch 23 = .ok (.iload_n 3, 1) := by decide +kernel
theorem dX7_layStretch_24 : decode cX7_layStretch 24 = .ok (.istore 4, 2) := by decide +kernel
theorem dX7_layStretch_26 : decode cX7_layStretch 26 = .ok (.iconst 0, 1) := by decide +kernel
theorem dX7_layStretch_27 : decode cX7_layStretch 27 = .ok (.istore 5, 2) := by decide +kernel
theorem dX7_layStretch_29 : decode cX7_layStretch 29 = .ok (.iload 5, 2) := by decide +kernel
theorem dX7_layStretch_31 : decode cX7_layStretch 31 = .ok (.aload_n 0, 1) := by decide +kernel
theorem dX7_layStretch_32 : decode cX7_layStretch 32 = .ok (.getfield 225, 3) := by decide +kernel
theorem dX7_layStretch_35 : decode cX7_layStretch 35 = .ok (.if_icmp .ge 104, 3) := by decide +kernel
theorem dX7_layStretch_38 : decode cX7_layStretch 38 = .ok (.aload_n 0, 1) := by decide +kernel
theorem dX7_layStretch_39 : decode cX7_layStretch 39 = .ok (.getfield 99, 3) := by decide +kernel
theorem dX7_layStretch_42 : decode cX7_layStretch 42 = .ok (.iload 5, 2) := by decide +kernel
theorem dX7_layStretch_44 : decode cX7_layStretch 44 = .ok (.iaload, 1) := by decide +kernel
theorem dX7_layStretch_45 : decode cX7_layStretch 45 = .ok (.istore 6, 2) := by decide +kernel
theorem dX7_layStretch_47 : decode cX7_layStretch 47 = .ok (.aload_n 0, 1) := by decide +kernel
theorem dX7_layStretch_48 : decode cX7_layStretch 48 = .ok (.getfield 71, 3) := by decide +kernel
theorem dX7_layStretch_51 : decode cX7_layStretch 51 = .ok (.aload_n 0, 1) := by decide +kernel
theorem dX7_layStretch_52 : decode cX7_layStretch 52 = .ok (.getfield 218, 3) := by decide +kernel
theorem dX7_layStretch_55 : decode cX7_layStretch 55 = .ok (.iload 6, 2) := by decide +kernel
theorem dX7_layStretch_57 : decode cX7_layStretch 57 = .ok (.iastore, 1) := by decide +kernel
theorem dX7_layStretch_58 : decode cX7_layStretch 58 = .ok (.aload_n 0, 1) := by decide +kernel
theorem dX7_layStretch_59 : decode cX7_layStretch 59 = .ok (.getfield 74, 3) := by decide +kernel
theorem dX7_layStretch_62 : decode cX7_layStretch 62 = .ok (.aload_n 0, 1) := by decide +kernel
theorem dX7_layStretch_63 : decode cX7_layStretch 63 = .ok (.getfield 218, 3) := by decide +kernel
theorem dX7_layStretch_66 : decode cX7_layStretch 66 = .ok (.iload 4, 2) := by decide +kernel
theorem dX7_layStretch_68 : decode cX7_layStretch 68 = .ok (.iastore, 1) := by decide +kernel
theorem dX7_layStretch_69 : decode cX7_layStretch 69 = .ok (.aload_n 0, 1) := by decide +kernel
theorem dX7_layStretch_70 : decode cX7_layStretch 70 = .ok (.getfield 77, 3) := by decide +kernel
theorem dX7_layStretch_73 : decode cX7_layStretch 73 = .ok (.aload_n 0, 1) := by decide +kernel
theorem dX7_layStretch_74 : decode cX7_layStretch 74 = .ok (.getfield 218, 3) := by decide +kernel
end
section
theorem dX7_layStretch_77 : decode cX7_layStretch 77 = .ok (.iload_n 2, 1) := by decide +kernel
theorem dX7_layStretch_78 : decode cX7_layStretch 78 = .ok (.iastore, 1) := by decide +kernel
theorem dX7_layStretch_79 : decode cX7_layStretch 79 = .ok (.aload_n 0, 1) := by decide +kernel
theorem dX7_layStretch_80 : decode cX7_layStretch 80 = .ok (.dup, 1) := by decide +kernel
theorem dX7_layStretch_81 : decode cX7_layStretch 81 = .ok (.getfield 218, 3) := by decide +kernel
theorem dX7_layStretch_84 : decode cX7_layStretch 84 = .ok (.iconst 1, 1) := by decide +kernel
theorem dX7_layStretch_85 : decode cX7_layStretch 85 = .ok (.iadd, 1) := by decide +kernel
theorem dX7_layStretch_86 : decode cX7_layStretch 86 = .ok (.putfield 218, 3) := by decide +kernel
theorem dX7_layStretch_89 : decode cX7_layStretch 89 = .ok (.iload 4, 2) := by decide +kernel
theorem dX7_layStretch_91 : decode cX7_layStretch 91 = .ok (.aload_n 0, 1) := by decide +kernel
theorem dX7_layStretch_92 : decode cX7_layStretch 92 = .ok (.getfield 40, 3) := by decide +kernel
theorem dX7_layStretch_95 : decode cX7_layStretch 95 = .ok (.iload 6, 2) := by decide +kernel
theorem dX7_layStretch_97 : decode cX7_layStretch 97 = .ok (.iaload, 1) := by decide +kernel
theorem dX7_layStretch_98 : decode cX7_layStretch 98 = .ok (.iadd, 1) := by decide +kernel
theorem dX7_layStretch_99 : decode cX7_layStretch 99 = .ok (.istore 4, 2) := by decide +kernel
theorem dX7_layStretch_101 : decode cX7_layStretch 101 = .ok (.aload_n 0, 1) := by decide +kernel
theorem dX7_layStretch_102 : decode cX7_layStretch 102 = .ok (.getfield 55, 3) := by decide +kernel
theorem dX7_layStretch_105 : decode cX7_layStretch 105 = .ok (.iload 6, 2) := by decide +kernel
theorem dX7_layStretch_107 : decode cX7_layStretch 107 = .ok (.iaload, 1) := by decide +kernel
theorem dX7_layStretch_108 : decode cX7_layStretch 108 = .ok (.ifCond .le 25, 3) := by decide +kernel
theorem dX7_layStretch_111 : decode cX7_layStretch 111 = .ok (.aload_n 0, 1) := by decide +kernel
theorem dX7_layStretch_112 : decode cX7_layStretch 112 = .ok (.getfield 55, 3) := by decide +kernel
theorem dX7_layStretch_115 : decode cX7_layStretch 115 = .ok (.iload 6, 2) := by decide +kernel
theorem dX7_layStretch_117 : decode cX7_layStretch 117 = .ok (.dup2, 1) := by decide +kernel
theorem dX7_layStretch_118 : decode cX7_layStretch 118 = .ok (.iaload, 1) := by decide +kernel
theorem dX7_layStretch_119 : decode cX7_layStretch 119 = .ok (.iconst 1, 1) := by decide +kernel
theorem dX7_layStretch_120 : decode cX7_layStretch 120 = .ok (.isub, 1) := by decide +kernel
theorem dX7_layStretch_121 : decode cX7_layStretch 121 = .ok (.iastore, 1) := by decide +kernel
theorem dX7_layStretch_122 : decode cX7_layStretch 122 = .ok (.aload_n 0, 1) := by decide +kernel
theorem dX7_layStretch_123 : decode cX7_layStretch 123 = .ok (.getfield 58, 3) := by decide +kernel
theorem dX7_layStretch_126 : decode cX7_layStretch 126 = .ok (.iload 6, 2) := by decide +kernel
theorem dX7_layStretch_128 : decode cX7_layStretch 128 = .ok (.dup2, 1) := by decide +kernel
theorem dX7_layStretch_129 : decode cX7_layStretch 129 = .ok (.iaload, 1) := by decide +kernel
theorem dX7_layStretch_130 : decode cX7_layStretch 130 = .ok (.iconst 1, 1) := by decide +kernel
theorem dX7_layStretch_131 : decode cX7_layStretch 131 = .ok (.iadd, 1) := by decide +kernel
theorem dX7_layStretch_132 : decode cX7_layStretch 132 = .ok (.iastore, 1) := by decide +kernel
theorem dX7_layStretch_133 : decode cX7_layStretch 133 = .ok (.iinc 5 1, 3) := by decide +kernel
theorem dX7_layStretch_136 : decode cX7_layStretch 136 = .ok (.goto (-107), 3) := by decide +kernel
theorem dX7_layStretch_139 : decode cX7_layStretch 139 = .ok (.aload_n 0, 1) := by decide +kernel
theorem dX7_layStretch_140 : decode cX7_layStretch 140 = .ok (.getfield 80, 3) := by decide +kernel
theorem dX7_layStretch_143 : decode cX7_layStretch 143 = .ok (.bipush 8, 2) := by decide +kernel
theorem dX7_layStretch_145 : decode cX7_layStretch 145 = .ok (.aload_n 0, 1) := by decide +kernel
theorem dX7_layStretch_146 : decode cX7_layStretch 146 = .ok (.getfield 264, 3) := by decide +kernel
theorem dX7_layStretch_149 : decode cX7_layStretch 149 = .ok (.imul, 1) := by decide +kernel
theorem dX7_layStretch_150 : decode cX7_layStretch 150 = .ok (.iload_n 2, 1) := by decide +kernel
theorem dX7_layStretch_151 : decode cX7_layStretch 151 = .ok (.iadd, 1) := by decide +kernel
theorem dX7_layStretch_152 : decode cX7_layStretch 152 = .ok (.aload_n 0, 1) := by decide +kernel
theorem dX7_layStretch_153 : decode cX7_layStretch 153 = .ok (.getfield 31, 3) := by decide +kernel
theorem dX7_layStretch_156 : decode cX7_layStretch 156 = .ok (.iload_n 1, 1) := by decide +kernel
theorem dX7_layStretch_157 : decode cX7_layStretch 157 = .ok (.iaload, 1) := by decide +kernel
theorem dX7_layStretch_158 : decode cX7_layStretch 158 = .ok (.iload 4, 2) := by decide +kernel
theorem dX7_layStretch_160 : decode cX7_layStretch 160 = .ok (.isub, 1) := by decide +kernel
theorem dX7_layStretch_161 : decode cX7_layStretch 161 = .ok (.iload_n 3, 1) := by decide +kernel
theorem dX7_layStretch_162 : decode cX7_layStretch 162 = .ok (.iadd, 1) := by decide +kernel
theorem dX7_layStretch_163 : decode cX7_layStretch 163 = .ok (.iastore, 1) := by decide +kernel
theorem dX7_layStretch_164 : decode cX7_layStretch 164 = .ok (.aload_n 0, 1) := by decide +kernel
theorem dX7_layStretch_165 : decode cX7_layStretch 165 = .ok (.dup, 1) := by decide +kernel
theorem dX7_layStretch_166 : decode cX7_layStretch 166 = .ok (.getfield 267, 3) := by decide +kernel
theorem dX7_layStretch_169 : decode cX7_layStretch 169 = .ok (.aload_n 0, 1) := by decide +kernel
theorem dX7_layStretch_170 : decode cX7_layStretch 170 = .ok (.getfield 31, 3) := by decide +kernel
theorem dX7_layStretch_173 : decode cX7_layStretch 173 = .ok (.iload_n 1, 1) := by decide +kernel
theorem dX7_layStretch_174 : decode cX7_layStretch 174 = .ok (.iaload, 1) := by decide +kernel
theorem dX7_layStretch_175 : decode cX7_layStretch 175 = .ok (.iload 4, 2) := by decide +kernel
theorem dX7_layStretch_177 : decode cX7_layStretch 177 = .ok (.isub, 1) := by decide +kernel
theorem dX7_layStretch_178 : decode cX7_layStretch 178 = .ok (.iload_n 3, 1) := by decide +kernel
theorem dX7_layStretch_179 : decode cX7_layStretch 179 = .ok (.iadd, 1) := by decide +kernel
theorem dX7_layStretch_180 : decode cX7_layStretch 180 = .ok (.iadd, 1) := by decide +kernel
theorem dX7_layStretch_181 : decode cX7_layStretch 181 = .ok (.putfield 267, 3) := by decide +kernel
theorem dX7_layStretch_184 : decode cX7_layStretch 184 = .ok (.aload_n 0, 1) := by decide +kernel
theorem dX7_layStretch_185 : decode cX7_layStretch 185 = .ok (.getfield 225, 3) := by decide +kernel
theorem dX7_layStretch_188 : decode cX7_layStretch 188 = .ok (.ifCond .ne 13, 3) := by decide +kernel
theorem dX7_layStretch_191 : decode cX7_layStretch 191 = .ok (.aload_n 0, 1) := by decide +kernel
theorem dX7_layStretch_192 : decode cX7_layStretch 192 = .ok (.dup, 1) := by decide +kernel
theorem dX7_layStretch_193 : decode cX7_layStretch 193 = .ok (.getfield 270, 3) := by decide +kernel
theorem dX7_layStretch_196 : decode cX7_layStretch 196 = .ok (.iconst 1, 1) := by decide +kernel
theorem dX7_layStretch_197 : decode cX7_layStretch 197 = .ok (.iadd, 1) := by decide +kernel
theorem dX7_layStretch_198 : decode cX7_layStretch 198 = .ok (.putfield 270, 3) := by decide +kernel
theorem dX7_layStretch_201 : decode cX7_layStretch 201 = .ok (.aload_n 0, 1) := by decide +kernel
theorem dX7_layStretch_202 : decode cX7_layStretch 202 = .ok (.getfield 225, 3) := by decide +kernel
theorem dX7_layStretch_205 : decode cX7_layStretch 205 = .ok (.ifCond .le 7, 3) := by decide +kernel
theorem dX7_layStretch_208 : decode cX7_layStretch 208 = .ok (.iconst 1, 1) := by decide +kernel
theorem dX7_layStretch_209 : decode cX7_layStretch 209 = .ok (.goto 4, 3) := by decide +kernel
theorem dX7_layStretch_212 : decode cX7_layStretch 212 = .ok (.iconst 0, 1) := by decide +kernel
theorem dX7_layStretch_213 : decode cX7_layStretch 213 = .ok (.ireturn, 1) := by decide +kernel
theorem dX7_lay_0 : decode cX7_lay 0 = .ok (.iload_n 1, 1) := by decide +kernel
theorem dX7_lay_1 : decode cX7_lay 1 = .ok (.invokestatic 196, 3) := by decide +kernel
theorem dX7_lay_4 : decode cX7_lay 4 = .ok (.ifCond .ne 8, 3) := by decide +kernel
theorem dX7_lay_7 : decode cX7_lay 7 = .ok (.aload_n 0, 1) := by decide +kernel
theorem dX7_lay_8 : decode cX7_lay 8 = .ok (.invokevirtual 199, 3) := by decide +kernel
theorem dX7_lay_11 : decode cX7_lay 11 = .ok (.ireturn, 1) := by decide +kernel
theorem dX7_lay_12 : decode cX7_lay 12 = .ok (.aload_n 0, 1) := by decide +kernel
theorem dX7_lay_13 : decode cX7_lay 13 = .ok (.iconst 0, 1) := by decide +kernel
theorem dX7_lay_14 : decode cX7_lay 14 = .ok (.putfield 105, 3) := by decide +kernel
theorem dX7_lay_17 : decode cX7_lay 17 = .ok (.iconst 0, 1) := by decide +kernel
theorem dX7_lay_18 : decode cX7_lay 18 = .ok (.istore_n 2, 1) := by decide +kernel
theorem dX7_lay_19 : decode cX7_lay 19 = .ok (.iconst 0, 1) := by decide +kernel
theorem dX7_lay_20 : decode cX7_lay 20 = .ok (.istore_n 3, 1) := by decide +kernel
theorem dX7_lay_21 : decode cX7_lay 21 = .ok (.iload_n 3, 1) := by decide +kernel
theorem dX7_lay_22 : decode cX7_lay 22 = .ok (.aload_n 0, 1) := by decide +kernel
theorem dX7_lay_23 : decode cX7_lay 23 = .ok (.getfield 28, 3) := by decide +kernel
theorem dX7_lay_26 : decode cX7_lay 26 = .ok (.iload_n 1, 1) := by decide +kernel
theorem dX7_lay_27 : decode cX7_lay 27 = .ok (.iaload, 1) := by decide +kernel
theorem dX7_lay_28 : decode cX7_lay 28 = .ok (.if_icmp .ge 27, 3) := by decide +kernel
theorem dX7_lay_31 : decode cX7_lay 31 = .ok (.aload_n 0, 1) := by decide +kernel
theorem dX7_lay_32 : decode cX7_lay 32 = .ok (.getfield 37, 3) := by decide +kernel
theorem dX7_lay_35 : decode cX7_lay 35 = .ok (.bipush 8, 2) := by decide +kernel
theorem dX7_lay_37 : decode cX7_lay 37 = .ok (.iload_n 1, 1) := by decide +kernel
theorem dX7_lay_38 : decode cX7_lay 38 = .ok (.imul, 1) := by decide +kernel
theorem dX7_lay_39 : decode cX7_lay 39 = .ok (.iload_n 3, 1) := by decide +kernel
theorem dX7_lay_40 : decode cX7_lay 40 = .ok (.iadd, 1) := by decide +kernel
theorem dX7_lay_41 : decode cX7_lay 41 = .ok (.iaload, 1) := by decide +kernel
theorem dX7_lay_42 : decode cX7_lay 42 = .ok (.iconst (-1), 1) := by decide +kernel
theorem dX7_lay_43 : decode cX7_lay 43 = .ok (.if_icmp .eq 6, 3) := by decide +kernel
theorem dX7_lay_46 : decode cX7_lay 46 = .ok (.iinc 2 1, 3) := by decide +kernel
theorem dX7_lay_49 : decode cX7_lay 49 = .ok (.iinc 3 1, 3) := by decide +kernel
theorem dX7_lay_52 : decode cX7_lay 52 = .ok (.goto (-31), 3) := by decide +kernel
theorem dX7_lay_55 : decode cX7_lay 55 = .ok (.aload_n 0, 1) := by decide +kernel
theorem dX7_lay_56 : decode cX7_lay 56 = .ok (.getfield 28, 3) := by decide +kernel
theorem dX7_lay_59 : decode cX7_lay 59 = .ok (.iload_n 1, 1) := by decide +kernel
theorem dX7_lay_60 : decode cX7_lay 60 = .ok (.iaload, 1) := by decide +kernel
theorem dX7_lay_61 : decode cX7_lay 61 = .ok (.ifCond .eq 27, 3) := by decide +kernel
theorem dX7_lay_64 : decode cX7_lay 64 = .ok (.aload_n 0, 1) := by decide +kernel
theorem dX7_lay_65 : decode cX7_lay 65 = .ok (.getfield 264, 3) := by decide +kernel
theorem dX7_lay_68 : decode cX7_lay 68 = .ok (.sipush 168, 3) := by decide +kernel
theorem dX7_lay_71 : decode cX7_lay 71 = .ok (.if_icmp .eq 17, 3) := by decide +kernel
theorem dX7_lay_74 : decode cX7_lay 74 = .ok (.aload_n 0, 1) := by decide +kernel
theorem dX7_lay_75 : decode cX7_lay 75 = .ok (.getfield 218, 3) := by decide +kernel
theorem dX7_lay_78 : decode cX7_lay 78 = .ok (.iconst 4, 1) := by decide +kernel
theorem dX7_lay_79 : decode cX7_lay 79 = .ok (.iload_n 2, 1) := by decide +kernel
theorem dX7_lay_80 : decode cX7_lay 80 = .ok (.imul, 1) := by decide +kernel
theorem dX7_lay_81 : decode cX7_lay 81 = .ok (.iadd, 1) := by decide +kernel
theorem dX7_lay_82 : decode cX7_lay 82 = .ok (.sipush 300, 3) := by decide +kernel
theorem dX7_lay_85 : decode cX7_lay 85 = .ok (.if_icmp .le 5, 3) := by decide +kernel
theorem dX7_lay_88 : decode cX7_lay 88 = .ok (.iconst (-1), 1) := by decide +kernel
theorem dX7_lay_89 : decode cX7_lay 89 = .ok (.ireturn, 1) := by decide +kernel
theorem dX7_lay_90 : decode cX7_lay 90 = .ok (.iconst 0, 1) := by decide +kernel
theorem dX7_lay_91 : decode cX7_lay 91 = .ok (.istore_n 3, 1) := by decide +kernel
theorem dX7_lay_92 : decode cX7_lay 92 = .ok (.iload_n 3, 1) := by decide +kernel
theorem dX7_lay_93 : decode cX7_lay 93 = .ok (.aload_n 0, 1) := by decide +kernel
theorem dX7_lay_94 : decode cX7_lay 94 = .ok (.getfield 205, 3) := by decide +kernel
theorem dX7_lay_97 : decode cX7_lay 97 = .ok (.if_icmp .ge 20, 3) := by decide +kernel
theorem dX7_lay_100 : decode cX7_lay 100 = .ok (.aload_n 0, 1) := by decide +kernel
theorem dX7_lay_101 : decode cX7_lay 101 = .ok (.getfield 64, 3) := by decide +kernel
theorem dX7_lay_104 : decode cX7_lay 104 = .ok (.iload_n 3, 1) := by decide +kernel
theorem dX7_lay_105 : decode cX7_lay 105 = .ok (.aload_n 0, 1) := by decide +kernel
theorem dX7_lay_106 : decode cX7_lay 106 = .ok (.iload_n 3, 1) := by decide +kernel
theorem dX7_lay_107 : decode cX7_lay 107 = .ok (.invokevirtual 215, 3) := by decide +kernel
theorem dX7_lay_110 : decode cX7_lay 110 = .ok (.iastore, 1) := by decide +kernel
theorem dX7_lay_111 : decode cX7_lay 111 = .ok (.iinc 3 1, 3) := by decide +kernel
theorem dX7_lay_114 : decode cX7_lay 114 = .ok (.goto (-22), 3) := by decide +kernel
theorem dX7_lay_117 : decode cX7_lay 117 = .ok (.sipush 3600, 3) := by decide +kernel
theorem dX7_lay_120 : decode cX7_lay 120 = .ok (.aload_n 0, 1) := by decide +kernel
theorem dX7_lay_121 : decode cX7_lay 121 = .ok (.getfield 264, 3) := by decide +kernel
theorem dX7_lay_124 : decode cX7_lay 124 = .ok (.imul, 1) := by decide +kernel
theorem dX7_lay_125 : decode cX7_lay 125 = .ok (.istore_n 3, 1) := by decide +kernel
theorem dX7_lay_126 : decode cX7_lay 126 = .ok (.iconst 0, 1) := by decide +kernel
theorem dX7_lay_127 : decode cX7_lay 127 = .ok (.istore 4, 2) := by decide +kernel
theorem dX7_lay_129 : decode cX7_lay 129 = .ok (.iconst 0, 1) := by decide +kernel
theorem dX7_lay_130 : decode cX7_lay 130 = .ok (.istore 5, 2) := by decide +kernel
theorem dX7_lay_132 : decode cX7_lay 132 = .ok (.iload 5, 2) := by decide +kernel
theorem dX7_lay_134 : decode cX7_lay 134 = .ok (.aload_n 0, 1) := by decide +kernel
theorem dX7_lay_135 : decode cX7_lay 135 = .ok (.getfield 28, 3) := by decide +kernel
theorem dX7_lay_138 : decode cX7_lay 138 = .ok (.iload_n 1, 1) := by decide +kernel
theorem dX7_lay_139 : decode cX7_lay 139 = .ok (.iaload, 1) := by decide +kernel
theorem dX7_lay_140 : decode cX7_lay 140 = .ok (.if_icmp .ge 70, 3) := by decide +kernel
theorem dX7_lay_143 : decode cX7_lay 143 = .ok (.bipush 8, 2) := by decide +kernel
theorem dX7_lay_145 : decode cX7_lay 145 = .ok (.iload_n 1, 1) := by decide +kernel
theorem dX7_lay_146 : decode cX7_lay 146 = .ok (.imul, 1) := by decide +kernel
theorem dX7_lay_147 : decode cX7_lay 147 = .ok (.iload 5, 2) := by decide +kernel
theorem dX7_lay_149 : decode cX7_lay 149 = .ok (.iadd, 1) := by decide +kernel
theorem dX7_lay_150 : decode cX7_lay 150 = .ok (.istore 6, 2) := by decide +kernel
theorem dX7_lay_152 : decode cX7_lay 152 = .ok (.aload_n 0, 1) := by decide +kernel
theorem dX7_lay_153 : decode cX7_lay 153 = .ok (.getfield 80, 3) := by decide +kernel
theorem dX7_lay_156 : decode cX7_lay 156 = .ok (.bipush 8, 2) := by decide +kernel
theorem dX7_lay_158 : decode cX7_lay 158 = .ok (.aload_n 0, 1) := by decide +kernel
theorem dX7_lay_159 : decode cX7_lay 159 = .ok (.getfield 264, 3) := by decide +kernel
theorem dX7_lay_162 : decode cX7_lay 162 = .ok (.imul, 1) := by decide +kernel
theorem dX7_lay_163 : decode cX7_lay 163 = .ok (.iload 5, 2) := by decide +kernel
theorem dX7_lay_165 : decode cX7_lay 165 = .ok (.iadd, 1) := by decide +kernel
theorem dX7_lay_166 : decode cX7_lay 166 = .ok (.iconst 0, 1) := by decide +kernel
theorem dX7_lay_167 : decode cX7_lay 167 = .ok (.iastore, 1) := by decide +kernel
theorem dX7_lay_168 : decode cX7_lay 168 = .ok (.aload_n 0, 1) := by decide +kernel
theorem dX7_lay_169 : decode cX7_lay 169 = .ok (.getfield 37, 3) := by decide +kernel
theorem dX7_lay_172 : decode cX7_lay 172 = .ok (.iload 6, 2) := by decide +kernel
theorem dX7_lay_174 : decode cX7_lay 174 = .ok (.iaload, 1) := by decide +kernel
theorem dX7_lay_175 : decode cX7_lay 175 = .ok (.iconst (-1), 1) := by decide +kernel
theorem dX7_lay_176 : decode cX7_lay 176 = .ok (.if_icmp .eq 18, 3) := by decide +kernel
theorem dX7_lay_179 : decode cX7_lay 179 = .ok (.aload_n 0, 1) := by decide +kernel
theorem dX7_lay_180 : decode cX7_lay 180 = .ok (.iload 6, 2) := by decide +kernel
theorem dX7_lay_182 : decode cX7_lay 182 = .ok (.iload 5, 2) := by decide +kernel
theorem dX7_lay_184 : decode cX7_lay 184 = .ok (.iload_n 3, 1) := by decide +kernel
theorem dX7_lay_185 : decode cX7_lay 185 = .ok (.invokevirtual 273, 3) := by decide +kernel
theorem dX7_lay_188 : decode cX7_lay 188 = .ok (.ifCond .eq 6, 3) := by decide +kernel
theorem dX7_lay_191 : decode cX7_lay 191 = .ok (.iinc 4 1, 3) := by decide +kernel
theorem dX7_lay_194 : decode cX7_lay 194 = .ok (.iload_n 3, 1) := by decide +kernel
theorem dX7_lay_195 : decode cX7_lay 195 = .ok (.aload_n 0, 1) := by decide +kernel
theorem dX7_lay_196 : decode cX7_lay 196 = .ok (.getfield 31, 3) := by decide +kernel
theorem dX7_lay_199 : decode cX7_lay 199 = .ok (.iload 6, 2) := by decide +kernel
theorem dX7_lay_201 : decode cX7_lay 201 = .ok (.iaload, 1) := by decide +kernel
theorem dX7_lay_202 : decode cX7_lay 202 = .ok (.iadd, 1) := by decide +kernel
theorem dX7_lay_203 : decode cX7_lay 203 = .ok (.istore_n 3, 1) := by decide +kernel
theorem dX7_lay_204 : decode cX7_lay 204 = .ok (.iinc 5 1, 3) := by decide +kernel
theorem dX7_lay_207 : decode cX7_lay 207 = .ok (.goto (-75), 3) := by decide +kernel
theorem dX7_lay_210 : decode cX7_lay 210 = .ok (.aload_n 0, 1) := by decide +kernel
theorem dX7_lay_211 : decode cX7_lay 211 = .ok (.getfield 102, 3) := by decide +kernel
theorem dX7_lay_214 : decode cX7_lay 214 = .ok (.aload_n 0, 1) := by decide +kernel
theorem dX7_lay_215 : decode cX7_lay 215 = .ok (.getfield 264, 3) := by decide +kernel
theorem dX7_lay_218 : decode cX7_lay 218 = .ok (.aload_n 0, 1) := by decide +kernel
theorem dX7_lay_219 : decode cX7_lay 219 = .ok (.getfield 28, 3) := by decide +kernel
theorem dX7_lay_222 : decode cX7_lay 222 = .ok (.iload_n 1, 1) := by decide +kernel
theorem dX7_lay_223 : decode cX7_lay 223 = .ok (.iaload, 1) := by decide +kernel
theorem dX7_lay_224 : decode cX7_lay 224 = .ok (.iastore, 1) := by decide +kernel
theorem dX7_lay_225 : decode cX7_lay 225 = .ok (.aload_n 0, 1) := by decide +kernel
theorem dX7_lay_226 : decode cX7_lay 226 = .ok (.dup, 1) := by decide +kernel
theorem dX7_lay_227 : decode cX7_lay 227 = .ok (.getfield 264, 3) := by decide +kernel
theorem dX7_lay_230 : decode cX7_lay 230 = .ok (.iconst 1, 1) := by decide +kernel
theorem dX7_lay_231 : decode cX7_lay 231 = .ok (.iadd, 1) := by decide +kernel
theorem dX7_lay_232 : decode cX7_lay 232 = .ok (.putfield 264, 3) := by decide +kernel
theorem dX7_lay_235 : decode cX7_lay 235 = .ok (.iload 4, 2) := by decide +kernel
theorem dX7_lay_237 : decode cX7_lay 237 = .ok (.ireturn, 1) := by decide +kernel
theorem dX7_told_0 : decode cX7_told 0 = .ok (.aload_n 0, 1) := by decide +kernel
theorem dX7_told_1 : decode cX7_told 1 = .ok (.iconst 0, 1) := by decide +kernel
theorem dX7_told_2 : decode cX7_told 2 = .ok (.putfield 105, 3) := by decide +kernel
theorem dX7_told_5 : decode cX7_told 5 = .ok (.aload_n 0, 1) := by decide +kernel
theorem dX7_told_6 : decode cX7_told 6 = .ok (.iload_n 1, 1) := by decide +kernel
theorem dX7_told_7 : decode cX7_told 7 = .ok (.invokevirtual 212, 3) := by decide +kernel
theorem dX7_told_10 : decode cX7_told 10 = .ok (.ifCond .ne 6, 3) := by decide +kernel
theorem dX7_told_13 : decode cX7_told 13 = .ok (.bipush (-2), 2) := by decide +kernel
theorem dX7_told_15 : decode cX7_told 15 = .ok (.ireturn, 1) := by decide +kernel
theorem dX7_told_16 : decode cX7_told 16 = .ok (.iconst (-1), 1) := by decide +kernel
theorem dX7_told_17 : decode cX7_told 17 = .ok (.istore_n 3, 1) := by decide +kernel
theorem dX7_told_18 : decode cX7_told 18 = .ok (.iconst 0, 1) := by decide +kernel
theorem dX7_told_19 : decode cX7_told 19 = .ok (.istore 4, 2) := by decide +kernel
theorem dX7_told_21 : decode cX7_told 21 = .ok (.iload 4, 2) := by decide +kernel
theorem dX7_told_23 : decode cX7_told 23 = .ok (.aload_n 0, 1) := by decide +kernel
theorem dX7_told_24 : decode cX7_told 24 = .ok (.getfield 218, 3) := by decide +kernel
theorem dX7_told_27 : decode cX7_told 27 = .ok (.if_icmp .ge 28, 3) := by decide +kernel
theorem dX7_told_30 : decode cX7_told 30 = .ok (.aload_n 0, 1) := by decide +kernel
theorem dX7_told_31 : decode cX7_told 31 = .ok (.getfield 71, 3) := by decide +kernel
theorem dX7_told_34 : decode cX7_told 34 = .ok (.iload 4, 2) := by decide +kernel
theorem dX7_told_36 : decode cX7_told 36 = .ok (.iaload, 1) := by decide +kernel
theorem dX7_told_37 : decode cX7_told 37 = .ok (.iload_n 1, 1) := by decide +kernel
theorem dX7_told_38 : decode cX7_told 38 = .ok (.if_icmp .ne 11, 3) := by decide +kernel
theorem dX7_told_41 : decode cX7_told 41 = .ok (.aload_n 0, 1) := by decide +kernel
theorem dX7_told_42 : decode cX7_told 42 = .ok (.getfield 74, 3) := by decide +kernel
theorem dX7_told_45 : decode cX7_told 45 = .ok (.iload 4, 2) := by decide +kernel
theorem dX7_told_47 : decode cX7_told 47 = .ok (.iaload, 1) := by decide +kernel
theorem dX7_told_48 : decode cX7_told 48 = .ok (.istore_n 3, 1) := by decide +kernel
theorem dX7_told_49 : decode cX7_told 49 = .ok (.iinc 4 1, 3) := by decide +kernel
theorem dX7_told_52 : decode cX7_told 52 = .ok (.goto (-31), 3) := by decide +kernel
theorem dX7_told_55 : decode cX7_told 55 = .ok (.iload_n 2, 1) := by decide +kernel
theorem dX7_told_56 : decode cX7_told 56 = .ok (.tableswitch 64 0 4 #[36, 42, 48, 50, 57], 36) := by decide +kernel
theorem dX7_told_92 : decode cX7_told 92 = .ok (.aload_n 0, 1) := by decide +kernel
theorem dX7_told_93 : decode cX7_told 93 = .ok (.iload_n 1, 1) := by decide +kernel
theorem dX7_told_94 : decode cX7_told 94 = .ok (.invokevirtual 215, 3) := by decide +kernel
theorem dX7_told_97 : decode cX7_told 97 = .ok (.ireturn, 1) := by decide +kernel
theorem dX7_told_98 : decode cX7_told 98 = .ok (.aload_n 0, 1) := by decide +kernel
theorem dX7_told_99 : decode cX7_told 99 = .ok (.iload_n 1, 1) := by decide +kernel
theorem dX7_told_100 : decode cX7_told 100 = .ok (.invokevirtual 276, 3) := by decide +kernel
theorem dX7_told_103 : decode cX7_told 103 = .ok (.ireturn, 1) := by decide +kernel
theorem dX7_told_104 : decode cX7_told 104 = .ok (.iload_n 3, 1) := by decide +kernel
theorem dX7_told_105 : decode cX7_told 105 = .ok (.ireturn, 1) := by decide +kernel
theorem dX7_told_106 : decode cX7_told 106 = .ok (.aload_n 0, 1) := by decide +kernel
theorem dX7_told_107 : decode cX7_told 107 = .ok (.getfield 55, 3) := by decide +kernel
theorem dX7_told_110 : decode cX7_told 110 = .ok (.iload_n 1, 1) := by decide +kernel
theorem dX7_told_111 : decode cX7_told 111 = .ok (.iaload, 1) := by decide +kernel
theorem dX7_told_112 : decode cX7_told 112 = .ok (.ireturn, 1) := by decide +kernel
theorem dX7_told_113 : decode cX7_told 113 = .ok (.aload_n 0, 1) := by decide +kernel
theorem dX7_told_114 : decode cX7_told 114 = .ok (.getfield 58, 3) := by decide +kernel
theorem dX7_told_117 : decode cX7_told 117 = .ok (.iload_n 1, 1) := by decide +kernel
theorem dX7_told_118 : decode cX7_told 118 = .ok (.iaload, 1) := by decide +kernel
theorem dX7_told_119 : decode cX7_told 119 = .ok (.ireturn, 1) := by decide +kernel
theorem dX7_told_120 : decode cX7_told 120 = .ok (.bipush (-2), 2) := by decide +kernel
theorem dX7_told_122 : decode cX7_told 122 = .ok (.ireturn, 1) := by decide +kernel
theorem dX7_play_0 : decode cX7_play 0 = .ok (.iload_n 1, 1) := by decide +kernel
theorem dX7_play_1 : decode cX7_play 1 = .ok (.ifCond .lt 20, 3) := by decide +kernel
theorem dX7_play_4 : decode cX7_play 4 = .ok (.iload_n 1, 1) := by decide +kernel
theorem dX7_play_5 : decode cX7_play 5 = .ok (.aload_n 0, 1) := by decide +kernel
theorem dX7_play_6 : decode cX7_play 6 = .ok (.getfield 218, 3) := by decide +kernel
theorem dX7_play_9 : decode cX7_play 9 = .ok (.if_icmp .ge 12, 3) := by decide +kernel
theorem dX7_play_12 : decode cX7_play 12 = .ok (.iload_n 2, 1) := by decide +kernel
theorem dX7_play_13 : decode cX7_play 13 = .ok (.ifCond .lt 8, 3) := by decide +kernel
theorem dX7_play_16 : decode cX7_play 16 = .ok (.iload_n 2, 1) := by decide +kernel
theorem dX7_play_17 : decode cX7_play 17 = .ok (.iconst 3, 1) := by decide +kernel
theorem dX7_play_18 : decode cX7_play 18 = .ok (.if_icmp .le 8, 3) := by decide +kernel
theorem dX7_play_21 : decode cX7_play 21 = .ok (.aload_n 0, 1) := by decide +kernel
theorem dX7_play_22 : decode cX7_play 22 = .ok (.invokevirtual 199, 3) := by decide +kernel
theorem dX7_play_25 : decode cX7_play 25 = .ok (.ireturn, 1) := by decide +kernel
theorem dX7_play_26 : decode cX7_play 26 = .ok (.aload_n 0, 1) := by decide +kernel
theorem dX7_play_27 : decode cX7_play 27 = .ok (.iconst 0, 1) := by decide +kernel
theorem dX7_play_28 : decode cX7_play 28 = .ok (.putfield 105, 3) := by decide +kernel
theorem dX7_play_31 : decode cX7_play 31 = .ok (.iload_n 2, 1) := by decide +kernel
theorem dX7_play_32 : decode cX7_play 32 = .ok (.ifCond .ne 12, 3) := by decide +kernel
theorem dX7_play_35 : decode cX7_play 35 = .ok (.aload_n 0, 1) := by decide +kernel
theorem dX7_play_36 : decode cX7_play 36 = .ok (.getfield 71, 3) := by decide +kernel
theorem dX7_play_39 : decode cX7_play 39 = .ok (.iload_n 1, 1) := by decide +kernel
theorem dX7_play_40 : decode cX7_play 40 = .ok (.iaload, 1) := by decide +kernel
theorem dX7_play_41 : decode cX7_play 41 = .ok (.goto 41, 3) := by decide +kernel
theorem dX7_play_44 : decode cX7_play 44 = .ok (.iload_n 2, 1) := by decide +kernel
theorem dX7_play_45 : decode cX7_play 45 = .ok (.iconst 1, 1) := by decide +kernel
theorem dX7_play_46 : decode cX7_play 46 = .ok (.if_icmp .ne 12, 3) := by decide +kernel
theorem dX7_play_49 : decode cX7_play 49 = .ok (.aload_n 0, 1) := by decide +kernel
theorem dX7_play_50 : decode cX7_play 50 = .ok (.getfield 74, 3) := by decide +kernel
theorem dX7_play_53 : decode cX7_play 53 = .ok (.iload_n 1, 1) := by decide +kernel
theorem dX7_play_54 : decode cX7_play 54 = .ok (.iaload, 1) := by decide +kernel
theorem dX7_play_55 : decode cX7_play 55 = .ok (.goto 27, 3) := by decide +kernel
theorem dX7_play_58 : decode cX7_play 58 = .ok (.iload_n 2, 1) := by decide +kernel
theorem dX7_play_59 : decode cX7_play 59 = .ok (.iconst 2, 1) := by decide +kernel
theorem dX7_play_60 : decode cX7_play 60 = .ok (.if_icmp .ne 16, 3) := by decide +kernel
theorem dX7_play_63 : decode cX7_play 63 = .ok (.aload_n 0, 1) := by decide +kernel
theorem dX7_play_64 : decode cX7_play 64 = .ok (.getfield 74, 3) := by decide +kernel
theorem dX7_play_67 : decode cX7_play 67 = .ok (.iload_n 1, 1) := by decide +kernel
theorem dX7_play_68 : decode cX7_play 68 = .ok (.iaload, 1) := by decide +kernel
theorem dX7_play_69 : decode cX7_play 69 = .ok (.sipush 3600, 3) := by decide +kernel
theorem dX7_play_72 : decode cX7_play 72 = .ok (.idiv, 1) := by decide +kernel
theorem dX7_play_73 : decode cX7_play 73 = .ok (.goto 9, 3) := by decide +kernel
theorem dX7_play_76 : decode cX7_play 76 = .ok (.aload_n 0, 1) := by decide +kernel
theorem dX7_play_77 : decode cX7_play 77 = .ok (.getfield 77, 3) := by decide +kernel
theorem dX7_play_80 : decode cX7_play 80 = .ok (.iload_n 1, 1) := by decide +kernel
theorem dX7_play_81 : decode cX7_play 81 = .ok (.iaload, 1) := by decide +kernel
theorem dX7_play_82 : decode cX7_play 82 = .ok (.ireturn, 1) := by decide +kernel
theorem dX7_left_0 : decode cX7_left 0 = .ok (.iload_n 1, 1) := by decide +kernel
theorem dX7_left_1 : decode cX7_left 1 = .ok (.ifCond .lt 25, 3) := by decide +kernel
theorem dX7_left_4 : decode cX7_left 4 = .ok (.iload_n 1, 1) := by decide +kernel
theorem dX7_left_5 : decode cX7_left 5 = .ok (.aload_n 0, 1) := by decide +kernel
theorem dX7_left_6 : decode cX7_left 6 = .ok (.getfield 264, 3) := by decide +kernel
theorem dX7_left_9 : decode cX7_left 9 = .ok (.if_icmp .ge 17, 3) := by decide +kernel
theorem dX7_left_12 : decode cX7_left 12 = .ok (.iload_n 2, 1) := by decide +kernel
theorem dX7_left_13 : decode cX7_left 13 = .ok (.ifCond .lt 13, 3) := by decide +kernel
theorem dX7_left_16 : decode cX7_left 16 = .ok (.iload_n 2, 1) := by decide +kernel
theorem dX7_left_17 : decode cX7_left 17 = .ok (.aload_n 0, 1) := by decide +kernel
theorem dX7_left_18 : decode cX7_left 18 = .ok (.getfield 102, 3) := by decide +kernel
theorem dX7_left_21 : decode cX7_left 21 = .ok (.iload_n 1, 1) := by decide +kernel
theorem dX7_left_22 : decode cX7_left 22 = .ok (.iaload, 1) := by decide +kernel
theorem dX7_left_23 : decode cX7_left 23 = .ok (.if_icmp .lt 8, 3) := by decide +kernel
theorem dX7_left_26 : decode cX7_left 26 = .ok (.aload_n 0, 1) := by decide +kernel
theorem dX7_left_27 : decode cX7_left 27 = .ok (.invokevirtual 199, 3) := by decide +kernel
theorem dX7_left_30 : decode cX7_left 30 = .ok (.ireturn, 1) := by decide +kernel
theorem dX7_left_31 : decode cX7_left 31 = .ok (.aload_n 0, 1) := by decide +kernel
theorem dX7_left_32 : decode cX7_left 32 = .ok (.iconst 0, 1) := by decide +kernel
theorem dX7_left_33 : decode cX7_left 33 = .ok (.putfield 105, 3) := by decide +kernel
theorem dX7_left_36 : decode cX7_left 36 = .ok (.aload_n 0, 1) := by decide +kernel
theorem dX7_left_37 : decode cX7_left 37 = .ok (.getfield 80, 3) := by decide +kernel
theorem dX7_left_40 : decode cX7_left 40 = .ok (.bipush 8, 2) := by decide +kernel
theorem dX7_left_42 : decode cX7_left 42 = .ok (.iload_n 1, 1) := by decide +kernel
theorem dX7_left_43 : decode cX7_left 43 = .ok (.imul, 1) := by decide +kernel
theorem dX7_left_44 : decode cX7_left 44 = .ok (.iload_n 2, 1) := by decide +kernel
theorem dX7_left_45 : decode cX7_left 45 = .ok (.iadd, 1) := by decide +kernel
theorem dX7_left_46 : decode cX7_left 46 = .ok (.iaload, 1) := by decide +kernel
theorem dX7_left_47 : decode cX7_left 47 = .ok (.ireturn, 1) := by decide +kernel
theorem dX7_at_0 : decode cX7_at 0 = .ok (.aload_n 0, 1) := by decide +kernel
theorem dX7_at_1 : decode cX7_at 1 = .ok (.iconst 0, 1) := by decide +kernel
theorem dX7_at_2 : decode cX7_at 2 = .ok (.putfield 105, 3) := by decide +kernel
theorem dX7_at_5 : decode cX7_at 5 = .ok (.iconst 0, 1) := by decide +kernel
theorem dX7_at_6 : decode cX7_at 6 = .ok (.istore_n 2, 1) := by decide +kernel
theorem dX7_at_7 : decode cX7_at 7 = .ok (.iload_n 2, 1) := by decide +kernel
theorem dX7_at_8 : decode cX7_at 8 = .ok (.aload_n 0, 1) := by decide +kernel
theorem dX7_at_9 : decode cX7_at 9 = .ok (.getfield 218, 3) := by decide +kernel
theorem dX7_at_12 : decode cX7_at 12 = .ok (.if_icmp .ge 30, 3) := by decide +kernel
theorem dX7_at_15 : decode cX7_at 15 = .ok (.iload_n 1, 1) := by decide +kernel
theorem dX7_at_16 : decode cX7_at 16 = .ok (.aload_n 0, 1) := by decide +kernel
theorem dX7_at_17 : decode cX7_at 17 = .ok (.getfield 74, 3) := by decide +kernel
theorem dX7_at_20 : decode cX7_at 20 = .ok (.iload_n 2, 1) := by decide +kernel
theorem dX7_at_21 : decode cX7_at 21 = .ok (.iaload, 1) := by decide +kernel
theorem dX7_at_22 : decode cX7_at 22 = .ok (.if_icmp .lt 14, 3) := by decide +kernel
theorem dX7_at_25 : decode cX7_at 25 = .ok (.iload_n 1, 1) := by decide +kernel
theorem dX7_at_26 : decode cX7_at 26 = .ok (.aload_n 0, 1) := by decide +kernel
theorem dX7_at_27 : decode cX7_at 27 = .ok (.iload_n 2, 1) := by decide +kernel
theorem dX7_at_28 : decode cX7_at 28 = .ok (.invokevirtual 237, 3) := by decide +kernel
theorem dX7_at_31 : decode cX7_at 31 = .ok (.if_icmp .ge 5, 3) := by decide +kernel
theorem dX7_at_34 : decode cX7_at 34 = .ok (.iload_n 2, 1) := by decide +kernel
theorem dX7_at_35 : decode cX7_at 35 = .ok (.ireturn, 1) := by decide +kernel
theorem dX7_at_36 : decode cX7_at 36 = .ok (.iinc 2 1, 3) := by decide +kernel
theorem dX7_at_39 : decode cX7_at 39 = .ok (.goto (-32), 3) := by decide +kernel
theorem dX7_at_42 : decode cX7_at 42 = .ok (.iconst (-1), 1) := by decide +kernel
theorem dX7_at_43 : decode cX7_at 43 = .ok (.ireturn, 1) := by decide +kernel
theorem dX7_rights_0 : decode cX7_rights 0 = .ok (.aload_n 0, 1) := by decide +kernel
theorem dX7_rights_1 : decode cX7_rights 1 = .ok (.iconst 0, 1) := by decide +kernel
theorem dX7_rights_2 : decode cX7_rights 2 = .ok (.putfield 105, 3) := by decide +kernel
theorem dX7_rights_5 : decode cX7_rights 5 = .ok (.iload_n 1, 1) := by decide +kernel
theorem dX7_rights_6 : decode cX7_rights 6 = .ok (.iconst 0, 1) := by decide +kernel
theorem dX7_rights_7 : decode cX7_rights 7 = .ok (.bipush 11, 2) := by decide +kernel
theorem dX7_rights_9 : decode cX7_rights 9 = .ok (.invokestatic 208, 3) := by decide +kernel
theorem dX7_rights_12 : decode cX7_rights 12 = .ok (.ifCond .eq 8, 3) := by decide +kernel
theorem dX7_rights_15 : decode cX7_rights 15 = .ok (.iload_n 3, 1) := by decide +kernel
theorem dX7_rights_16 : decode cX7_rights 16 = .ok (.iload_n 2, 1) := by decide +kernel
theorem dX7_rights_17 : decode cX7_rights 17 = .ok (.if_icmp .ge 5, 3) := by decide +kernel
theorem dX7_rights_20 : decode cX7_rights 20 = .ok (.iconst (-1), 1) := by decide +kernel
theorem dX7_rights_21 : decode cX7_rights 21 = .ok (.ireturn, 1) := by decide +kernel
theorem dX7_rights_22 : decode cX7_rights 22 = .ok (.iconst 0, 1) := by decide +kernel
theorem dX7_rights_23 : decode cX7_rights 23 = .ok (.istore 4, 2) := by decide +kernel
theorem dX7_rights_25 : decode cX7_rights 25 = .ok (.iconst 0, 1) := by decide +kernel
theorem dX7_rights_26 : decode cX7_rights 26 = .ok (.istore 5, 2) := by decide +kernel
theorem dX7_rights_28 : decode cX7_rights 28 = .ok (.iload 5, 2) := by decide +kernel
theorem dX7_rights_30 : decode cX7_rights 30 = .ok (.aload_n 0, 1) := by decide +kernel
theorem dX7_rights_31 : decode cX7_rights 31 = .ok (.getfield 218, 3) := by decide +kernel
theorem dX7_rights_34 : decode cX7_rights 34 = .ok (.if_icmp .ge 88, 3) := by decide +kernel
theorem dX7_rights_37 : decode cX7_rights 37 = .ok (.aload_n 0, 1) := by decide +kernel
theorem dX7_rights_38 : decode cX7_rights 38 = .ok (.getfield 74, 3) := by decide +kernel
theorem dX7_rights_41 : decode cX7_rights 41 = .ok (.iload 5, 2) := by decide +kernel
theorem dX7_rights_43 : decode cX7_rights 43 = .ok (.iaload, 1) := by decide +kernel
theorem dX7_rights_44 : decode cX7_rights 44 = .ok (.iload_n 2, 1) := by decide +kernel
theorem dX7_rights_45 : decode cX7_rights 45 = .ok (.if_icmp .le 13, 3) := by decide +kernel
theorem dX7_rights_48 : decode cX7_rights 48 = .ok (.aload_n 0, 1) := by decide +kernel
theorem dX7_rights_49 : decode cX7_rights 49 = .ok (.getfield 74, 3) := by decide +kernel
theorem dX7_rights_52 : decode cX7_rights 52 = .ok (.iload 5, 2) := by decide +kernel
theorem dX7_rights_54 : decode cX7_rights 54 = .ok (.iaload, 1) := by decide +kernel
theorem dX7_rights_55 : decode cX7_rights 55 = .ok (.goto 4, 3) := by decide +kernel
theorem dX7_rights_58 : decode cX7_rights 58 = .ok (.iload_n 2, 1) := by decide +kernel
theorem dX7_rights_59 : decode cX7_rights 59 = .ok (.istore 6, 2) := by decide +kernel
theorem dX7_rights_61 : decode cX7_rights 61 = .ok (.aload_n 0, 1) := by decide +kernel
theorem dX7_rights_62 : decode cX7_rights 62 = .ok (.iload 5, 2) := by decide +kernel
theorem dX7_rights_64 : decode cX7_rights 64 = .ok (.invokevirtual 237, 3) := by decide +kernel
theorem dX7_rights_67 : decode cX7_rights 67 = .ok (.iload_n 3, 1) := by decide +kernel
theorem dX7_rights_68 : decode cX7_rights 68 = .ok (.if_icmp .ge 12, 3) := by decide +kernel
theorem dX7_rights_71 : decode cX7_rights 71 = .ok (.aload_n 0, 1) := by decide +kernel
theorem dX7_rights_72 : decode cX7_rights 72 = .ok (.iload 5, 2) := by decide +kernel
theorem dX7_rights_74 : decode cX7_rights 74 = .ok (.invokevirtual 237, 3) := by decide +kernel
theorem dX7_rights_77 : decode cX7_rights 77 = .ok (.goto 4, 3) := by decide +kernel
theorem dX7_rights_80 : decode cX7_rights 80 = .ok (.iload_n 3, 1) := by decide +kernel
theorem dX7_rights_81 : decode cX7_rights 81 = .ok (.istore 7, 2) := by decide +kernel
theorem dX7_rights_83 : decode cX7_rights 83 = .ok (.aload_n 0, 1) := by decide +kernel
theorem dX7_rights_84 : decode cX7_rights 84 = .ok (.getfield 43, 3) := by decide +kernel
theorem dX7_rights_87 : decode cX7_rights 87 = .ok (.aload_n 0, 1) := by decide +kernel
theorem dX7_rights_88 : decode cX7_rights 88 = .ok (.getfield 71, 3) := by decide +kernel
theorem dX7_rights_91 : decode cX7_rights 91 = .ok (.iload 5, 2) := by decide +kernel
theorem dX7_rights_93 : decode cX7_rights 93 = .ok (.iaload, 1) := by decide +kernel
theorem dX7_rights_94 : decode cX7_rights 94 = .ok (.iaload, 1) := by decide +kernel
theorem dX7_rights_95 : decode cX7_rights 95 = .ok (.iload_n 1, 1) := by decide +kernel
theorem dX7_rights_96 : decode cX7_rights 96 = .ok (.if_icmp .ne 20, 3) := by decide +kernel
theorem dX7_rights_99 : decode cX7_rights 99 = .ok (.iload 7, 2) := by decide +kernel
theorem dX7_rights_101 : decode cX7_rights 101 = .ok (.iload 6, 2) := by decide +kernel
theorem dX7_rights_103 : decode cX7_rights 103 = .ok (.if_icmp .le 13, 3) := by decide +kernel
theorem dX7_rights_106 : decode cX7_rights 106 = .ok (.iload 4, 2) := by decide +kernel
theorem dX7_rights_108 : decode cX7_rights 108 = .ok (.iload 7, 2) := by decide +kernel
theorem dX7_rights_110 : decode cX7_rights 110 = .ok (.iload 6, 2) := by decide +kernel
theorem dX7_rights_112 : decode cX7_rights 112 = .ok (.isub, 1) := by decide +kernel
theorem dX7_rights_113 : decode cX7_rights 113 = .ok (.iadd, 1) := by decide +kernel
theorem dX7_rights_114 : decode cX7_rights 114 = .ok (.istore 4, 2) := by decide +kernel
theorem dX7_rights_116 : decode cX7_rights 116 = .ok (.iinc 5 1, 3) := by decide +kernel
theorem dX7_rights_119 : decode cX7_rights 119 = .ok (.goto (-91), 3) := by decide +kernel
theorem dX7_rights_122 : decode cX7_rights 122 = .ok (.iload 4, 2) := by decide +kernel
theorem dX7_rights_124 : decode cX7_rights 124 = .ok (.ireturn, 1) := by decide +kernel
theorem dX7_items_0 : decode cX7_items 0 = .ok (.iload_n 1, 1) := by decide +kernel
theorem dX7_items_1 : decode cX7_items 1 = .ok (.invokestatic 196, 3) := by decide +kernel
theorem dX7_items_4 : decode cX7_items 4 = .ok (.ifCond .ne 8, 3) := by decide +kernel
theorem dX7_items_7 : decode cX7_items 7 = .ok (.aload_n 0, 1) := by decide +kernel
theorem dX7_items_8 : decode cX7_items 8 = .ok (.invokevirtual 199, 3) := by decide +kernel
theorem dX7_items_11 : decode cX7_items 11 = .ok (.ireturn, 1) := by decide +kernel
theorem dX7_items_12 : decode cX7_items 12 = .ok (.aload_n 0, 1) := by decide +kernel
theorem dX7_items_13 : decode cX7_items 13 = .ok (.iconst 0, 1) := by decide +kernel
theorem dX7_items_14 : decode cX7_items 14 = .ok (.putfield 105, 3) := by decide +kernel
theorem dX7_items_17 : decode cX7_items 17 = .ok (.aload_n 0, 1) := by decide +kernel
theorem dX7_items_18 : decode cX7_items 18 = .ok (.getfield 28, 3) := by decide +kernel
theorem dX7_items_21 : decode cX7_items 21 = .ok (.iload_n 1, 1) := by decide +kernel
theorem dX7_items_22 : decode cX7_items 22 = .ok (.iaload, 1) := by decide +kernel
theorem dX7_items_23 : decode cX7_items 23 = .ok (.ireturn, 1) := by decide +kernel
theorem dX7_count_0 : decode cX7_count 0 = .ok (.aload_n 0, 1) := by decide +kernel
theorem dX7_count_1 : decode cX7_count 1 = .ok (.iconst 0, 1) := by decide +kernel
theorem dX7_count_2 : decode cX7_count 2 = .ok (.putfield 105, 3) := by decide +kernel
theorem dX7_count_5 : decode cX7_count 5 = .ok (.iconst 0, 1) := by decide +kernel
theorem dX7_count_6 : decode cX7_count 6 = .ok (.istore_n 2, 1) := by decide +kernel
theorem dX7_count_7 : decode cX7_count 7 = .ok (.iconst 0, 1) := by decide +kernel
theorem dX7_count_8 : decode cX7_count 8 = .ok (.istore_n 3, 1) := by decide +kernel
theorem dX7_count_9 : decode cX7_count 9 = .ok (.iload_n 3, 1) := by decide +kernel
theorem dX7_count_10 : decode cX7_count 10 = .ok (.aload_n 0, 1) := by decide +kernel
theorem dX7_count_11 : decode cX7_count 11 = .ok (.getfield 205, 3) := by decide +kernel
theorem dX7_count_14 : decode cX7_count 14 = .ok (.if_icmp .ge 18, 3) := by decide +kernel
theorem dX7_count_17 : decode cX7_count 17 = .ok (.iload_n 2, 1) := by decide +kernel
theorem dX7_count_18 : decode cX7_count 18 = .ok (.aload_n 0, 1) := by decide +kernel
theorem dX7_count_19 : decode cX7_count 19 = .ok (.getfield 55, 3) := by decide +kernel
theorem dX7_count_22 : decode cX7_count 22 = .ok (.iload_n 3, 1) := by decide +kernel
theorem dX7_count_23 : decode cX7_count 23 = .ok (.iaload, 1) := by decide +kernel
theorem dX7_count_24 : decode cX7_count 24 = .ok (.iadd, 1) := by decide +kernel
theorem dX7_count_25 : decode cX7_count 25 = .ok (.istore_n 2, 1) := by decide +kernel
theorem dX7_count_26 : decode cX7_count 26 = .ok (.iinc 3 1, 3) := by decide +kernel
theorem dX7_count_29 : decode cX7_count 29 = .ok (.goto (-20), 3) := by decide +kernel
theorem dX7_count_32 : decode cX7_count 32 = .ok (.iload_n 1, 1) := by decide +kernel
theorem dX7_count_33 : decode cX7_count 33 = .ok (.tableswitch 75 0 6 #[43, 48, 53, 58, 63, 68, 70], 43) := by decide +kernel
theorem dX7_count_76 : decode cX7_count 76 = .ok (.aload_n 0, 1) := by decide +kernel
theorem dX7_count_77 : decode cX7_count 77 = .ok (.getfield 264, 3) := by decide +kernel
theorem dX7_count_80 : decode cX7_count 80 = .ok (.ireturn, 1) := by decide +kernel
theorem dX7_count_81 : decode cX7_count 81 = .ok (.aload_n 0, 1) := by decide +kernel
theorem dX7_count_82 : decode cX7_count 82 = .ok (.getfield 205, 3) := by decide +kernel
theorem dX7_count_85 : decode cX7_count 85 = .ok (.ireturn, 1) := by decide +kernel
theorem dX7_count_86 : decode cX7_count 86 = .ok (.aload_n 0, 1) := by decide +kernel
theorem dX7_count_87 : decode cX7_count 87 = .ok (.getfield 218, 3) := by decide +kernel
theorem dX7_count_90 : decode cX7_count 90 = .ok (.ireturn, 1) := by decide +kernel
theorem dX7_count_91 : decode cX7_count 91 = .ok (.aload_n 0, 1) := by decide +kernel
theorem dX7_count_92 : decode cX7_count 92 = .ok (.getfield 270, 3) := by decide +kernel
theorem dX7_count_95 : decode cX7_count 95 = .ok (.ireturn, 1) := by decide +kernel
theorem dX7_count_96 : decode cX7_count 96 = .ok (.aload_n 0, 1) := by decide +kernel
theorem dX7_count_97 : decode cX7_count 97 = .ok (.getfield 267, 3) := by decide +kernel
theorem dX7_count_100 : decode cX7_count 100 = .ok (.ireturn, 1) := by decide +kernel
theorem dX7_count_101 : decode cX7_count 101 = .ok (.iload_n 2, 1) := by decide +kernel
theorem dX7_count_102 : decode cX7_count 102 = .ok (.ireturn, 1) := by decide +kernel
theorem dX7_count_103 : decode cX7_count 103 = .ok (.aload_n 0, 1) := by decide +kernel
theorem dX7_count_104 : decode cX7_count 104 = .ok (.getfield 109, 3) := by decide +kernel
theorem dX7_count_107 : decode cX7_count 107 = .ok (.ireturn, 1) := by decide +kernel
theorem dX7_count_108 : decode cX7_count 108 = .ok (.iconst (-1), 1) := by decide +kernel
theorem dX7_count_109 : decode cX7_count 109 = .ok (.ireturn, 1) := by decide +kernel
theorem dJ9_abs_0f7a4_0 : decode cJ9_abs_0f7a4 0 = .ok (.iload_n 0, 1) := by decide +kernel
theorem dJ9_abs_0f7a4_1 : decode cJ9_abs_0f7a4 1 = .ok (.ifCond .ge 8, 3) := by decide +kernel
theorem dJ9_abs_0f7a4_4 : decode cJ9_abs_0f7a4 4 = .ok (.iload_n 0, 1) := by decide +kernel
theorem dJ9_abs_0f7a4_5 : decode cJ9_abs_0f7a4 5 = .ok (.ineg, 1) := by decide +kernel
theorem dJ9_abs_0f7a4_6 : decode cJ9_abs_0f7a4 6 = .ok (.goto 4, 3) := by decide +kernel
theorem dJ9_abs_0f7a4_9 : decode cJ9_abs_0f7a4 9 = .ok (.iload_n 0, 1) := by decide +kernel
theorem dJ9_abs_0f7a4_10 : decode cJ9_abs_0f7a4 10 = .ok (.ireturn, 1) := by decide +kernel
theorem dJ9_max_7cf53_0 : decode cJ9_max_7cf53 0 = .ok (.iload_n 0, 1) := by decide +kernel
theorem dJ9_max_7cf53_1 : decode cJ9_max_7cf53 1 = .ok (.iload_n 1, 1) := by decide +kernel
theorem dJ9_max_7cf53_2 : decode cJ9_max_7cf53 2 = .ok (.if_icmp .lt 7, 3) := by decide +kernel
theorem dJ9_max_7cf53_5 : decode cJ9_max_7cf53 5 = .ok (.iload_n 0, 1) := by decide +kernel
theorem dJ9_max_7cf53_6 : decode cJ9_max_7cf53 6 = .ok (.goto 4, 3) := by decide +kernel
theorem dJ9_max_7cf53_9 : decode cJ9_max_7cf53 9 = .ok (.iload_n 1, 1) := by decide +kernel
theorem dJ9_max_7cf53_10 : decode cJ9_max_7cf53 10 = .ok (.ireturn, 1) := by decide +kernel
theorem dJ9_min_7cf53_0 : decode cJ9_min_7cf53 0 = .ok (.iload_n 0, 1) := by decide +kernel
theorem dJ9_min_7cf53_1 : decode cJ9_min_7cf53 1 = .ok (.iload_n 1, 1) := by decide +kernel
theorem dJ9_min_7cf53_2 : decode cJ9_min_7cf53 2 = .ok (.if_icmp .gt 7, 3) := by decide +kernel
theorem dJ9_min_7cf53_5 : decode cJ9_min_7cf53 5 = .ok (.iload_n 0, 1) := by decide +kernel
theorem dJ9_min_7cf53_6 : decode cJ9_min_7cf53 6 = .ok (.goto 4, 3) := by decide +kernel
theorem dJ9_min_7cf53_9 : decode cJ9_min_7cf53 9 = .ok (.iload_n 1, 1) := by decide +kernel
theorem dJ9_min_7cf53_10 : decode cJ9_min_7cf53 10 = .ok (.ireturn, 1) := by decide +kernel
theorem dJ0_length_8abf5_0 : decode cJ0_length_8abf5 0 = .ok (.aload_n 0, 1) := by decide +kernel
theorem dJ0_length_8abf5_1 : decode cJ0_length_8abf5 1 = .ok (.getfield 9, 3) := by decide +kernel
theorem dJ0_length_8abf5_4 : decode cJ0_length_8abf5 4 = .ok (.arraylength, 1) := by decide +kernel
theorem dJ0_length_8abf5_5 : decode cJ0_length_8abf5 5 = .ok (.aload_n 0, 1) := by decide +kernel
theorem dJ0_length_8abf5_6 : decode cJ0_length_8abf5 6 = .ok (.invokevirtual 335, 3) := by decide +kernel
theorem dJ0_length_8abf5_9 : decode cJ0_length_8abf5 9 = .ok (.ishr, 1) := by decide +kernel
theorem dJ0_length_8abf5_10 : decode cJ0_length_8abf5 10 = .ok (.ireturn, 1) := by decide +kernel
theorem dJ0_charAt_5068e_0 : decode cJ0_charAt_5068e 0 = .ok (.aload_n 0, 1) := by decide +kernel
theorem dJ0_charAt_5068e_1 : decode cJ0_charAt_5068e 1 = .ok (.invokevirtual 492, 3) := by decide +kernel
theorem dJ0_charAt_5068e_4 : decode cJ0_charAt_5068e 4 = .ok (.ifCond .eq 12, 3) := by decide +kernel
theorem dJ0_charAt_5068e_7 : decode cJ0_charAt_5068e 7 = .ok (.aload_n 0, 1) := by decide +kernel
theorem dJ0_charAt_5068e_8 : decode cJ0_charAt_5068e 8 = .ok (.getfield 9, 3) := by decide +kernel
theorem dJ0_charAt_5068e_11 : decode cJ0_charAt_5068e 11 = .ok (.iload_n 1, 1) := by decide +kernel
theorem dJ0_charAt_5068e_12 : decode cJ0_charAt_5068e 12 = .ok (.invokestatic 495, 3) := by decide +kernel
theorem dJ0_charAt_5068e_15 : decode cJ0_charAt_5068e 15 = .ok (.ireturn, 1) := by decide +kernel
theorem dJ0_charAt_5068e_16 : decode cJ0_charAt_5068e 16 = .ok (.aload_n 0, 1) := by decide +kernel
theorem dJ0_charAt_5068e_17 : decode cJ0_charAt_5068e 17 = .ok (.getfield 9, 3) := by decide +kernel
theorem dJ0_charAt_5068e_20 : decode cJ0_charAt_5068e 20 = .ok (.iload_n 1, 1) := by decide +kernel
theorem dJ0_charAt_5068e_21 : decode cJ0_charAt_5068e 21 = .ok (.invokestatic 498, 3) := by decide +kernel
theorem dJ0_charAt_5068e_24 : decode cJ0_charAt_5068e 24 = .ok (.ireturn, 1) := by decide +kernel
theorem dJ0_coder_7d493_0 : decode cJ0_coder_7d493 0 = .ok (.getstatic 38, 3) := by decide +kernel
theorem dJ0_coder_7d493_3 : decode cJ0_coder_7d493 3 = .ok (.ifCond .eq 10, 3) := by decide +kernel
theorem dJ0_coder_7d493_6 : decode cJ0_coder_7d493 6 = .ok (.aload_n 0, 1) := by decide +kernel
theorem dJ0_coder_7d493_7 : decode cJ0_coder_7d493 7 = .ok (.getfield 15, 3) := by decide +kernel
theorem dJ0_coder_7d493_10 : decode cJ0_coder_7d493 10 = .ok (.goto 4, 3) := by decide +kernel
theorem dJ0_coder_7d493_13 : decode cJ0_coder_7d493 13 = .ok (.iconst 1, 1) := by decide +kernel
theorem dJ0_coder_7d493_14 : decode cJ0_coder_7d493 14 = .ok (.ireturn, 1) := by decide +kernel
theorem dJ0_isLatin1_aae02_0 : decode cJ0_isLatin1_aae02 0 = .ok (.getstatic 38, 3) := by decide +kernel
theorem dJ0_isLatin1_aae02_3 : decode cJ0_isLatin1_aae02 3 = .ok (.ifCond .eq 14, 3) := by decide +kernel
theorem dJ0_isLatin1_aae02_6 : decode cJ0_isLatin1_aae02 6 = .ok (.aload_n 0, 1) := by decide +kernel
theorem dJ0_isLatin1_aae02_7 : decode cJ0_isLatin1_aae02 7 = .ok (.getfield 15, 3) := by decide +kernel
theorem dJ0_isLatin1_aae02_10 : decode cJ0_isLatin1_aae02 10 = .ok (.ifCond .ne 7, 3) := by decide +kernel
theorem dJ0_isLatin1_aae02_13 : decode cJ0_isLatin1_aae02 13 = .ok (.iconst 1, 1) := by decide +kernel
theorem dJ0_isLatin1_aae02_14 : decode cJ0_isLatin1_aae02 14 = .ok (.goto 4, 3) := by decide +kernel
theorem dJ0_isLatin1_aae02_17 : decode cJ0_isLatin1_aae02 17 = .ok (.iconst 0, 1) := by decide +kernel
theorem dJ0_isLatin1_aae02_18 : decode cJ0_isLatin1_aae02 18 = .ok (.ireturn, 1) := by decide +kernel
theorem dJ0_checkIndex_df160_0 : decode cJ0_checkIndex_df160 0 = .ok (.iload_n 0, 1) := by decide +kernel
theorem dJ0_checkIndex_df160_1 : decode cJ0_checkIndex_df160 1 = .ok (.iload_n 1, 1) := by decide +kernel
theorem dJ0_checkIndex_df160_2 : decode cJ0_checkIndex_df160 2 = .ok (.getstatic 1053, 3) := by decide +kernel
theorem dJ0_checkIndex_df160_5 : decode cJ0_checkIndex_df160 5 = .ok (.invokestatic 1059, 3) := by decide +kernel
theorem dJ0_checkIndex_df160_8 : decode cJ0_checkIndex_df160 8 = .ok (.pop, 1) := by decide +kernel
theorem dJ0_checkIndex_df160_9 : decode cJ0_checkIndex_df160 9 = .ok (.return_, 1) := by decide +kernel
theorem dJ1_charAt_3b067_0 : decode cJ1_charAt_3b067 0 = .ok (.iload_n 1, 1) := by decide +kernel
theorem dJ1_charAt_3b067_1 : decode cJ1_charAt_3b067 1 = .ok (.aload_n 0, 1) := by decide +kernel
theorem dJ1_charAt_3b067_2 : decode cJ1_charAt_3b067 2 = .ok (.arraylength, 1) := by decide +kernel
theorem dJ1_charAt_3b067_3 : decode cJ1_charAt_3b067 3 = .ok (.invokestatic 9, 3) := by decide +kernel
theorem dJ1_charAt_3b067_6 : decode cJ1_charAt_3b067 6 = .ok (.aload_n 0, 1) := by decide +kernel
theorem dJ1_charAt_3b067_7 : decode cJ1_charAt_3b067 7 = .ok (.iload_n 1, 1) := by decide +kernel
theorem dJ1_charAt_3b067_8 : decode cJ1_charAt_3b067 8 = .ok (.baload, 1) := by decide +kernel
theorem dJ1_charAt_3b067_9 : decode cJ1_charAt_3b067 9 = .ok (.sipush 255, 3) := by decide +kernel
theorem dJ1_charAt_3b067_12 : decode cJ1_charAt_3b067 12 = .ok (.iand, 1) := by decide +kernel
theorem dJ1_charAt_3b067_13 : decode cJ1_charAt_3b067 13 = .ok (.i2c, 1) := by decide +kernel
theorem dJ1_charAt_3b067_14 : decode cJ1_charAt_3b067 14 = .ok (.ireturn, 1) := by decide +kernel
theorem dJ2_getChar_3b067_0 : decode cJ2_getChar_3b067 0 = .ok (.getstatic 44, 3) := by decide +kernel
theorem dJ2_getChar_3b067_3 : decode cJ2_getChar_3b067 3 = .ok (.ifCond .ne 25, 3) := by decide +kernel
theorem dJ2_getChar_3b067_6 : decode cJ2_getChar_3b067 6 = .ok (.iload_n 1, 1) := by decide +kernel
theorem dJ2_getChar_3b067_7 : decode cJ2_getChar_3b067 7 = .ok (.ifCond .lt 11, 3) := by decide +kernel
theorem dJ2_getChar_3b067_10 : decode cJ2_getChar_3b067 10 = .ok (.iload_n 1, 1) := by decide +kernel
theorem dJ2_getChar_3b067_11 : decode cJ2_getChar_3b067 11 = .ok (.aload_n 0, 1) := by decide +kernel
theorem dJ2_getChar_3b067_12 : decode cJ2_getChar_3b067 12 = .ok (.invokestatic 48, 3) := by decide +kernel
theorem dJ2_getChar_3b067_15 : decode cJ2_getChar_3b067 15 = .ok (.if_icmp .lt 13, 3) := by decide +kernel
theorem dJ2_getChar_3b067_18 : decode cJ2_getChar_3b067 18 = .ok (.new 52, 3) := by decide +kernel
theorem dJ2_getChar_3b067_21 : decode cJ2_getChar_3b067 21 = .ok (.dup, 1) := by decide +kernel
theorem dJ2_getChar_3b067_22 : decode cJ2_getChar_3b067 22 = .ok (.ldc 54, 2) := by decide +kernel
theorem dJ2_getChar_3b067_24 : decode cJ2_getChar_3b067 24 = .ok (.invokespecial 56, 3) := by decide +kernel
theorem dJ2_getChar_3b067_27 : decode cJ2_getChar_3b067 27 = .ok (.athrow, 1) := by decide +kernel
theorem dJ2_getChar_3b067_28 : decode cJ2_getChar_3b067 28 = .ok (.iload_n 1, 1) := by decide +kernel
theorem dJ2_getChar_3b067_29 : decode cJ2_getChar_3b067 29 = .ok (.iconst 1, 1) := by decide +kernel
theorem dJ2_getChar_3b067_30 : decode cJ2_getChar_3b067 30 = .ok (.ishl, 1) := by decide +kernel
theorem dJ2_getChar_3b067_31 : decode cJ2_getChar_3b067 31 = .ok (.istore_n 1, 1) := by decide +kernel
theorem dJ2_getChar_3b067_32 : decode cJ2_getChar_3b067 32 = .ok (.aload_n 0, 1) := by decide +kernel
theorem dJ2_getChar_3b067_33 : decode cJ2_getChar_3b067 33 = .ok (.iload_n 1, 1) := by decide +kernel
theorem dJ2_getChar_3b067_34 : decode cJ2_getChar_3b067 34 = .ok (.iinc 1 1, 3) := by decide +kernel
theorem dJ2_getChar_3b067_37 : decode cJ2_getChar_3b067 37 = .ok (.baload, 1) := by decide +kernel
theorem dJ2_getChar_3b067_38 : decode cJ2_getChar_3b067 38 = .ok (.sipush 255, 3) := by decide +kernel
theorem dJ2_getChar_3b067_41 : decode cJ2_getChar_3b067 41 = .ok (.iand, 1) := by decide +kernel
theorem dJ2_getChar_3b067_42 : decode cJ2_getChar_3b067 42 = .ok (.getstatic 59, 3) := by decide +kernel
theorem dJ2_getChar_3b067_45 : decode cJ2_getChar_3b067 45 = .ok (.ishl, 1) := by decide +kernel
theorem dJ2_getChar_3b067_46 : decode cJ2_getChar_3b067 46 = .ok (.aload_n 0, 1) := by decide +kernel
theorem dJ2_getChar_3b067_47 : decode cJ2_getChar_3b067 47 = .ok (.iload_n 1, 1) := by decide +kernel
theorem dJ2_getChar_3b067_48 : decode cJ2_getChar_3b067 48 = .ok (.baload, 1) := by decide +kernel
theorem dJ2_getChar_3b067_49 : decode cJ2_getChar_3b067 49 = .ok (.sipush 255, 3) := by decide +kernel
theorem dJ2_getChar_3b067_52 : decode cJ2_getChar_3b067 52 = .ok (.iand, 1) := by decide +kernel
theorem dJ2_getChar_3b067_53 : decode cJ2_getChar_3b067 53 = .ok (.getstatic 63, 3) := by decide +kernel
theorem dJ2_getChar_3b067_56 : decode cJ2_getChar_3b067 56 = .ok (.ishl, 1) := by decide +kernel
theorem dJ2_getChar_3b067_57 : decode cJ2_getChar_3b067 57 = .ok (.ior, 1) := by decide +kernel
theorem dJ2_getChar_3b067_58 : decode cJ2_getChar_3b067 58 = .ok (.i2c, 1) := by decide +kernel
theorem dJ2_getChar_3b067_59 : decode cJ2_getChar_3b067 59 = .ok (.ireturn, 1) := by decide +kernel
theorem dJ2_length_9d52b_0 : decode cJ2_length_9d52b 0 = .ok (.aload_n 0, 1) := by decide +kernel
theorem dJ2_length_9d52b_1 : decode cJ2_length_9d52b 1 = .ok (.arraylength, 1) := by decide +kernel
theorem dJ2_length_9d52b_2 : decode cJ2_length_9d52b 2 = .ok (.iconst 1, 1) := by decide +kernel
theorem dJ2_length_9d52b_3 : decode cJ2_length_9d52b 3 = .ok (.ishr, 1) := by decide +kernel
theorem dJ2_length_9d52b_4 : decode cJ2_length_9d52b 4 = .ok (.ireturn, 1) := by decide +kernel
theorem dJ2_charAt_3b067_0 : decode cJ2_charAt_3b067 0 = .ok (.iload_n 1, 1) := by decide +kernel
theorem dJ2_charAt_3b067_1 : decode cJ2_charAt_3b067 1 = .ok (.aload_n 0, 1) := by decide +kernel
theorem dJ2_charAt_3b067_2 : decode cJ2_charAt_3b067 2 = .ok (.invokestatic 67, 3) := by decide +kernel
theorem dJ2_charAt_3b067_5 : decode cJ2_charAt_3b067 5 = .ok (.aload_n 0, 1) := by decide +kernel
theorem dJ2_charAt_3b067_6 : decode cJ2_charAt_3b067 6 = .ok (.iload_n 1, 1) := by decide +kernel
theorem dJ2_charAt_3b067_7 : decode cJ2_charAt_3b067 7 = .ok (.invokestatic 71, 3) := by decide +kernel
theorem dJ2_charAt_3b067_10 : decode cJ2_charAt_3b067 10 = .ok (.ireturn, 1) := by decide +kernel
theorem dJ2_checkIndex_2214a_0 : decode cJ2_checkIndex_2214a 0 = .ok (.iload_n 0, 1) := by decide +kernel
theorem dJ2_checkIndex_2214a_1 : decode cJ2_checkIndex_2214a 1 = .ok (.aload_n 1, 1) := by decide +kernel
theorem dJ2_checkIndex_2214a_2 : decode cJ2_checkIndex_2214a 2 = .ok (.invokestatic 48, 3) := by decide +kernel
theorem dJ2_checkIndex_2214a_5 : decode cJ2_checkIndex_2214a 5 = .ok (.invokestatic 414, 3) := by decide +kernel
theorem dJ2_checkIndex_2214a_8 : decode cJ2_checkIndex_2214a 8 = .ok (.return_, 1) := by decide +kernel
theorem dJ7_fill_53178_0 : decode cJ7_fill_53178 0 = .ok (.iconst 0, 1) := by decide +kernel
theorem dJ7_fill_53178_1 : decode cJ7_fill_53178 1 = .ok (.istore_n 2, 1) := by decide +kernel
theorem dJ7_fill_53178_2 : decode cJ7_fill_53178 2 = .ok (.aload_n 0, 1) := by decide +kernel
theorem dJ7_fill_53178_3 : decode cJ7_fill_53178 3 = .ok (.arraylength, 1) := by decide +kernel
theorem dJ7_fill_53178_4 : decode cJ7_fill_53178 4 = .ok (.istore_n 3, 1) := by decide +kernel
theorem dJ7_fill_53178_5 : decode cJ7_fill_53178 5 = .ok (.iload_n 2, 1) := by decide +kernel
theorem dJ7_fill_53178_6 : decode cJ7_fill_53178 6 = .ok (.iload_n 3, 1) := by decide +kernel
theorem dJ7_fill_53178_7 : decode cJ7_fill_53178 7 = .ok (.if_icmp .ge 13, 3) := by decide +kernel
theorem dJ7_fill_53178_10 : decode cJ7_fill_53178 10 = .ok (.aload_n 0, 1) := by decide +kernel
theorem dJ7_fill_53178_11 : decode cJ7_fill_53178 11 = .ok (.iload_n 2, 1) := by decide +kernel
theorem dJ7_fill_53178_12 : decode cJ7_fill_53178 12 = .ok (.iload_n 1, 1) := by decide +kernel
theorem dJ7_fill_53178_13 : decode cJ7_fill_53178 13 = .ok (.iastore, 1) := by decide +kernel
theorem dJ7_fill_53178_14 : decode cJ7_fill_53178 14 = .ok (.iinc 2 1, 3) := by decide +kernel
theorem dJ7_fill_53178_17 : decode cJ7_fill_53178 17 = .ok (.goto (-12), 3) := by decide +kernel
theorem dJ7_fill_53178_20 : decode cJ7_fill_53178 20 = .ok (.return_, 1) := by decide +kernel
theorem dJ3_checkIndex_8e157_0 : decode cJ3_checkIndex_8e157 0 = .ok (.iload_n 0, 1) := by decide +kernel
theorem dJ3_checkIndex_8e157_1 : decode cJ3_checkIndex_8e157 1 = .ok (.ifCond .lt 8, 3) := by decide +kernel
theorem dJ3_checkIndex_8e157_4 : decode cJ3_checkIndex_8e157 4 = .ok (.iload_n 0, 1) := by decide +kernel
theorem dJ3_checkIndex_8e157_5 : decode cJ3_checkIndex_8e157 5 = .ok (.iload_n 1, 1) := by decide +kernel
theorem dJ3_checkIndex_8e157_6 : decode cJ3_checkIndex_8e157 6 = .ok (.if_icmp .lt 10, 3) := by decide +kernel
theorem dJ3_checkIndex_8e157_9 : decode cJ3_checkIndex_8e157 9 = .ok (.aload_n 2, 1) := by decide +kernel
theorem dJ3_checkIndex_8e157_10 : decode cJ3_checkIndex_8e157 10 = .ok (.iload_n 0, 1) := by decide +kernel
theorem dJ3_checkIndex_8e157_11 : decode cJ3_checkIndex_8e157 11 = .ok (.iload_n 1, 1) := by decide +kernel
theorem dJ3_checkIndex_8e157_12 : decode cJ3_checkIndex_8e157 12 = .ok (.invokestatic 95, 3) := by decide +kernel
theorem dJ3_checkIndex_8e157_15 : decode cJ3_checkIndex_8e157 15 = .ok (.athrow, 1) := by decide +kernel
theorem dJ3_checkIndex_8e157_16 : decode cJ3_checkIndex_8e157 16 = .ok (.iload_n 0, 1) := by decide +kernel
theorem dJ3_checkIndex_8e157_17 : decode cJ3_checkIndex_8e157 17 = .ok (.ireturn, 1) := by decide +kernel
theorem dL_clock_0 : decode cL_clock 0 = .ok (.aload_n 2, 1) := by decide +kernel
theorem dL_clock_1 : decode cL_clock 1 = .ok (.iconst 0, 1) := by decide +kernel
theorem dL_clock_2 : decode cL_clock 2 = .ok (.aload_n 0, 1) := by decide +kernel
theorem dL_clock_3 : decode cL_clock 3 = .ok (.iload_n 1, 1) := by decide +kernel
theorem dL_clock_4 : decode cL_clock 4 = .ok (.invokevirtual 7, 3) := by decide +kernel
theorem dL_clock_7 : decode cL_clock 7 = .ok (.i2l, 1) := by decide +kernel
theorem dL_clock_8 : decode cL_clock 8 = .ok (.lastore, 1) := by decide +kernel
theorem dL_clock_9 : decode cL_clock 9 = .ok (.goto 6, 3) := by decide +kernel
theorem dL_clock_12 : decode cL_clock 12 = .ok (.astore_n 3, 1) := by decide +kernel
theorem dL_clock_13 : decode cL_clock 13 = .ok (.iconst 1, 1) := by decide +kernel
theorem dL_clock_14 : decode cL_clock 14 = .ok (.ireturn, 1) := by decide +kernel
theorem dL_clock_15 : decode cL_clock 15 = .ok (.iconst 0, 1) := by decide +kernel
theorem dL_clock_16 : decode cL_clock 16 = .ok (.ireturn, 1) := by decide +kernel
theorem dL_lay_0 : decode cL_lay 0 = .ok (.aload_n 2, 1) := by decide +kernel
theorem dL_lay_1 : decode cL_lay 1 = .ok (.iconst 0, 1) := by decide +kernel
theorem dL_lay_2 : decode cL_lay 2 = .ok (.aload_n 0, 1) := by decide +kernel
theorem dL_lay_3 : decode cL_lay 3 = .ok (.iload_n 1, 1) := by decide +kernel
theorem dL_lay_4 : decode cL_lay 4 = .ok (.invokevirtual 15, 3) := by decide +kernel
theorem dL_lay_7 : decode cL_lay 7 = .ok (.i2l, 1) := by decide +kernel
theorem dL_lay_8 : decode cL_lay 8 = .ok (.lastore, 1) := by decide +kernel
theorem dL_lay_9 : decode cL_lay 9 = .ok (.goto 6, 3) := by decide +kernel
theorem dL_lay_12 : decode cL_lay 12 = .ok (.astore_n 3, 1) := by decide +kernel
theorem dL_lay_13 : decode cL_lay 13 = .ok (.iconst 1, 1) := by decide +kernel
theorem dL_lay_14 : decode cL_lay 14 = .ok (.ireturn, 1) := by decide +kernel
theorem dL_lay_15 : decode cL_lay 15 = .ok (.iconst 0, 1) := by decide +kernel
theorem dL_lay_16 : decode cL_lay 16 = .ok (.ireturn, 1) := by decide +kernel
theorem dL_play_0 : decode cL_play 0 = .ok (.aload_n 3, 1) := by decide +kernel
theorem dL_play_1 : decode cL_play 1 = .ok (.iconst 0, 1) := by decide +kernel
theorem dL_play_2 : decode cL_play 2 = .ok (.aload_n 0, 1) := by decide +kernel
theorem dL_play_3 : decode cL_play 3 = .ok (.iload_n 1, 1) := by decide +kernel
theorem dL_play_4 : decode cL_play 4 = .ok (.iload_n 2, 1) := by decide +kernel
theorem dL_play_5 : decode cL_play 5 = .ok (.invokevirtual 18, 3) := by decide +kernel
theorem dL_play_8 : decode cL_play 8 = .ok (.i2l, 1) := by decide +kernel
theorem dL_play_9 : decode cL_play 9 = .ok (.lastore, 1) := by decide +kernel
theorem dL_play_10 : decode cL_play 10 = .ok (.goto 7, 3) := by decide +kernel
theorem dL_play_13 : decode cL_play 13 = .ok (.astore 4, 2) := by decide +kernel
theorem dL_play_15 : decode cL_play 15 = .ok (.iconst 1, 1) := by decide +kernel
theorem dL_play_16 : decode cL_play 16 = .ok (.ireturn, 1) := by decide +kernel
theorem dL_play_17 : decode cL_play 17 = .ok (.iconst 0, 1) := by decide +kernel
theorem dL_play_18 : decode cL_play 18 = .ok (.ireturn, 1) := by decide +kernel
theorem dL_left_0 : decode cL_left 0 = .ok (.aload_n 3, 1) := by decide +kernel
theorem dL_left_1 : decode cL_left 1 = .ok (.iconst 0, 1) := by decide +kernel
theorem dL_left_2 : decode cL_left 2 = .ok (.aload_n 0, 1) := by decide +kernel
theorem dL_left_3 : decode cL_left 3 = .ok (.iload_n 1, 1) := by decide +kernel
theorem dL_left_4 : decode cL_left 4 = .ok (.iload_n 2, 1) := by decide +kernel
theorem dL_left_5 : decode cL_left 5 = .ok (.invokevirtual 24, 3) := by decide +kernel
theorem dL_left_8 : decode cL_left 8 = .ok (.i2l, 1) := by decide +kernel
theorem dL_left_9 : decode cL_left 9 = .ok (.lastore, 1) := by decide +kernel
theorem dL_left_10 : decode cL_left 10 = .ok (.goto 7, 3) := by decide +kernel
theorem dL_left_13 : decode cL_left 13 = .ok (.astore 4, 2) := by decide +kernel
theorem dL_left_15 : decode cL_left 15 = .ok (.iconst 1, 1) := by decide +kernel
theorem dL_left_16 : decode cL_left 16 = .ok (.ireturn, 1) := by decide +kernel
theorem dL_left_17 : decode cL_left 17 = .ok (.iconst 0, 1) := by decide +kernel
theorem dL_left_18 : decode cL_left 18 = .ok (.ireturn, 1) := by decide +kernel
theorem dL_items_0 : decode cL_items 0 = .ok (.aload_n 2, 1) := by decide +kernel
theorem dL_items_1 : decode cL_items 1 = .ok (.iconst 0, 1) := by decide +kernel
theorem dL_items_2 : decode cL_items 2 = .ok (.aload_n 0, 1) := by decide +kernel
theorem dL_items_3 : decode cL_items 3 = .ok (.iload_n 1, 1) := by decide +kernel
theorem dL_items_4 : decode cL_items 4 = .ok (.invokevirtual 27, 3) := by decide +kernel
theorem dL_items_7 : decode cL_items 7 = .ok (.i2l, 1) := by decide +kernel
theorem dL_items_8 : decode cL_items 8 = .ok (.lastore, 1) := by decide +kernel
theorem dL_items_9 : decode cL_items 9 = .ok (.goto 6, 3) := by decide +kernel
theorem dL_items_12 : decode cL_items 12 = .ok (.astore_n 3, 1) := by decide +kernel
theorem dL_items_13 : decode cL_items 13 = .ok (.iconst 1, 1) := by decide +kernel
theorem dL_items_14 : decode cL_items 14 = .ok (.ireturn, 1) := by decide +kernel
theorem dL_items_15 : decode cL_items 15 = .ok (.iconst 0, 1) := by decide +kernel
theorem dL_items_16 : decode cL_items 16 = .ok (.ireturn, 1) := by decide +kernel
theorem dL_law_0 : decode cL_law 0 = .ok (.new 8, 3) := by decide +kernel
theorem dL_law_3 : decode cL_law 3 = .ok (.dup, 1) := by decide +kernel
theorem dL_law_4 : decode cL_law 4 = .ok (.invokespecial 30, 3) := by decide +kernel
theorem dL_law_7 : decode cL_law 7 = .ok (.astore_n 1, 1) := by decide +kernel
theorem dL_law_8 : decode cL_law 8 = .ok (.new 31, 3) := by decide +kernel
theorem dL_law_11 : decode cL_law 11 = .ok (.dup, 1) := by decide +kernel
theorem dL_law_12 : decode cL_law 12 = .ok (.invokespecial 33, 3) := by decide +kernel
theorem dL_law_15 : decode cL_law 15 = .ok (.astore_n 2, 1) := by decide +kernel
theorem dL_law_16 : decode cL_law 16 = .ok (.iconst 1, 1) := by decide +kernel
theorem dL_law_17 : decode cL_law 17 = .ok (.newarray .long, 2) := by decide +kernel
theorem dL_law_19 : decode cL_law 19 = .ok (.astore_n 3, 1) := by decide +kernel
theorem dL_law_20 : decode cL_law 20 = .ok (.iconst 0, 1) := by decide +kernel
theorem dL_law_21 : decode cL_law 21 = .ok (.istore 4, 2) := by decide +kernel
theorem dL_law_23 : decode cL_law 23 = .ok (.iload 4, 2) := by decide +kernel
theorem dL_law_25 : decode cL_law 25 = .ok (.aload_n 0, 1) := by decide +kernel
theorem dL_law_26 : decode cL_law 26 = .ok (.arraylength, 1) := by decide +kernel
theorem dL_law_27 : decode cL_law 27 = .ok (.bipush 6, 2) := by decide +kernel
theorem dL_law_29 : decode cL_law 29 = .ok (.isub, 1) := by decide +kernel
theorem dL_law_30 : decode cL_law 30 = .ok (.if_icmp .gt 840, 3) := by decide +kernel
theorem dL_law_33 : decode cL_law 33 = .ok (.aload_n 0, 1) := by decide +kernel
theorem dL_law_34 : decode cL_law 34 = .ok (.iload 4, 2) := by decide +kernel
theorem dL_law_36 : decode cL_law 36 = .ok (.iaload, 1) := by decide +kernel
theorem dL_law_37 : decode cL_law 37 = .ok (.bipush 31, 2) := by decide +kernel
theorem dL_law_39 : decode cL_law 39 = .ok (.iand, 1) := by decide +kernel
theorem dL_law_40 : decode cL_law 40 = .ok (.tableswitch 824 0 16 #[84, 157, 182, 195, 251, 264, 289, 378, 415, 440, 496, 533, 601, 669, 694, 743, 799], 84) := by decide +kernel
theorem dL_law_124 : decode cL_law 124 = .ok (.aload_n 1, 1) := by decide +kernel
theorem dL_law_125 : decode cL_law 125 = .ok (.aload_n 0, 1) := by decide +kernel
theorem dL_law_126 : decode cL_law 126 = .ok (.iload 4, 2) := by decide +kernel
theorem dL_law_128 : decode cL_law 128 = .ok (.iconst 1, 1) := by decide +kernel
theorem dL_law_129 : decode cL_law 129 = .ok (.iadd, 1) := by decide +kernel
theorem dL_law_130 : decode cL_law 130 = .ok (.iaload, 1) := by decide +kernel
theorem dL_law_131 : decode cL_law 131 = .ok (.aload_n 0, 1) := by decide +kernel
theorem dL_law_132 : decode cL_law 132 = .ok (.iload 4, 2) := by decide +kernel
theorem dL_law_134 : decode cL_law 134 = .ok (.iconst 2, 1) := by decide +kernel
theorem dL_law_135 : decode cL_law 135 = .ok (.iadd, 1) := by decide +kernel
theorem dL_law_136 : decode cL_law 136 = .ok (.iaload, 1) := by decide +kernel
theorem dL_law_137 : decode cL_law 137 = .ok (.aload_n 0, 1) := by decide +kernel
theorem dL_law_138 : decode cL_law 138 = .ok (.iload 4, 2) := by decide +kernel
theorem dL_law_140 : decode cL_law 140 = .ok (.iconst 3, 1) := by decide +kernel
theorem dL_law_141 : decode cL_law 141 = .ok (.iadd, 1) := by decide +kernel
theorem dL_law_142 : decode cL_law 142 = .ok (.iaload, 1) := by decide +kernel
theorem dL_law_143 : decode cL_law 143 = .ok (.aload_n 0, 1) := by decide +kernel
theorem dL_law_144 : decode cL_law 144 = .ok (.iload 4, 2) := by decide +kernel
theorem dL_law_146 : decode cL_law 146 = .ok (.iconst 4, 1) := by decide +kernel
theorem dL_law_147 : decode cL_law 147 = .ok (.iadd, 1) := by decide +kernel
theorem dL_law_148 : decode cL_law 148 = .ok (.iaload, 1) := by decide +kernel
theorem dL_law_149 : decode cL_law 149 = .ok (.aload_n 0, 1) := by decide +kernel
theorem dL_law_150 : decode cL_law 150 = .ok (.iload 4, 2) := by decide +kernel
theorem dL_law_152 : decode cL_law 152 = .ok (.iconst 5, 1) := by decide +kernel
theorem dL_law_153 : decode cL_law 153 = .ok (.iadd, 1) := by decide +kernel
theorem dL_law_154 : decode cL_law 154 = .ok (.iaload, 1) := by decide +kernel
theorem dL_law_155 : decode cL_law 155 = .ok (.invokevirtual 34, 3) := by decide +kernel
theorem dL_law_158 : decode cL_law 158 = .ok (.aload_n 2, 1) := by decide +kernel
theorem dL_law_159 : decode cL_law 159 = .ok (.aload_n 0, 1) := by decide +kernel
theorem dL_law_160 : decode cL_law 160 = .ok (.iload 4, 2) := by decide +kernel
theorem dL_law_162 : decode cL_law 162 = .ok (.iconst 1, 1) := by decide +kernel
theorem dL_law_163 : decode cL_law 163 = .ok (.iadd, 1) := by decide +kernel
theorem dL_law_164 : decode cL_law 164 = .ok (.iaload, 1) := by decide +kernel
theorem dL_law_165 : decode cL_law 165 = .ok (.aload_n 0, 1) := by decide +kernel
theorem dL_law_166 : decode cL_law 166 = .ok (.iload 4, 2) := by decide +kernel
theorem dL_law_168 : decode cL_law 168 = .ok (.iconst 2, 1) := by decide +kernel
theorem dL_law_169 : decode cL_law 169 = .ok (.iadd, 1) := by decide +kernel
theorem dL_law_170 : decode cL_law 170 = .ok (.iaload, 1) := by decide +kernel
theorem dL_law_171 : decode cL_law 171 = .ok (.aload_n 0, 1) := by decide +kernel
theorem dL_law_172 : decode cL_law 172 = .ok (.iload 4, 2) := by decide +kernel
theorem dL_law_174 : decode cL_law 174 = .ok (.iconst 3, 1) := by decide +kernel
theorem dL_law_175 : decode cL_law 175 = .ok (.iadd, 1) := by decide +kernel
theorem dL_law_176 : decode cL_law 176 = .ok (.iaload, 1) := by decide +kernel
theorem dL_law_177 : decode cL_law 177 = .ok (.aload_n 0, 1) := by decide +kernel
theorem dL_law_178 : decode cL_law 178 = .ok (.iload 4, 2) := by decide +kernel
theorem dL_law_180 : decode cL_law 180 = .ok (.iconst 4, 1) := by decide +kernel
theorem dL_law_181 : decode cL_law 181 = .ok (.iadd, 1) := by decide +kernel
theorem dL_law_182 : decode cL_law 182 = .ok (.iaload, 1) := by decide +kernel
theorem dL_law_183 : decode cL_law 183 = .ok (.aload_n 0, 1) := by decide +kernel
theorem dL_law_184 : decode cL_law 184 = .ok (.iload 4, 2) := by decide +kernel
theorem dL_law_186 : decode cL_law 186 = .ok (.iconst 5, 1) := by decide +kernel
theorem dL_law_187 : decode cL_law 187 = .ok (.iadd, 1) := by decide +kernel
theorem dL_law_188 : decode cL_law 188 = .ok (.iaload, 1) := by decide +kernel
theorem dL_law_189 : decode cL_law 189 = .ok (.invokevirtual 38, 3) := by decide +kernel
theorem dL_law_192 : decode cL_law 192 = .ok (.if_icmp .eq 672, 3) := by decide +kernel
theorem dL_law_195 : decode cL_law 195 = .ok (.iconst 0, 1) := by decide +kernel
theorem dL_law_196 : decode cL_law 196 = .ok (.ireturn, 1) := by decide +kernel
theorem dL_law_197 : decode cL_law 197 = .ok (.aload_n 1, 1) := by decide +kernel
theorem dL_law_198 : decode cL_law 198 = .ok (.aload_n 0, 1) := by decide +kernel
theorem dL_law_199 : decode cL_law 199 = .ok (.iload 4, 2) := by decide +kernel
theorem dL_law_201 : decode cL_law 201 = .ok (.iconst 1, 1) := by decide +kernel
theorem dL_law_202 : decode cL_law 202 = .ok (.iadd, 1) := by decide +kernel
theorem dL_law_203 : decode cL_law 203 = .ok (.iaload, 1) := by decide +kernel
theorem dL_law_204 : decode cL_law 204 = .ok (.invokevirtual 39, 3) := by decide +kernel
theorem dL_law_207 : decode cL_law 207 = .ok (.aload_n 2, 1) := by decide +kernel
theorem dL_law_208 : decode cL_law 208 = .ok (.aload_n 0, 1) := by decide +kernel
theorem dL_law_209 : decode cL_law 209 = .ok (.iload 4, 2) := by decide +kernel
theorem dL_law_211 : decode cL_law 211 = .ok (.iconst 1, 1) := by decide +kernel
theorem dL_law_212 : decode cL_law 212 = .ok (.iadd, 1) := by decide +kernel
theorem dL_law_213 : decode cL_law 213 = .ok (.iaload, 1) := by decide +kernel
theorem dL_law_214 : decode cL_law 214 = .ok (.invokevirtual 43, 3) := by decide +kernel
theorem dL_law_217 : decode cL_law 217 = .ok (.if_icmp .eq 647, 3) := by decide +kernel
theorem dL_law_220 : decode cL_law 220 = .ok (.iconst 0, 1) := by decide +kernel
theorem dL_law_221 : decode cL_law 221 = .ok (.ireturn, 1) := by decide +kernel
theorem dL_law_222 : decode cL_law 222 = .ok (.aload_n 1, 1) := by decide +kernel
theorem dL_law_223 : decode cL_law 223 = .ok (.invokevirtual 44, 3) := by decide +kernel
theorem dL_law_226 : decode cL_law 226 = .ok (.aload_n 2, 1) := by decide +kernel
theorem dL_law_227 : decode cL_law 227 = .ok (.invokevirtual 48, 3) := by decide +kernel
theorem dL_law_230 : decode cL_law 230 = .ok (.if_icmp .eq 634, 3) := by decide +kernel
theorem dL_law_233 : decode cL_law 233 = .ok (.iconst 0, 1) := by decide +kernel
theorem dL_law_234 : decode cL_law 234 = .ok (.ireturn, 1) := by decide +kernel
theorem dL_law_235 : decode cL_law 235 = .ok (.aload_n 1, 1) := by decide +kernel
theorem dL_law_236 : decode cL_law 236 = .ok (.aload_n 0, 1) := by decide +kernel
theorem dL_law_237 : decode cL_law 237 = .ok (.iload 4, 2) := by decide +kernel
theorem dL_law_239 : decode cL_law 239 = .ok (.iconst 1, 1) := by decide +kernel
theorem dL_law_240 : decode cL_law 240 = .ok (.iadd, 1) := by decide +kernel
theorem dL_law_241 : decode cL_law 241 = .ok (.iaload, 1) := by decide +kernel
theorem dL_law_242 : decode cL_law 242 = .ok (.aload_n 3, 1) := by decide +kernel
theorem dL_law_243 : decode cL_law 243 = .ok (.invokestatic 49, 3) := by decide +kernel
theorem dL_law_246 : decode cL_law 246 = .ok (.istore 5, 2) := by decide +kernel
theorem dL_law_248 : decode cL_law 248 = .ok (.aload_n 2, 1) := by decide +kernel
theorem dL_law_249 : decode cL_law 249 = .ok (.aload_n 0, 1) := by decide +kernel
theorem dL_law_250 : decode cL_law 250 = .ok (.iload 4, 2) := by decide +kernel
theorem dL_law_252 : decode cL_law 252 = .ok (.iconst 1, 1) := by decide +kernel
theorem dL_law_253 : decode cL_law 253 = .ok (.iadd, 1) := by decide +kernel
theorem dL_law_254 : decode cL_law 254 = .ok (.iaload, 1) := by decide +kernel
theorem dL_law_255 : decode cL_law 255 = .ok (.invokevirtual 54, 3) := by decide +kernel
theorem dL_law_258 : decode cL_law 258 = .ok (.istore 6, 2) := by decide +kernel
theorem dL_law_260 : decode cL_law 260 = .ok (.aload_n 2, 1) := by decide +kernel
theorem dL_law_261 : decode cL_law 261 = .ok (.invokevirtual 55, 3) := by decide +kernel
theorem dL_law_264 : decode cL_law 264 = .ok (.iload 5, 2) := by decide +kernel
theorem dL_law_266 : decode cL_law 266 = .ok (.if_icmp .eq 5, 3) := by decide +kernel
theorem dL_law_269 : decode cL_law 269 = .ok (.iconst 0, 1) := by decide +kernel
theorem dL_law_270 : decode cL_law 270 = .ok (.ireturn, 1) := by decide +kernel
theorem dL_law_271 : decode cL_law 271 = .ok (.iload 5, 2) := by decide +kernel
theorem dL_law_273 : decode cL_law 273 = .ok (.ifCond .ne 15, 3) := by decide +kernel
theorem dL_law_276 : decode cL_law 276 = .ok (.aload_n 3, 1) := by decide +kernel
theorem dL_law_277 : decode cL_law 277 = .ok (.iconst 0, 1) := by decide +kernel
theorem dL_law_278 : decode cL_law 278 = .ok (.laload, 1) := by decide +kernel
theorem dL_law_279 : decode cL_law 279 = .ok (.iload 6, 2) := by decide +kernel
theorem dL_law_281 : decode cL_law 281 = .ok (.i2l, 1) := by decide +kernel
theorem dL_law_282 : decode cL_law 282 = .ok (.lcmp, 1) := by decide +kernel
theorem dL_law_283 : decode cL_law 283 = .ok (.ifCond .eq 5, 3) := by decide +kernel
theorem dL_law_286 : decode cL_law 286 = .ok (.iconst 0, 1) := by decide +kernel
theorem dL_law_287 : decode cL_law 287 = .ok (.ireturn, 1) := by decide +kernel
theorem dL_law_288 : decode cL_law 288 = .ok (.goto 576, 3) := by decide +kernel
theorem dL_law_291 : decode cL_law 291 = .ok (.aload_n 1, 1) := by decide +kernel
theorem dL_law_292 : decode cL_law 292 = .ok (.invokevirtual 58, 3) := by decide +kernel
theorem dL_law_295 : decode cL_law 295 = .ok (.aload_n 2, 1) := by decide +kernel
theorem dL_law_296 : decode cL_law 296 = .ok (.invokevirtual 61, 3) := by decide +kernel
theorem dL_law_299 : decode cL_law 299 = .ok (.if_icmp .eq 565, 3) := by decide +kernel
theorem dL_law_302 : decode cL_law 302 = .ok (.iconst 0, 1) := by decide +kernel
theorem dL_law_303 : decode cL_law 303 = .ok (.ireturn, 1) := by decide +kernel
theorem dL_law_304 : decode cL_law 304 = .ok (.aload_n 1, 1) := by decide +kernel
theorem dL_law_305 : decode cL_law 305 = .ok (.aload_n 0, 1) := by decide +kernel
theorem dL_law_306 : decode cL_law 306 = .ok (.iload 4, 2) := by decide +kernel
theorem dL_law_308 : decode cL_law 308 = .ok (.iconst 1, 1) := by decide +kernel
theorem dL_law_309 : decode cL_law 309 = .ok (.iadd, 1) := by decide +kernel
theorem dL_law_310 : decode cL_law 310 = .ok (.iaload, 1) := by decide +kernel
theorem dL_law_311 : decode cL_law 311 = .ok (.invokevirtual 62, 3) := by decide +kernel
theorem dL_law_314 : decode cL_law 314 = .ok (.aload_n 2, 1) := by decide +kernel
theorem dL_law_315 : decode cL_law 315 = .ok (.aload_n 0, 1) := by decide +kernel
theorem dL_law_316 : decode cL_law 316 = .ok (.iload 4, 2) := by decide +kernel
theorem dL_law_318 : decode cL_law 318 = .ok (.iconst 1, 1) := by decide +kernel
theorem dL_law_319 : decode cL_law 319 = .ok (.iadd, 1) := by decide +kernel
theorem dL_law_320 : decode cL_law 320 = .ok (.iaload, 1) := by decide +kernel
theorem dL_law_321 : decode cL_law 321 = .ok (.invokevirtual 65, 3) := by decide +kernel
theorem dL_law_324 : decode cL_law 324 = .ok (.if_icmp .eq 540, 3) := by decide +kernel
theorem dL_law_327 : decode cL_law 327 = .ok (.iconst 0, 1) := by decide +kernel
theorem dL_law_328 : decode cL_law 328 = .ok (.ireturn, 1) := by decide +kernel
theorem dL_law_329 : decode cL_law 329 = .ok (.aload_n 1, 1) := by decide +kernel
theorem dL_law_330 : decode cL_law 330 = .ok (.aload_n 0, 1) := by decide +kernel
theorem dL_law_331 : decode cL_law 331 = .ok (.iload 4, 2) := by decide +kernel
theorem dL_law_333 : decode cL_law 333 = .ok (.iconst 1, 1) := by decide +kernel
theorem dL_law_334 : decode cL_law 334 = .ok (.iadd, 1) := by decide +kernel
theorem dL_law_335 : decode cL_law 335 = .ok (.iaload, 1) := by decide +kernel
theorem dL_law_336 : decode cL_law 336 = .ok (.aload_n 0, 1) := by decide +kernel
theorem dL_law_337 : decode cL_law 337 = .ok (.iload 4, 2) := by decide +kernel
theorem dL_law_339 : decode cL_law 339 = .ok (.iconst 2, 1) := by decide +kernel
theorem dL_law_340 : decode cL_law 340 = .ok (.iadd, 1) := by decide +kernel
theorem dL_law_341 : decode cL_law 341 = .ok (.iaload, 1) := by decide +kernel
theorem dL_law_342 : decode cL_law 342 = .ok (.aload_n 0, 1) := by decide +kernel
theorem dL_law_343 : decode cL_law 343 = .ok (.iload 4, 2) := by decide +kernel
theorem dL_law_345 : decode cL_law 345 = .ok (.iconst 3, 1) := by decide +kernel
theorem dL_law_346 : decode cL_law 346 = .ok (.iadd, 1) := by decide +kernel
theorem dL_law_347 : decode cL_law 347 = .ok (.iaload, 1) := by decide +kernel
theorem dL_law_348 : decode cL_law 348 = .ok (.aload_n 0, 1) := by decide +kernel
theorem dL_law_349 : decode cL_law 349 = .ok (.iload 4, 2) := by decide +kernel
theorem dL_law_351 : decode cL_law 351 = .ok (.iconst 4, 1) := by decide +kernel
theorem dL_law_352 : decode cL_law 352 = .ok (.iadd, 1) := by decide +kernel
theorem dL_law_353 : decode cL_law 353 = .ok (.iaload, 1) := by decide +kernel
theorem dL_law_354 : decode cL_law 354 = .ok (.aload_n 0, 1) := by decide +kernel
theorem dL_law_355 : decode cL_law 355 = .ok (.iload 4, 2) := by decide +kernel
theorem dL_law_357 : decode cL_law 357 = .ok (.iconst 5, 1) := by decide +kernel
theorem dL_law_358 : decode cL_law 358 = .ok (.iadd, 1) := by decide +kernel
theorem dL_law_359 : decode cL_law 359 = .ok (.iaload, 1) := by decide +kernel
theorem dL_law_360 : decode cL_law 360 = .ok (.ifCond .eq 7, 3) := by decide +kernel
theorem dL_law_363 : decode cL_law 363 = .ok (.iconst 1, 1) := by decide +kernel
theorem dL_law_364 : decode cL_law 364 = .ok (.goto 4, 3) := by decide +kernel
theorem dL_law_367 : decode cL_law 367 = .ok (.iconst 0, 1) := by decide +kernel
theorem dL_law_368 : decode cL_law 368 = .ok (.invokevirtual 66, 3) := by decide +kernel
theorem dL_law_371 : decode cL_law 371 = .ok (.aload_n 2, 1) := by decide +kernel
theorem dL_law_372 : decode cL_law 372 = .ok (.aload_n 0, 1) := by decide +kernel
theorem dL_law_373 : decode cL_law 373 = .ok (.iload 4, 2) := by decide +kernel
theorem dL_law_375 : decode cL_law 375 = .ok (.iconst 1, 1) := by decide +kernel
theorem dL_law_376 : decode cL_law 376 = .ok (.iadd, 1) := by decide +kernel
theorem dL_law_377 : decode cL_law 377 = .ok (.iaload, 1) := by decide +kernel
theorem dL_law_378 : decode cL_law 378 = .ok (.aload_n 0, 1) := by decide +kernel
theorem dL_law_379 : decode cL_law 379 = .ok (.iload 4, 2) := by decide +kernel
theorem dL_law_381 : decode cL_law 381 = .ok (.iconst 2, 1) := by decide +kernel
theorem dL_law_382 : decode cL_law 382 = .ok (.iadd, 1) := by decide +kernel
theorem dL_law_383 : decode cL_law 383 = .ok (.iaload, 1) := by decide +kernel
theorem dL_law_384 : decode cL_law 384 = .ok (.aload_n 0, 1) := by decide +kernel
theorem dL_law_385 : decode cL_law 385 = .ok (.iload 4, 2) := by decide +kernel
theorem dL_law_387 : decode cL_law 387 = .ok (.iconst 3, 1) := by decide +kernel
theorem dL_law_388 : decode cL_law 388 = .ok (.iadd, 1) := by decide +kernel
theorem dL_law_389 : decode cL_law 389 = .ok (.iaload, 1) := by decide +kernel
theorem dL_law_390 : decode cL_law 390 = .ok (.aload_n 0, 1) := by decide +kernel
theorem dL_law_391 : decode cL_law 391 = .ok (.iload 4, 2) := by decide +kernel
theorem dL_law_393 : decode cL_law 393 = .ok (.iconst 4, 1) := by decide +kernel
theorem dL_law_394 : decode cL_law 394 = .ok (.iadd, 1) := by decide +kernel
theorem dL_law_395 : decode cL_law 395 = .ok (.iaload, 1) := by decide +kernel
theorem dL_law_396 : decode cL_law 396 = .ok (.aload_n 0, 1) := by decide +kernel
theorem dL_law_397 : decode cL_law 397 = .ok (.iload 4, 2) := by decide +kernel
theorem dL_law_399 : decode cL_law 399 = .ok (.iconst 5, 1) := by decide +kernel
theorem dL_law_400 : decode cL_law 400 = .ok (.iadd, 1) := by decide +kernel
theorem dL_law_401 : decode cL_law 401 = .ok (.iaload, 1) := by decide +kernel
theorem dL_law_402 : decode cL_law 402 = .ok (.ifCond .eq 7, 3) := by decide +kernel
theorem dL_law_405 : decode cL_law 405 = .ok (.iconst 1, 1) := by decide +kernel
theorem dL_law_406 : decode cL_law 406 = .ok (.goto 4, 3) := by decide +kernel
theorem dL_law_409 : decode cL_law 409 = .ok (.iconst 0, 1) := by decide +kernel
theorem dL_law_410 : decode cL_law 410 = .ok (.invokevirtual 70, 3) := by decide +kernel
theorem dL_law_413 : decode cL_law 413 = .ok (.if_icmp .eq 451, 3) := by decide +kernel
theorem dL_law_416 : decode cL_law 416 = .ok (.iconst 0, 1) := by decide +kernel
theorem dL_law_417 : decode cL_law 417 = .ok (.ireturn, 1) := by decide +kernel
theorem dL_law_418 : decode cL_law 418 = .ok (.aload_n 1, 1) := by decide +kernel
theorem dL_law_419 : decode cL_law 419 = .ok (.aload_n 0, 1) := by decide +kernel
theorem dL_law_420 : decode cL_law 420 = .ok (.iload 4, 2) := by decide +kernel
theorem dL_law_422 : decode cL_law 422 = .ok (.iconst 1, 1) := by decide +kernel
theorem dL_law_423 : decode cL_law 423 = .ok (.iadd, 1) := by decide +kernel
theorem dL_law_424 : decode cL_law 424 = .ok (.iaload, 1) := by decide +kernel
theorem dL_law_425 : decode cL_law 425 = .ok (.aload_n 0, 1) := by decide +kernel
theorem dL_law_426 : decode cL_law 426 = .ok (.iload 4, 2) := by decide +kernel
theorem dL_law_428 : decode cL_law 428 = .ok (.iconst 2, 1) := by decide +kernel
theorem dL_law_429 : decode cL_law 429 = .ok (.iadd, 1) := by decide +kernel
theorem dL_law_430 : decode cL_law 430 = .ok (.iaload, 1) := by decide +kernel
theorem dL_law_431 : decode cL_law 431 = .ok (.invokevirtual 71, 3) := by decide +kernel
theorem dL_law_434 : decode cL_law 434 = .ok (.aload_n 2, 1) := by decide +kernel
theorem dL_law_435 : decode cL_law 435 = .ok (.aload_n 0, 1) := by decide +kernel
theorem dL_law_436 : decode cL_law 436 = .ok (.iload 4, 2) := by decide +kernel
theorem dL_law_438 : decode cL_law 438 = .ok (.iconst 1, 1) := by decide +kernel
theorem dL_law_439 : decode cL_law 439 = .ok (.iadd, 1) := by decide +kernel
theorem dL_law_440 : decode cL_law 440 = .ok (.iaload, 1) := by decide +kernel
theorem dL_law_441 : decode cL_law 441 = .ok (.aload_n 0, 1) := by decide +kernel
theorem dL_law_442 : decode cL_law 442 = .ok (.iload 4, 2) := by decide +kernel
theorem dL_law_444 : decode cL_law 444 = .ok (.iconst 2, 1) := by decide +kernel
theorem dL_law_445 : decode cL_law 445 = .ok (.iadd, 1) := by decide +kernel
theorem dL_law_446 : decode cL_law 446 = .ok (.iaload, 1) := by decide +kernel
theorem dL_law_447 : decode cL_law 447 = .ok (.invokevirtual 74, 3) := by decide +kernel
theorem dL_law_450 : decode cL_law 450 = .ok (.if_icmp .eq 414, 3) := by decide +kernel
theorem dL_law_453 : decode cL_law 453 = .ok (.iconst 0, 1) := by decide +kernel
theorem dL_law_454 : decode cL_law 454 = .ok (.ireturn, 1) := by decide +kernel
theorem dL_law_455 : decode cL_law 455 = .ok (.aload_n 1, 1) := by decide +kernel
theorem dL_law_456 : decode cL_law 456 = .ok (.aload_n 0, 1) := by decide +kernel
theorem dL_law_457 : decode cL_law 457 = .ok (.iload 4, 2) := by decide +kernel
theorem dL_law_459 : decode cL_law 459 = .ok (.iconst 1, 1) := by decide +kernel
theorem dL_law_460 : decode cL_law 460 = .ok (.iadd, 1) := by decide +kernel
theorem dL_law_461 : decode cL_law 461 = .ok (.iaload, 1) := by decide +kernel
theorem dL_law_462 : decode cL_law 462 = .ok (.invokevirtual 75, 3) := by decide +kernel
theorem dL_law_465 : decode cL_law 465 = .ok (.aload_n 2, 1) := by decide +kernel
theorem dL_law_466 : decode cL_law 466 = .ok (.aload_n 0, 1) := by decide +kernel
theorem dL_law_467 : decode cL_law 467 = .ok (.iload 4, 2) := by decide +kernel
theorem dL_law_469 : decode cL_law 469 = .ok (.iconst 1, 1) := by decide +kernel
theorem dL_law_470 : decode cL_law 470 = .ok (.iadd, 1) := by decide +kernel
theorem dL_law_471 : decode cL_law 471 = .ok (.iaload, 1) := by decide +kernel
theorem dL_law_472 : decode cL_law 472 = .ok (.invokevirtual 78, 3) := by decide +kernel
theorem dL_law_475 : decode cL_law 475 = .ok (.if_icmp .eq 389, 3) := by decide +kernel
theorem dL_law_478 : decode cL_law 478 = .ok (.iconst 0, 1) := by decide +kernel
theorem dL_law_479 : decode cL_law 479 = .ok (.ireturn, 1) := by decide +kernel
theorem dL_law_480 : decode cL_law 480 = .ok (.aload_n 1, 1) := by decide +kernel
theorem dL_law_481 : decode cL_law 481 = .ok (.aload_n 0, 1) := by decide +kernel
theorem dL_law_482 : decode cL_law 482 = .ok (.iload 4, 2) := by decide +kernel
theorem dL_law_484 : decode cL_law 484 = .ok (.iconst 1, 1) := by decide +kernel
theorem dL_law_485 : decode cL_law 485 = .ok (.iadd, 1) := by decide +kernel
theorem dL_law_486 : decode cL_law 486 = .ok (.iaload, 1) := by decide +kernel
theorem dL_law_487 : decode cL_law 487 = .ok (.aload_n 3, 1) := by decide +kernel
theorem dL_law_488 : decode cL_law 488 = .ok (.invokestatic 79, 3) := by decide +kernel
theorem dL_law_491 : decode cL_law 491 = .ok (.istore 5, 2) := by decide +kernel
theorem dL_law_493 : decode cL_law 493 = .ok (.aload_n 2, 1) := by decide +kernel
theorem dL_law_494 : decode cL_law 494 = .ok (.aload_n 0, 1) := by decide +kernel
theorem dL_law_495 : decode cL_law 495 = .ok (.iload 4, 2) := by decide +kernel
theorem dL_law_497 : decode cL_law 497 = .ok (.iconst 1, 1) := by decide +kernel
theorem dL_law_498 : decode cL_law 498 = .ok (.iadd, 1) := by decide +kernel
theorem dL_law_499 : decode cL_law 499 = .ok (.iaload, 1) := by decide +kernel
theorem dL_law_500 : decode cL_law 500 = .ok (.invokevirtual 81, 3) := by decide +kernel
theorem dL_law_503 : decode cL_law 503 = .ok (.istore 6, 2) := by decide +kernel
theorem dL_law_505 : decode cL_law 505 = .ok (.aload_n 2, 1) := by decide +kernel
theorem dL_law_506 : decode cL_law 506 = .ok (.invokevirtual 55, 3) := by decide +kernel
theorem dL_law_509 : decode cL_law 509 = .ok (.iload 5, 2) := by decide +kernel
theorem dL_law_511 : decode cL_law 511 = .ok (.if_icmp .eq 5, 3) := by decide +kernel
theorem dL_law_514 : decode cL_law 514 = .ok (.iconst 0, 1) := by decide +kernel
theorem dL_law_515 : decode cL_law 515 = .ok (.ireturn, 1) := by decide +kernel
theorem dL_law_516 : decode cL_law 516 = .ok (.iload 5, 2) := by decide +kernel
theorem dL_law_518 : decode cL_law 518 = .ok (.ifCond .ne 15, 3) := by decide +kernel
theorem dL_law_521 : decode cL_law 521 = .ok (.aload_n 3, 1) := by decide +kernel
theorem dL_law_522 : decode cL_law 522 = .ok (.iconst 0, 1) := by decide +kernel
theorem dL_law_523 : decode cL_law 523 = .ok (.laload, 1) := by decide +kernel
theorem dL_law_524 : decode cL_law 524 = .ok (.iload 6, 2) := by decide +kernel
theorem dL_law_526 : decode cL_law 526 = .ok (.i2l, 1) := by decide +kernel
theorem dL_law_527 : decode cL_law 527 = .ok (.lcmp, 1) := by decide +kernel
theorem dL_law_528 : decode cL_law 528 = .ok (.ifCond .eq 5, 3) := by decide +kernel
theorem dL_law_531 : decode cL_law 531 = .ok (.iconst 0, 1) := by decide +kernel
theorem dL_law_532 : decode cL_law 532 = .ok (.ireturn, 1) := by decide +kernel
theorem dL_law_533 : decode cL_law 533 = .ok (.goto 331, 3) := by decide +kernel
theorem dL_law_536 : decode cL_law 536 = .ok (.aload_n 1, 1) := by decide +kernel
theorem dL_law_537 : decode cL_law 537 = .ok (.aload_n 0, 1) := by decide +kernel
theorem dL_law_538 : decode cL_law 538 = .ok (.iload 4, 2) := by decide +kernel
theorem dL_law_540 : decode cL_law 540 = .ok (.iconst 1, 1) := by decide +kernel
theorem dL_law_541 : decode cL_law 541 = .ok (.iadd, 1) := by decide +kernel
theorem dL_law_542 : decode cL_law 542 = .ok (.iaload, 1) := by decide +kernel
theorem dL_law_543 : decode cL_law 543 = .ok (.aload_n 0, 1) := by decide +kernel
theorem dL_law_544 : decode cL_law 544 = .ok (.iload 4, 2) := by decide +kernel
theorem dL_law_546 : decode cL_law 546 = .ok (.iconst 2, 1) := by decide +kernel
theorem dL_law_547 : decode cL_law 547 = .ok (.iadd, 1) := by decide +kernel
theorem dL_law_548 : decode cL_law 548 = .ok (.iaload, 1) := by decide +kernel
theorem dL_law_549 : decode cL_law 549 = .ok (.invokevirtual 82, 3) := by decide +kernel
theorem dL_law_552 : decode cL_law 552 = .ok (.aload_n 2, 1) := by decide +kernel
theorem dL_law_553 : decode cL_law 553 = .ok (.aload_n 0, 1) := by decide +kernel
theorem dL_law_554 : decode cL_law 554 = .ok (.iload 4, 2) := by decide +kernel
theorem dL_law_556 : decode cL_law 556 = .ok (.iconst 1, 1) := by decide +kernel
theorem dL_law_557 : decode cL_law 557 = .ok (.iadd, 1) := by decide +kernel
theorem dL_law_558 : decode cL_law 558 = .ok (.iaload, 1) := by decide +kernel
theorem dL_law_559 : decode cL_law 559 = .ok (.aload_n 0, 1) := by decide +kernel
theorem dL_law_560 : decode cL_law 560 = .ok (.iload 4, 2) := by decide +kernel
theorem dL_law_562 : decode cL_law 562 = .ok (.iconst 2, 1) := by decide +kernel
theorem dL_law_563 : decode cL_law 563 = .ok (.iadd, 1) := by decide +kernel
theorem dL_law_564 : decode cL_law 564 = .ok (.iaload, 1) := by decide +kernel
theorem dL_law_565 : decode cL_law 565 = .ok (.invokevirtual 85, 3) := by decide +kernel
theorem dL_law_568 : decode cL_law 568 = .ok (.if_icmp .eq 296, 3) := by decide +kernel
theorem dL_law_571 : decode cL_law 571 = .ok (.iconst 0, 1) := by decide +kernel
theorem dL_law_572 : decode cL_law 572 = .ok (.ireturn, 1) := by decide +kernel
theorem dL_law_573 : decode cL_law 573 = .ok (.aload_n 1, 1) := by decide +kernel
theorem dL_law_574 : decode cL_law 574 = .ok (.aload_n 0, 1) := by decide +kernel
theorem dL_law_575 : decode cL_law 575 = .ok (.iload 4, 2) := by decide +kernel
theorem dL_law_577 : decode cL_law 577 = .ok (.iconst 1, 1) := by decide +kernel
theorem dL_law_578 : decode cL_law 578 = .ok (.iadd, 1) := by decide +kernel
theorem dL_law_579 : decode cL_law 579 = .ok (.iaload, 1) := by decide +kernel
theorem dL_law_580 : decode cL_law 580 = .ok (.aload_n 0, 1) := by decide +kernel
theorem dL_law_581 : decode cL_law 581 = .ok (.iload 4, 2) := by decide +kernel
theorem dL_law_583 : decode cL_law 583 = .ok (.iconst 2, 1) := by decide +kernel
theorem dL_law_584 : decode cL_law 584 = .ok (.iadd, 1) := by decide +kernel
theorem dL_law_585 : decode cL_law 585 = .ok (.iaload, 1) := by decide +kernel
theorem dL_law_586 : decode cL_law 586 = .ok (.aload_n 3, 1) := by decide +kernel
theorem dL_law_587 : decode cL_law 587 = .ok (.invokestatic 86, 3) := by decide +kernel
theorem dL_law_590 : decode cL_law 590 = .ok (.istore 5, 2) := by decide +kernel
theorem dL_law_592 : decode cL_law 592 = .ok (.aload_n 2, 1) := by decide +kernel
theorem dL_law_593 : decode cL_law 593 = .ok (.aload_n 0, 1) := by decide +kernel
theorem dL_law_594 : decode cL_law 594 = .ok (.iload 4, 2) := by decide +kernel
theorem dL_law_596 : decode cL_law 596 = .ok (.iconst 1, 1) := by decide +kernel
theorem dL_law_597 : decode cL_law 597 = .ok (.iadd, 1) := by decide +kernel
theorem dL_law_598 : decode cL_law 598 = .ok (.iaload, 1) := by decide +kernel
theorem dL_law_599 : decode cL_law 599 = .ok (.aload_n 0, 1) := by decide +kernel
theorem dL_law_600 : decode cL_law 600 = .ok (.iload 4, 2) := by decide +kernel
theorem dL_law_602 : decode cL_law 602 = .ok (.iconst 2, 1) := by decide +kernel
theorem dL_law_603 : decode cL_law 603 = .ok (.iadd, 1) := by decide +kernel
theorem dL_law_604 : decode cL_law 604 = .ok (.iaload, 1) := by decide +kernel
theorem dL_law_605 : decode cL_law 605 = .ok (.invokevirtual 89, 3) := by decide +kernel
theorem dL_law_608 : decode cL_law 608 = .ok (.istore 6, 2) := by decide +kernel
theorem dL_law_610 : decode cL_law 610 = .ok (.aload_n 2, 1) := by decide +kernel
theorem dL_law_611 : decode cL_law 611 = .ok (.invokevirtual 55, 3) := by decide +kernel
theorem dL_law_614 : decode cL_law 614 = .ok (.iload 5, 2) := by decide +kernel
theorem dL_law_616 : decode cL_law 616 = .ok (.if_icmp .eq 5, 3) := by decide +kernel
theorem dL_law_619 : decode cL_law 619 = .ok (.iconst 0, 1) := by decide +kernel
theorem dL_law_620 : decode cL_law 620 = .ok (.ireturn, 1) := by decide +kernel
theorem dL_law_621 : decode cL_law 621 = .ok (.iload 5, 2) := by decide +kernel
theorem dL_law_623 : decode cL_law 623 = .ok (.ifCond .ne 15, 3) := by decide +kernel
theorem dL_law_626 : decode cL_law 626 = .ok (.aload_n 3, 1) := by decide +kernel
theorem dL_law_627 : decode cL_law 627 = .ok (.iconst 0, 1) := by decide +kernel
theorem dL_law_628 : decode cL_law 628 = .ok (.laload, 1) := by decide +kernel
theorem dL_law_629 : decode cL_law 629 = .ok (.iload 6, 2) := by decide +kernel
theorem dL_law_631 : decode cL_law 631 = .ok (.i2l, 1) := by decide +kernel
theorem dL_law_632 : decode cL_law 632 = .ok (.lcmp, 1) := by decide +kernel
theorem dL_law_633 : decode cL_law 633 = .ok (.ifCond .eq 5, 3) := by decide +kernel
theorem dL_law_636 : decode cL_law 636 = .ok (.iconst 0, 1) := by decide +kernel
theorem dL_law_637 : decode cL_law 637 = .ok (.ireturn, 1) := by decide +kernel
theorem dL_law_638 : decode cL_law 638 = .ok (.goto 226, 3) := by decide +kernel
theorem dL_law_641 : decode cL_law 641 = .ok (.aload_n 1, 1) := by decide +kernel
theorem dL_law_642 : decode cL_law 642 = .ok (.aload_n 0, 1) := by decide +kernel
theorem dL_law_643 : decode cL_law 643 = .ok (.iload 4, 2) := by decide +kernel
theorem dL_law_645 : decode cL_law 645 = .ok (.iconst 1, 1) := by decide +kernel
theorem dL_law_646 : decode cL_law 646 = .ok (.iadd, 1) := by decide +kernel
theorem dL_law_647 : decode cL_law 647 = .ok (.iaload, 1) := by decide +kernel
theorem dL_law_648 : decode cL_law 648 = .ok (.aload_n 0, 1) := by decide +kernel
theorem dL_law_649 : decode cL_law 649 = .ok (.iload 4, 2) := by decide +kernel
theorem dL_law_651 : decode cL_law 651 = .ok (.iconst 2, 1) := by decide +kernel
theorem dL_law_652 : decode cL_law 652 = .ok (.iadd, 1) := by decide +kernel
theorem dL_law_653 : decode cL_law 653 = .ok (.iaload, 1) := by decide +kernel
theorem dL_law_654 : decode cL_law 654 = .ok (.aload_n 3, 1) := by decide +kernel
theorem dL_law_655 : decode cL_law 655 = .ok (.invokestatic 90, 3) := by decide +kernel
theorem dL_law_658 : decode cL_law 658 = .ok (.istore 5, 2) := by decide +kernel
theorem dL_law_660 : decode cL_law 660 = .ok (.aload_n 2, 1) := by decide +kernel
theorem dL_law_661 : decode cL_law 661 = .ok (.aload_n 0, 1) := by decide +kernel
theorem dL_law_662 : decode cL_law 662 = .ok (.iload 4, 2) := by decide +kernel
theorem dL_law_664 : decode cL_law 664 = .ok (.iconst 1, 1) := by decide +kernel
theorem dL_law_665 : decode cL_law 665 = .ok (.iadd, 1) := by decide +kernel
theorem dL_law_666 : decode cL_law 666 = .ok (.iaload, 1) := by decide +kernel
theorem dL_law_667 : decode cL_law 667 = .ok (.aload_n 0, 1) := by decide +kernel
theorem dL_law_668 : decode cL_law 668 = .ok (.iload 4, 2) := by decide +kernel
theorem dL_law_670 : decode cL_law 670 = .ok (.iconst 2, 1) := by decide +kernel
theorem dL_law_671 : decode cL_law 671 = .ok (.iadd, 1) := by decide +kernel
theorem dL_law_672 : decode cL_law 672 = .ok (.iaload, 1) := by decide +kernel
theorem dL_law_673 : decode cL_law 673 = .ok (.invokevirtual 92, 3) := by decide +kernel
theorem dL_law_676 : decode cL_law 676 = .ok (.istore 6, 2) := by decide +kernel
theorem dL_law_678 : decode cL_law 678 = .ok (.aload_n 2, 1) := by decide +kernel
theorem dL_law_679 : decode cL_law 679 = .ok (.invokevirtual 55, 3) := by decide +kernel
theorem dL_law_682 : decode cL_law 682 = .ok (.iload 5, 2) := by decide +kernel
theorem dL_law_684 : decode cL_law 684 = .ok (.if_icmp .eq 5, 3) := by decide +kernel
theorem dL_law_687 : decode cL_law 687 = .ok (.iconst 0, 1) := by decide +kernel
theorem dL_law_688 : decode cL_law 688 = .ok (.ireturn, 1) := by decide +kernel
theorem dL_law_689 : decode cL_law 689 = .ok (.iload 5, 2) := by decide +kernel
theorem dL_law_691 : decode cL_law 691 = .ok (.ifCond .ne 15, 3) := by decide +kernel
theorem dL_law_694 : decode cL_law 694 = .ok (.aload_n 3, 1) := by decide +kernel
theorem dL_law_695 : decode cL_law 695 = .ok (.iconst 0, 1) := by decide +kernel
theorem dL_law_696 : decode cL_law 696 = .ok (.laload, 1) := by decide +kernel
theorem dL_law_697 : decode cL_law 697 = .ok (.iload 6, 2) := by decide +kernel
theorem dL_law_699 : decode cL_law 699 = .ok (.i2l, 1) := by decide +kernel
theorem dL_law_700 : decode cL_law 700 = .ok (.lcmp, 1) := by decide +kernel
theorem dL_law_701 : decode cL_law 701 = .ok (.ifCond .eq 5, 3) := by decide +kernel
theorem dL_law_704 : decode cL_law 704 = .ok (.iconst 0, 1) := by decide +kernel
theorem dL_law_705 : decode cL_law 705 = .ok (.ireturn, 1) := by decide +kernel
theorem dL_law_706 : decode cL_law 706 = .ok (.goto 158, 3) := by decide +kernel
theorem dL_law_709 : decode cL_law 709 = .ok (.aload_n 1, 1) := by decide +kernel
theorem dL_law_710 : decode cL_law 710 = .ok (.aload_n 0, 1) := by decide +kernel
theorem dL_law_711 : decode cL_law 711 = .ok (.iload 4, 2) := by decide +kernel
theorem dL_law_713 : decode cL_law 713 = .ok (.iconst 1, 1) := by decide +kernel
theorem dL_law_714 : decode cL_law 714 = .ok (.iadd, 1) := by decide +kernel
theorem dL_law_715 : decode cL_law 715 = .ok (.iaload, 1) := by decide +kernel
theorem dL_law_716 : decode cL_law 716 = .ok (.invokevirtual 93, 3) := by decide +kernel
theorem dL_law_719 : decode cL_law 719 = .ok (.aload_n 2, 1) := by decide +kernel
theorem dL_law_720 : decode cL_law 720 = .ok (.aload_n 0, 1) := by decide +kernel
theorem dL_law_721 : decode cL_law 721 = .ok (.iload 4, 2) := by decide +kernel
theorem dL_law_723 : decode cL_law 723 = .ok (.iconst 1, 1) := by decide +kernel
theorem dL_law_724 : decode cL_law 724 = .ok (.iadd, 1) := by decide +kernel
theorem dL_law_725 : decode cL_law 725 = .ok (.iaload, 1) := by decide +kernel
theorem dL_law_726 : decode cL_law 726 = .ok (.invokevirtual 96, 3) := by decide +kernel
theorem dL_law_729 : decode cL_law 729 = .ok (.if_icmp .eq 135, 3) := by decide +kernel
theorem dL_law_732 : decode cL_law 732 = .ok (.iconst 0, 1) := by decide +kernel
theorem dL_law_733 : decode cL_law 733 = .ok (.ireturn, 1) := by decide +kernel
theorem dL_law_734 : decode cL_law 734 = .ok (.aload_n 1, 1) := by decide +kernel
theorem dL_law_735 : decode cL_law 735 = .ok (.aload_n 0, 1) := by decide +kernel
theorem dL_law_736 : decode cL_law 736 = .ok (.iload 4, 2) := by decide +kernel
theorem dL_law_738 : decode cL_law 738 = .ok (.iconst 1, 1) := by decide +kernel
theorem dL_law_739 : decode cL_law 739 = .ok (.iadd, 1) := by decide +kernel
theorem dL_law_740 : decode cL_law 740 = .ok (.iaload, 1) := by decide +kernel
theorem dL_law_741 : decode cL_law 741 = .ok (.aload_n 0, 1) := by decide +kernel
theorem dL_law_742 : decode cL_law 742 = .ok (.iload 4, 2) := by decide +kernel
theorem dL_law_744 : decode cL_law 744 = .ok (.iconst 2, 1) := by decide +kernel
theorem dL_law_745 : decode cL_law 745 = .ok (.iadd, 1) := by decide +kernel
theorem dL_law_746 : decode cL_law 746 = .ok (.iaload, 1) := by decide +kernel
theorem dL_law_747 : decode cL_law 747 = .ok (.aload_n 0, 1) := by decide +kernel
theorem dL_law_748 : decode cL_law 748 = .ok (.iload 4, 2) := by decide +kernel
theorem dL_law_750 : decode cL_law 750 = .ok (.iconst 3, 1) := by decide +kernel
theorem dL_law_751 : decode cL_law 751 = .ok (.iadd, 1) := by decide +kernel
theorem dL_law_752 : decode cL_law 752 = .ok (.iaload, 1) := by decide +kernel
theorem dL_law_753 : decode cL_law 753 = .ok (.invokevirtual 97, 3) := by decide +kernel
theorem dL_law_756 : decode cL_law 756 = .ok (.aload_n 2, 1) := by decide +kernel
theorem dL_law_757 : decode cL_law 757 = .ok (.aload_n 0, 1) := by decide +kernel
theorem dL_law_758 : decode cL_law 758 = .ok (.iload 4, 2) := by decide +kernel
theorem dL_law_760 : decode cL_law 760 = .ok (.iconst 1, 1) := by decide +kernel
theorem dL_law_761 : decode cL_law 761 = .ok (.iadd, 1) := by decide +kernel
theorem dL_law_762 : decode cL_law 762 = .ok (.iaload, 1) := by decide +kernel
theorem dL_law_763 : decode cL_law 763 = .ok (.aload_n 0, 1) := by decide +kernel
theorem dL_law_764 : decode cL_law 764 = .ok (.iload 4, 2) := by decide +kernel
theorem dL_law_766 : decode cL_law 766 = .ok (.iconst 2, 1) := by decide +kernel
theorem dL_law_767 : decode cL_law 767 = .ok (.iadd, 1) := by decide +kernel
theorem dL_law_768 : decode cL_law 768 = .ok (.iaload, 1) := by decide +kernel
theorem dL_law_769 : decode cL_law 769 = .ok (.aload_n 0, 1) := by decide +kernel
theorem dL_law_770 : decode cL_law 770 = .ok (.iload 4, 2) := by decide +kernel
theorem dL_law_772 : decode cL_law 772 = .ok (.iconst 3, 1) := by decide +kernel
theorem dL_law_773 : decode cL_law 773 = .ok (.iadd, 1) := by decide +kernel
theorem dL_law_774 : decode cL_law 774 = .ok (.iaload, 1) := by decide +kernel
theorem dL_law_775 : decode cL_law 775 = .ok (.invokevirtual 101, 3) := by decide +kernel
theorem dL_law_778 : decode cL_law 778 = .ok (.if_icmp .eq 86, 3) := by decide +kernel
theorem dL_law_781 : decode cL_law 781 = .ok (.iconst 0, 1) := by decide +kernel
theorem dL_law_782 : decode cL_law 782 = .ok (.ireturn, 1) := by decide +kernel
theorem dL_law_783 : decode cL_law 783 = .ok (.aload_n 1, 1) := by decide +kernel
theorem dL_law_784 : decode cL_law 784 = .ok (.aload_n 0, 1) := by decide +kernel
theorem dL_law_785 : decode cL_law 785 = .ok (.iload 4, 2) := by decide +kernel
theorem dL_law_787 : decode cL_law 787 = .ok (.iconst 1, 1) := by decide +kernel
theorem dL_law_788 : decode cL_law 788 = .ok (.iadd, 1) := by decide +kernel
theorem dL_law_789 : decode cL_law 789 = .ok (.iaload, 1) := by decide +kernel
theorem dL_law_790 : decode cL_law 790 = .ok (.aload_n 3, 1) := by decide +kernel
theorem dL_law_791 : decode cL_law 791 = .ok (.invokestatic 102, 3) := by decide +kernel
theorem dL_law_794 : decode cL_law 794 = .ok (.istore 5, 2) := by decide +kernel
theorem dL_law_796 : decode cL_law 796 = .ok (.aload_n 2, 1) := by decide +kernel
theorem dL_law_797 : decode cL_law 797 = .ok (.aload_n 0, 1) := by decide +kernel
theorem dL_law_798 : decode cL_law 798 = .ok (.iload 4, 2) := by decide +kernel
theorem dL_law_800 : decode cL_law 800 = .ok (.iconst 1, 1) := by decide +kernel
theorem dL_law_801 : decode cL_law 801 = .ok (.iadd, 1) := by decide +kernel
theorem dL_law_802 : decode cL_law 802 = .ok (.iaload, 1) := by decide +kernel
theorem dL_law_803 : decode cL_law 803 = .ok (.invokevirtual 104, 3) := by decide +kernel
theorem dL_law_806 : decode cL_law 806 = .ok (.istore 6, 2) := by decide +kernel
theorem dL_law_808 : decode cL_law 808 = .ok (.aload_n 2, 1) := by decide +kernel
theorem dL_law_809 : decode cL_law 809 = .ok (.invokevirtual 55, 3) := by decide +kernel
theorem dL_law_812 : decode cL_law 812 = .ok (.iload 5, 2) := by decide +kernel
theorem dL_law_814 : decode cL_law 814 = .ok (.if_icmp .eq 5, 3) := by decide +kernel
theorem dL_law_817 : decode cL_law 817 = .ok (.iconst 0, 1) := by decide +kernel
theorem dL_law_818 : decode cL_law 818 = .ok (.ireturn, 1) := by decide +kernel
theorem dL_law_819 : decode cL_law 819 = .ok (.iload 5, 2) := by decide +kernel
theorem dL_law_821 : decode cL_law 821 = .ok (.ifCond .ne 15, 3) := by decide +kernel
theorem dL_law_824 : decode cL_law 824 = .ok (.aload_n 3, 1) := by decide +kernel
theorem dL_law_825 : decode cL_law 825 = .ok (.iconst 0, 1) := by decide +kernel
theorem dL_law_826 : decode cL_law 826 = .ok (.laload, 1) := by decide +kernel
theorem dL_law_827 : decode cL_law 827 = .ok (.iload 6, 2) := by decide +kernel
theorem dL_law_829 : decode cL_law 829 = .ok (.i2l, 1) := by decide +kernel
theorem dL_law_830 : decode cL_law 830 = .ok (.lcmp, 1) := by decide +kernel
theorem dL_law_831 : decode cL_law 831 = .ok (.ifCond .eq 5, 3) := by decide +kernel
theorem dL_law_834 : decode cL_law 834 = .ok (.iconst 0, 1) := by decide +kernel
theorem dL_law_835 : decode cL_law 835 = .ok (.ireturn, 1) := by decide +kernel
theorem dL_law_836 : decode cL_law 836 = .ok (.goto 28, 3) := by decide +kernel
theorem dL_law_839 : decode cL_law 839 = .ok (.aload_n 1, 1) := by decide +kernel
theorem dL_law_840 : decode cL_law 840 = .ok (.aload_n 0, 1) := by decide +kernel
theorem dL_law_841 : decode cL_law 841 = .ok (.iload 4, 2) := by decide +kernel
theorem dL_law_843 : decode cL_law 843 = .ok (.iconst 1, 1) := by decide +kernel
theorem dL_law_844 : decode cL_law 844 = .ok (.iadd, 1) := by decide +kernel
theorem dL_law_845 : decode cL_law 845 = .ok (.iaload, 1) := by decide +kernel
theorem dL_law_846 : decode cL_law 846 = .ok (.invokevirtual 105, 3) := by decide +kernel
theorem dL_law_849 : decode cL_law 849 = .ok (.aload_n 2, 1) := by decide +kernel
theorem dL_law_850 : decode cL_law 850 = .ok (.aload_n 0, 1) := by decide +kernel
theorem dL_law_851 : decode cL_law 851 = .ok (.iload 4, 2) := by decide +kernel
theorem dL_law_853 : decode cL_law 853 = .ok (.iconst 1, 1) := by decide +kernel
theorem dL_law_854 : decode cL_law 854 = .ok (.iadd, 1) := by decide +kernel
theorem dL_law_855 : decode cL_law 855 = .ok (.iaload, 1) := by decide +kernel
theorem dL_law_856 : decode cL_law 856 = .ok (.invokevirtual 108, 3) := by decide +kernel
theorem dL_law_859 : decode cL_law 859 = .ok (.if_icmp .eq 5, 3) := by decide +kernel
theorem dL_law_862 : decode cL_law 862 = .ok (.iconst 0, 1) := by decide +kernel
theorem dL_law_863 : decode cL_law 863 = .ok (.ireturn, 1) := by decide +kernel
theorem dL_law_864 : decode cL_law 864 = .ok (.iinc 4 6, 3) := by decide +kernel
theorem dL_law_867 : decode cL_law 867 = .ok (.goto (-844), 3) := by decide +kernel
theorem dL_law_870 : decode cL_law 870 = .ok (.iconst 1, 1) := by decide +kernel
theorem dL_law_871 : decode cL_law 871 = .ok (.ireturn, 1) := by decide +kernel
end
section
/-! the flat state of a world: int fields, int arrays, one long -/
abbrev St : Type := (Nat → Int32) × (Nat → Nat → Int32) × Int64
def gi (σ : St) (k : Nat) : Int32 := σ.1 k
def ga (σ : St) (a : Nat) : Nat → Int32 := σ.2.1 a
def gl (σ : St) : Int64 := σ.2.2
def si (σ : St) (k : Nat) (v : Int32) : St := (upd σ.1 k v, σ.2)
def sg (σ : St) (a : Nat) (f : Nat → Int32) : St := (σ.1, (fun b => if b = a then f else σ.2.1 b), σ.2.2)
def sa (σ : St) (a i : Nat) (v : Int32) : St := sg σ a (upd (ga σ a) i v)
def sl (σ : St) (v : Int64) : St := (σ.1, σ.2.1, v)
/-- the words that every method here is given -/
def GW : List Cond := lw_tbl.filter goodWord
theorem memT {i : Nat} {w : Cond} (h : tables_1[i]? = some w) (hg : goodWord w = true) : w ∈ GW := List.mem_filter.mpr ⟨List.mem_append_right _ (List.mem_of_getElem? h), hg⟩
theorem memS {i : Nat} {w : Cond} (h : (k2_sels lw_privs)[i]? = some w) (hg : goodWord w = true) : w ∈ GW := List.mem_filter.mpr ⟨List.mem_append_left _ (List.mem_of_getElem? h), hg⟩
theorem goodGW {big : List Cond} (hb : ∀ w ∈ GW, w ∈ big) : GoodIn big GW := fun w hw => ⟨hb w hw, good_of_word (List.mem_filter.mp hw).2⟩
theorem goodG1 {w : Cond} (h : w ∈ GW) : w ∈ GW ∧ ((w.onTables && w.keeps) = true ∨ ∃ ty, w = .arrayClass ty) := ⟨h, good_of_word (List.mem_filter.mp h).2⟩
def Rm (d : Nat) : Room := { frames := d, cells := 0, slots := 0, locals := 100 * d }
/-- addresses, array classes, the state at the law's start -/
abbrev Gm : Type := (Nat → Nat) × ClassId × ClassId × ClassId × ClassId × State
def tysG (g : Gm) : List (ClassId × FieldType) := [(g.2.1, .int), (g.2.2.1, .byte), (g.2.2.2.1, .boolean), (g.2.2.2.2.1, .object "SongHour$Clock")]
def s0G (g : Gm) : State := g.2.2.2.2.2
def BaseS (s0 : State) : Prop := ∃ args0 : Array Value, (Jvm.Cond.and given_1 narrow_1).before args0 s0 = true ∧ ∀ w ∈ lw_tbl, w.before args0 s0 = true
def SF (g : Gm) (A : Nat → Prop) (U : State) : Prop := BaseS (s0G g) ∧ (s0G g).vm.Alike U.vm ∧ ∀ a : Nat, a < (s0G g).heap.size → ¬ A a ∧ U.heap[a]? = (s0G g).heap[a]?
abbrev Kx : Type := Program × Launch × Env × Room × State × MethodId × Array Value × List Frame × Method × Code × va_G × (Nat → Prop)
def J (K : Kx) (ws : St → va_W) (nL : Nat) (Q : State → Prop) (pc : Nat) (lv : List (Nat × Value)) (st : List Value) (σ : St) : Prop := match K with
  | (p, l, e, R, s, m, args, below, meth, c, D, A) => ∀ (H : Heap) (locs : List Loc) (ls : Array Slot), lv_has ls nL lv → va_P D vwCl (ws σ) H → va_D A (ws σ) → va_S A s.heap H locs → W p l e R s m args below meth c H locs 0 0 Q (F0 m pc ls st)
def Ok (K : Kx) (cc : ByteArray) (own : String) (g : Gm) (nL d : Nat) (ret : Option FieldType) : Prop := match K with
  | (p, l, e, R, s, m, args, below, meth, c, D, A) => p.tables.exec = Jvm.exec ∧ c.code = cc ∧ c.maxLocals = nL ∧ s.vm.findClass own = some m.cls ∧ (∀ w ∈ GW, w.before args s = true) ∧ va_K D vwCl (tysG g) s ∧ (∀ q : Nat, s.heap.size ≤ q → A q) ∧ SF g A s ∧ R = Rm d ∧ meth.sig.returnType = ret ∧ meth.locks = false
def Bw (g : Gm) (ws : St → va_W) (D : va_G) (A : Nat → Prop) (u : St) (t : State) : Prop := va_P D vwCl (ws u) t.heap ∧ va_K D vwCl (tysG g) t ∧ va_D A (ws u)
def QI (K : Kx) (g : Gm) (ws : St → va_W) (o : Int32 × St) : State → Prop := match K with
  | (p, l, e, R, s, m, args, below, meth, c, D, A) => MQ below (va_Qi (fun r u => (r, u) = o) (Bw g ws D A) A) args s 0 0 A
def QV (K : Kx) (g : Gm) (ws : St → va_W) (o : Int32 × St) : State → Prop := match K with
  | (p, l, e, R, s, m, args, below, meth, c, D, A) => MQ below (va_Qv (fun u => u = o.2) (Bw g ws D A) A) args s 0 0 A
def QL (K : Kx) (g : Gm) (ws : St → va_W) (o : Int64 × St) : State → Prop := match K with
  | (p, l, e, R, s, m, args, below, meth, c, D, A) => MQ below (va_Ql (fun r u => (r, u) = o) (Bw g ws D A) A) args s 0 0 A
/-- contracts: from the world at σ the method comes back with o -/
def PreW (g : Gm) (ws : St → va_W) (D : va_G) (sz : Nat) (σ : St) (U : State) : Prop := U.heap.size = sz ∧ va_P D vwCl (ws σ) U.heap ∧ va_K D vwCl (tysG g) U ∧ va_D (fun _ => True) (ws σ) ∧ SF g (va_A (ws σ) sz) U
def MI (l : Launch) (y : MethodName) (cc : ByteArray) (nL : Nat) (ret : Option FieldType) (d : Nat) (D : va_G) (g : Gm) (ws : St → va_W) (av : List Value) (σ : St) (o : Int32 × St) : Prop := ∀ sz : Nat, Met l y (Cond.code y cc nL ret :: GW) (Rm d) (va_Pc av (PreW g ws D sz σ)) (va_Qi (fun r u => (r, u) = o) (Bw g ws D (va_A (ws σ) sz)) (va_A (ws σ) sz)) 0 0 (va_A (ws σ) sz)
def MV (l : Launch) (y : MethodName) (cc : ByteArray) (nL : Nat) (ret : Option FieldType) (d : Nat) (D : va_G) (g : Gm) (ws : St → va_W) (av : List Value) (σ : St) (o : Int32 × St) : Prop := ∀ sz : Nat, Met l y (Cond.code y cc nL ret :: GW) (Rm d) (va_Pc av (PreW g ws D sz σ)) (va_Qv (fun u => u = o.2) (Bw g ws D (va_A (ws σ) sz)) (va_A (ws σ) sz)) 0 0 (va_A (ws σ) sz)
def ML (l : Launch) (y : MethodName) (cc : ByteArray) (nL : Nat) (ret : Option FieldType) (d : Nat) (D : va_G) (g : Gm) (ws : St → va_W) (av : List Value) (σ : St) (o : Int64 × St) : Prop := ∀ sz : Nat, Met l y (Cond.code y cc nL ret :: GW) (Rm d) (va_Pc av (PreW g ws D sz σ)) (va_Ql (fun r u => (r, u) = o) (Bw g ws D (va_A (ws σ) sz)) (va_A (ws σ) sz)) 0 0 (va_A (ws σ) sz)

theorem met_I {l : Launch} {y : MethodName} {cc : ByteArray} {nL : Nat} {ret : Option FieldType} {d : Nat} {D : va_G} {g : Gm} {ws : St → va_W} {av : List Value} {σ : St} {o : Int32 × St} {own : String} (hy : plainName y.cls = true) (ho : y.cls = own) (hn : (lg_sl av).length ≤ nL)
    (body : ∀ K : Kx, Ok K cc own g nL d ret → J K ws nL (QI K g ws o) 0 (lv_args 0 av) [] σ) : MI l y cc nL ret d D g ws av σ o := by
  intro sz
  refine Met.ofW (cc := cc) (maxL := nL) (ret := ret) hy rfl ?_
  intro p e s m args below meth c s₁ B hml hv
  obtain ⟨rfl, hsz, hP, hK, hD0, hSF⟩ := hv
  have hts := atoms_spec (ws := Cond.code y cc nL ret :: GW) B.pre
  have hown : s.vm.findClass own = some m.cls := by rw [← ho]; exact findClass_of_methodNamed B.named
  subst hsz
  have hD := hD0.self (sz := s.heap.size)
  rw [lg_entry_eq]
  have hb := body (p, l, e, Rm d, s, m, av.toArray, below, meth, c, D, va_A (ws σ) s.heap.size) ⟨B.exec, B.bytes, hml, hown, fun w hw => hts w (List.mem_cons_of_mem _ hw), hK, fun q h => Or.inr h, hSF, rfl, B.returns, B.notSynchronized⟩
  exact hb s.heap [] _ (lv_entry av hn) hP hD va_S.rf
theorem met_V {l : Launch} {y : MethodName} {cc : ByteArray} {nL : Nat} {ret : Option FieldType} {d : Nat} {D : va_G} {g : Gm} {ws : St → va_W} {av : List Value} {σ : St} {o : Int32 × St} {own : String} (hy : plainName y.cls = true) (ho : y.cls = own) (hn : (lg_sl av).length ≤ nL)
    (body : ∀ K : Kx, Ok K cc own g nL d ret → J K ws nL (QV K g ws o) 0 (lv_args 0 av) [] σ) : MV l y cc nL ret d D g ws av σ o := by
  intro sz
  refine Met.ofW (cc := cc) (maxL := nL) (ret := ret) hy rfl ?_
  intro p e s m args below meth c s₁ B hml hv
  obtain ⟨rfl, hsz, hP, hK, hD0, hSF⟩ := hv
  have hts := atoms_spec (ws := Cond.code y cc nL ret :: GW) B.pre
  have hown : s.vm.findClass own = some m.cls := by rw [← ho]; exact findClass_of_methodNamed B.named
  subst hsz
  have hD := hD0.self (sz := s.heap.size)
  rw [lg_entry_eq]
  have hb := body (p, l, e, Rm d, s, m, av.toArray, below, meth, c, D, va_A (ws σ) s.heap.size) ⟨B.exec, B.bytes, hml, hown, fun w hw => hts w (List.mem_cons_of_mem _ hw), hK, fun q h => Or.inr h, hSF, rfl, B.returns, B.notSynchronized⟩
  exact hb s.heap [] _ (lv_entry av hn) hP hD va_S.rf
theorem met_L {l : Launch} {y : MethodName} {cc : ByteArray} {nL : Nat} {ret : Option FieldType} {d : Nat} {D : va_G} {g : Gm} {ws : St → va_W} {av : List Value} {σ : St} {o : Int64 × St} {own : String} (hy : plainName y.cls = true) (ho : y.cls = own) (hn : (lg_sl av).length ≤ nL)
    (body : ∀ K : Kx, Ok K cc own g nL d ret → J K ws nL (QL K g ws o) 0 (lv_args 0 av) [] σ) : ML l y cc nL ret d D g ws av σ o := by
  intro sz
  refine Met.ofW (cc := cc) (maxL := nL) (ret := ret) hy rfl ?_
  intro p e s m args below meth c s₁ B hml hv
  obtain ⟨rfl, hsz, hP, hK, hD0, hSF⟩ := hv
  have hts := atoms_spec (ws := Cond.code y cc nL ret :: GW) B.pre
  have hown : s.vm.findClass own = some m.cls := by rw [← ho]; exact findClass_of_methodNamed B.named
  subst hsz
  have hD := hD0.self (sz := s.heap.size)
  rw [lg_entry_eq]
  have hb := body (p, l, e, Rm d, s, m, av.toArray, below, meth, c, D, va_A (ws σ) s.heap.size) ⟨B.exec, B.bytes, hml, hown, fun w hw => hts w (List.mem_cons_of_mem _ hw), hK, fun q h => Or.inr h, hSF, rfl, B.returns, B.notSynchronized⟩
  exact hb s.heap [] _ (lv_entry av hn) hP hD va_S.rf
theorem j_aload_n {K : Kx} {cc : ByteArray} {own : String} {g : Gm} {nL d : Nat} {ret : Option FieldType} {ws : St → va_W} {Q : State → Prop} {pc : Nat} {lv : List (Nat × Value)} {st : List Value} {σ : St} (hC : Ok K cc own g nL d ret) {q : Fin 4} {i : Nat} {x : Nat} (hd : decode cc pc = .ok (.aload_n q, 1)) (hi : (q : Nat) = i) (k0 : Nat) (hk : lv[k0]? = some (i, .ref x)) (k : J K ws nL Q (pc + 1) lv (.ref x :: st) σ) : J K ws nL Q (pc) lv (st) σ := by
  obtain ⟨p, l, e, R, s, m, args, below, meth, c, D, A⟩ := K
  obtain ⟨hx, hb, hml, hown, hts, hK, hA, hSF, hR, hr, hlk⟩ := hC
  exact fun H locs ls hl hP hD hS => lv_aload_n hx hb hd hi (lv_at hl k0 hk) (k H locs ls hl hP hD hS)
theorem j_iload_n {K : Kx} {cc : ByteArray} {own : String} {g : Gm} {nL d : Nat} {ret : Option FieldType} {ws : St → va_W} {Q : State → Prop} {pc : Nat} {lv : List (Nat × Value)} {st : List Value} {σ : St} (hC : Ok K cc own g nL d ret) {q : Fin 4} {i : Nat} {x : Int32} (hd : decode cc pc = .ok (.iload_n q, 1)) (hi : (q : Nat) = i) (k0 : Nat) (hk : lv[k0]? = some (i, .int x)) (k : J K ws nL Q (pc + 1) lv (.int x :: st) σ) : J K ws nL Q (pc) lv (st) σ := by
  obtain ⟨p, l, e, R, s, m, args, below, meth, c, D, A⟩ := K
  obtain ⟨hx, hb, hml, hown, hts, hK, hA, hSF, hR, hr, hlk⟩ := hC
  exact fun H locs ls hl hP hD hS => lv_iload_n hx hb hd hi (lv_at hl k0 hk) (k H locs ls hl hP hD hS)
theorem j_iload {K : Kx} {cc : ByteArray} {own : String} {g : Gm} {nL d : Nat} {ret : Option FieldType} {ws : St → va_W} {Q : State → Prop} {pc : Nat} {lv : List (Nat × Value)} {st : List Value} {σ : St} (hC : Ok K cc own g nL d ret) {i : Nat} {x : Int32} (hd : decode cc pc = .ok (.iload i, 2)) (k0 : Nat) (hk : lv[k0]? = some (i, .int x)) (k : J K ws nL Q (pc + 2) lv (.int x :: st) σ) : J K ws nL Q (pc) lv (st) σ := by
  obtain ⟨p, l, e, R, s, m, args, below, meth, c, D, A⟩ := K
  obtain ⟨hx, hb, hml, hown, hts, hK, hA, hSF, hR, hr, hlk⟩ := hC
  exact fun H locs ls hl hP hD hS => lv_iload hx hb hd (lv_at hl k0 hk) (k H locs ls hl hP hD hS)
theorem j_lload {K : Kx} {cc : ByteArray} {own : String} {g : Gm} {nL d : Nat} {ret : Option FieldType} {ws : St → va_W} {Q : State → Prop} {pc : Nat} {lv : List (Nat × Value)} {st : List Value} {σ : St} (hC : Ok K cc own g nL d ret) {i : Nat} {x : Int64} (hd : decode cc pc = .ok (.lload i, 2)) (k0 : Nat) (hk : lv[k0]? = some (i, .long x)) (k : J K ws nL Q (pc + 2) lv (.long x :: st) σ) : J K ws nL Q (pc) lv (st) σ := by
  obtain ⟨p, l, e, R, s, m, args, below, meth, c, D, A⟩ := K
  obtain ⟨hx, hb, hml, hown, hts, hK, hA, hSF, hR, hr, hlk⟩ := hC
  exact fun H locs ls hl hP hD hS => lv_lload hx hb hd (lv_at hl k0 hk) (k H locs ls hl hP hD hS)
theorem j_lload_n {K : Kx} {cc : ByteArray} {own : String} {g : Gm} {nL d : Nat} {ret : Option FieldType} {ws : St → va_W} {Q : State → Prop} {pc : Nat} {lv : List (Nat × Value)} {st : List Value} {σ : St} (hC : Ok K cc own g nL d ret) {q : Fin 4} {i : Nat} {x : Int64} (hd : decode cc pc = .ok (.lload_n q, 1)) (hi : (q : Nat) = i) (k0 : Nat) (hk : lv[k0]? = some (i, .long x)) (k : J K ws nL Q (pc + 1) lv (.long x :: st) σ) : J K ws nL Q (pc) lv (st) σ := by
  obtain ⟨p, l, e, R, s, m, args, below, meth, c, D, A⟩ := K
  obtain ⟨hx, hb, hml, hown, hts, hK, hA, hSF, hR, hr, hlk⟩ := hC
  exact fun H locs ls hl hP hD hS => lv_lload_n hx hb hd hi (lv_at hl k0 hk) (k H locs ls hl hP hD hS)
theorem j_iconst {K : Kx} {cc : ByteArray} {own : String} {g : Gm} {nL d : Nat} {ret : Option FieldType} {ws : St → va_W} {Q : State → Prop} {pc : Nat} {lv : List (Nat × Value)} {st : List Value} {σ : St} (hC : Ok K cc own g nL d ret) {n : Int} {v : Int32} (hd : decode cc pc = .ok (.iconst n, 1)) (hv : Int32.ofInt n = v) (k : J K ws nL Q (pc + 1) lv (.int v :: st) σ) : J K ws nL Q (pc) lv (st) σ := by
  obtain ⟨p, l, e, R, s, m, args, below, meth, c, D, A⟩ := K
  obtain ⟨hx, hb, hml, hown, hts, hK, hA, hSF, hR, hr, hlk⟩ := hC
  exact fun H locs ls hl hP hD hS => lv_iconst hx hb hd hv (k H locs ls hl hP hD hS)
theorem j_lconst {K : Kx} {cc : ByteArray} {own : String} {g : Gm} {nL d : Nat} {ret : Option FieldType} {ws : St → va_W} {Q : State → Prop} {pc : Nat} {lv : List (Nat × Value)} {st : List Value} {σ : St} (hC : Ok K cc own g nL d ret) {n : Fin 2} {v : Int64} (hd : decode cc pc = .ok (.lconst n, 1)) (hv : Int64.ofNat (n : Nat) = v) (k : J K ws nL Q (pc + 1) lv (.long v :: st) σ) : J K ws nL Q (pc) lv (st) σ := by
  obtain ⟨p, l, e, R, s, m, args, below, meth, c, D, A⟩ := K
  obtain ⟨hx, hb, hml, hown, hts, hK, hA, hSF, hR, hr, hlk⟩ := hC
  exact fun H locs ls hl hP hD hS => lv_lconst hx hb hd hv (k H locs ls hl hP hD hS)
theorem j_bipush {K : Kx} {cc : ByteArray} {own : String} {g : Gm} {nL d : Nat} {ret : Option FieldType} {ws : St → va_W} {Q : State → Prop} {pc : Nat} {lv : List (Nat × Value)} {st : List Value} {σ : St} (hC : Ok K cc own g nL d ret) {n : Int} {v : Int32} (hd : decode cc pc = .ok (.bipush n, 2)) (hv : (Int8.ofInt n).toInt32 = v) (k : J K ws nL Q (pc + 2) lv (.int v :: st) σ) : J K ws nL Q (pc) lv (st) σ := by
  obtain ⟨p, l, e, R, s, m, args, below, meth, c, D, A⟩ := K
  obtain ⟨hx, hb, hml, hown, hts, hK, hA, hSF, hR, hr, hlk⟩ := hC
  exact fun H locs ls hl hP hD hS => lv_bipush hx hb hd hv (k H locs ls hl hP hD hS)
theorem j_sipush {K : Kx} {cc : ByteArray} {own : String} {g : Gm} {nL d : Nat} {ret : Option FieldType} {ws : St → va_W} {Q : State → Prop} {pc : Nat} {lv : List (Nat × Value)} {st : List Value} {σ : St} (hC : Ok K cc own g nL d ret) {n : Int} {v : Int32} (hd : decode cc pc = .ok (.sipush n, 3)) (hv : (Int16.ofInt n).toInt32 = v) (k : J K ws nL Q (pc + 3) lv (.int v :: st) σ) : J K ws nL Q (pc) lv (st) σ := by
  obtain ⟨p, l, e, R, s, m, args, below, meth, c, D, A⟩ := K
  obtain ⟨hx, hb, hml, hown, hts, hK, hA, hSF, hR, hr, hlk⟩ := hC
  exact fun H locs ls hl hP hD hS => lv_sipush hx hb hd hv (k H locs ls hl hP hD hS)
theorem j_ldc {K : Kx} {cc : ByteArray} {own : String} {g : Gm} {nL d : Nat} {ret : Option FieldType} {ws : St → va_W} {Q : State → Prop} {pc : Nat} {lv : List (Nat × Value)} {st : List Value} {σ : St} (hC : Ok K cc own g nL d ret) {ix : Nat} {v : Int32} (hw : Cond.constant own ix v ∈ GW) (hd : decode cc pc = .ok (.ldc ix, 2)) (k : J K ws nL Q (pc + 2) lv (.int v :: st) σ) : J K ws nL Q (pc) lv (st) σ := by
  obtain ⟨p, l, e, R, s, m, args, below, meth, c, D, A⟩ := K
  obtain ⟨hx, hb, hml, hown, hts, hK, hA, hSF, hR, hr, hlk⟩ := hC
  exact fun H locs ls hl hP hD hS => lv_ldc hx hb hown (hts _ hw) hd (k H locs ls hl hP hD hS)
theorem j_ldc2 {K : Kx} {cc : ByteArray} {own : String} {g : Gm} {nL d : Nat} {ret : Option FieldType} {ws : St → va_W} {Q : State → Prop} {pc : Nat} {lv : List (Nat × Value)} {st : List Value} {σ : St} (hC : Ok K cc own g nL d ret) {ix : Nat} {v : Int64} (hw : Cond.constantLong own ix v ∈ GW) (hd : decode cc pc = .ok (.ldc2_w ix, 3)) (k : J K ws nL Q (pc + 3) lv (.long v :: st) σ) : J K ws nL Q (pc) lv (st) σ := by
  obtain ⟨p, l, e, R, s, m, args, below, meth, c, D, A⟩ := K
  obtain ⟨hx, hb, hml, hown, hts, hK, hA, hSF, hR, hr, hlk⟩ := hC
  exact fun H locs ls hl hP hD hS => lv_ldc2 hx hb hown (hts _ hw) hd (k H locs ls hl hP hD hS)
theorem j_iadd {K : Kx} {cc : ByteArray} {own : String} {g : Gm} {nL d : Nat} {ret : Option FieldType} {ws : St → va_W} {Q : State → Prop} {pc : Nat} {lv : List (Nat × Value)} {st : List Value} {σ : St} (hC : Ok K cc own g nL d ret) {x y : Int32} (hd : decode cc pc = .ok (.iadd, 1)) (k : J K ws nL Q (pc + 1) lv (.int (x + y) :: st) σ) : J K ws nL Q (pc) lv (.int y :: .int x :: st) σ := by
  obtain ⟨p, l, e, R, s, m, args, below, meth, c, D, A⟩ := K
  obtain ⟨hx, hb, hml, hown, hts, hK, hA, hSF, hR, hr, hlk⟩ := hC
  exact fun H locs ls hl hP hD hS => lv_iadd hx hb hd (k H locs ls hl hP hD hS)
theorem j_isub {K : Kx} {cc : ByteArray} {own : String} {g : Gm} {nL d : Nat} {ret : Option FieldType} {ws : St → va_W} {Q : State → Prop} {pc : Nat} {lv : List (Nat × Value)} {st : List Value} {σ : St} (hC : Ok K cc own g nL d ret) {x y : Int32} (hd : decode cc pc = .ok (.isub, 1)) (k : J K ws nL Q (pc + 1) lv (.int (x - y) :: st) σ) : J K ws nL Q (pc) lv (.int y :: .int x :: st) σ := by
  obtain ⟨p, l, e, R, s, m, args, below, meth, c, D, A⟩ := K
  obtain ⟨hx, hb, hml, hown, hts, hK, hA, hSF, hR, hr, hlk⟩ := hC
  exact fun H locs ls hl hP hD hS => lv_isub hx hb hd (k H locs ls hl hP hD hS)
theorem j_imul {K : Kx} {cc : ByteArray} {own : String} {g : Gm} {nL d : Nat} {ret : Option FieldType} {ws : St → va_W} {Q : State → Prop} {pc : Nat} {lv : List (Nat × Value)} {st : List Value} {σ : St} (hC : Ok K cc own g nL d ret) {x y : Int32} (hd : decode cc pc = .ok (.imul, 1)) (k : J K ws nL Q (pc + 1) lv (.int (x * y) :: st) σ) : J K ws nL Q (pc) lv (.int y :: .int x :: st) σ := by
  obtain ⟨p, l, e, R, s, m, args, below, meth, c, D, A⟩ := K
  obtain ⟨hx, hb, hml, hown, hts, hK, hA, hSF, hR, hr, hlk⟩ := hC
  exact fun H locs ls hl hP hD hS => lv_imul hx hb hd (k H locs ls hl hP hD hS)
theorem j_iand {K : Kx} {cc : ByteArray} {own : String} {g : Gm} {nL d : Nat} {ret : Option FieldType} {ws : St → va_W} {Q : State → Prop} {pc : Nat} {lv : List (Nat × Value)} {st : List Value} {σ : St} (hC : Ok K cc own g nL d ret) {x y : Int32} (hd : decode cc pc = .ok (.iand, 1)) (k : J K ws nL Q (pc + 1) lv (.int (x &&& y) :: st) σ) : J K ws nL Q (pc) lv (.int y :: .int x :: st) σ := by
  obtain ⟨p, l, e, R, s, m, args, below, meth, c, D, A⟩ := K
  obtain ⟨hx, hb, hml, hown, hts, hK, hA, hSF, hR, hr, hlk⟩ := hC
  exact fun H locs ls hl hP hD hS => lv_iand hx hb hd (k H locs ls hl hP hD hS)
theorem j_ior {K : Kx} {cc : ByteArray} {own : String} {g : Gm} {nL d : Nat} {ret : Option FieldType} {ws : St → va_W} {Q : State → Prop} {pc : Nat} {lv : List (Nat × Value)} {st : List Value} {σ : St} (hC : Ok K cc own g nL d ret) {x y : Int32} (hd : decode cc pc = .ok (.ior, 1)) (k : J K ws nL Q (pc + 1) lv (.int (x ||| y) :: st) σ) : J K ws nL Q (pc) lv (.int y :: .int x :: st) σ := by
  obtain ⟨p, l, e, R, s, m, args, below, meth, c, D, A⟩ := K
  obtain ⟨hx, hb, hml, hown, hts, hK, hA, hSF, hR, hr, hlk⟩ := hC
  exact fun H locs ls hl hP hD hS => lv_ior hx hb hd (k H locs ls hl hP hD hS)
theorem j_ishr {K : Kx} {cc : ByteArray} {own : String} {g : Gm} {nL d : Nat} {ret : Option FieldType} {ws : St → va_W} {Q : State → Prop} {pc : Nat} {lv : List (Nat × Value)} {st : List Value} {σ : St} (hC : Ok K cc own g nL d ret) {x y : Int32} (hd : decode cc pc = .ok (.ishr, 1)) (k : J K ws nL Q (pc + 1) lv (.int (x >>> (y &&& 31)) :: st) σ) : J K ws nL Q (pc) lv (.int y :: .int x :: st) σ := by
  obtain ⟨p, l, e, R, s, m, args, below, meth, c, D, A⟩ := K
  obtain ⟨hx, hb, hml, hown, hts, hK, hA, hSF, hR, hr, hlk⟩ := hC
  exact fun H locs ls hl hP hD hS => lv_ishr hx hb hd (k H locs ls hl hP hD hS)
theorem j_ishl {K : Kx} {cc : ByteArray} {own : String} {g : Gm} {nL d : Nat} {ret : Option FieldType} {ws : St → va_W} {Q : State → Prop} {pc : Nat} {lv : List (Nat × Value)} {st : List Value} {σ : St} (hC : Ok K cc own g nL d ret) {x y : Int32} (hd : decode cc pc = .ok (.ishl, 1)) (k : J K ws nL Q (pc + 1) lv (.int (x <<< (y &&& 31)) :: st) σ) : J K ws nL Q (pc) lv (.int y :: .int x :: st) σ := by
  obtain ⟨p, l, e, R, s, m, args, below, meth, c, D, A⟩ := K
  obtain ⟨hx, hb, hml, hown, hts, hK, hA, hSF, hR, hr, hlk⟩ := hC
  exact fun H locs ls hl hP hD hS => lv_ishl hx hb hd (k H locs ls hl hP hD hS)
theorem j_idiv {K : Kx} {cc : ByteArray} {own : String} {g : Gm} {nL d : Nat} {ret : Option FieldType} {ws : St → va_W} {Q : State → Prop} {pc : Nat} {lv : List (Nat × Value)} {st : List Value} {σ : St} (hC : Ok K cc own g nL d ret) {x y : Int32} (hne : ¬ y = 0) (hd : decode cc pc = .ok (.idiv, 1)) (k : J K ws nL Q (pc + 1) lv (.int (x / y) :: st) σ) : J K ws nL Q (pc) lv (.int y :: .int x :: st) σ := by
  obtain ⟨p, l, e, R, s, m, args, below, meth, c, D, A⟩ := K
  obtain ⟨hx, hb, hml, hown, hts, hK, hA, hSF, hR, hr, hlk⟩ := hC
  exact fun H locs ls hl hP hD hS => lv_idiv hx hb hd hne (k H locs ls hl hP hD hS)
theorem j_irem {K : Kx} {cc : ByteArray} {own : String} {g : Gm} {nL d : Nat} {ret : Option FieldType} {ws : St → va_W} {Q : State → Prop} {pc : Nat} {lv : List (Nat × Value)} {st : List Value} {σ : St} (hC : Ok K cc own g nL d ret) {x y : Int32} (hne : ¬ y = 0) (hd : decode cc pc = .ok (.irem, 1)) (k : J K ws nL Q (pc + 1) lv (.int (x - x / y * y) :: st) σ) : J K ws nL Q (pc) lv (.int y :: .int x :: st) σ := by
  obtain ⟨p, l, e, R, s, m, args, below, meth, c, D, A⟩ := K
  obtain ⟨hx, hb, hml, hown, hts, hK, hA, hSF, hR, hr, hlk⟩ := hC
  exact fun H locs ls hl hP hD hS => lv_irem hx hb hd hne (k H locs ls hl hP hD hS)
theorem j_ladd {K : Kx} {cc : ByteArray} {own : String} {g : Gm} {nL d : Nat} {ret : Option FieldType} {ws : St → va_W} {Q : State → Prop} {pc : Nat} {lv : List (Nat × Value)} {st : List Value} {σ : St} (hC : Ok K cc own g nL d ret) {x y : Int64} (hd : decode cc pc = .ok (.ladd, 1)) (k : J K ws nL Q (pc + 1) lv (.long (x + y) :: st) σ) : J K ws nL Q (pc) lv (.long y :: .long x :: st) σ := by
  obtain ⟨p, l, e, R, s, m, args, below, meth, c, D, A⟩ := K
  obtain ⟨hx, hb, hml, hown, hts, hK, hA, hSF, hR, hr, hlk⟩ := hC
  exact fun H locs ls hl hP hD hS => lv_ladd hx hb hd (k H locs ls hl hP hD hS)
theorem j_lsub {K : Kx} {cc : ByteArray} {own : String} {g : Gm} {nL d : Nat} {ret : Option FieldType} {ws : St → va_W} {Q : State → Prop} {pc : Nat} {lv : List (Nat × Value)} {st : List Value} {σ : St} (hC : Ok K cc own g nL d ret) {x y : Int64} (hd : decode cc pc = .ok (.lsub, 1)) (k : J K ws nL Q (pc + 1) lv (.long (x - y) :: st) σ) : J K ws nL Q (pc) lv (.long y :: .long x :: st) σ := by
  obtain ⟨p, l, e, R, s, m, args, below, meth, c, D, A⟩ := K
  obtain ⟨hx, hb, hml, hown, hts, hK, hA, hSF, hR, hr, hlk⟩ := hC
  exact fun H locs ls hl hP hD hS => lv_lsub hx hb hd (k H locs ls hl hP hD hS)
theorem j_lmul {K : Kx} {cc : ByteArray} {own : String} {g : Gm} {nL d : Nat} {ret : Option FieldType} {ws : St → va_W} {Q : State → Prop} {pc : Nat} {lv : List (Nat × Value)} {st : List Value} {σ : St} (hC : Ok K cc own g nL d ret) {x y : Int64} (hd : decode cc pc = .ok (.lmul, 1)) (k : J K ws nL Q (pc + 1) lv (.long (x * y) :: st) σ) : J K ws nL Q (pc) lv (.long y :: .long x :: st) σ := by
  obtain ⟨p, l, e, R, s, m, args, below, meth, c, D, A⟩ := K
  obtain ⟨hx, hb, hml, hown, hts, hK, hA, hSF, hR, hr, hlk⟩ := hC
  exact fun H locs ls hl hP hD hS => lv_lmul hx hb hd (k H locs ls hl hP hD hS)
def iushr (x y : Int32) : Int32 := (x.toUInt32 >>> (y.toUInt32 &&& Int32.toUInt32 31)).toInt32
theorem j_iushr {K : Kx} {cc : ByteArray} {own : String} {g : Gm} {nL d : Nat} {ret : Option FieldType} {ws : St → va_W} {Q : State → Prop} {pc : Nat} {lv : List (Nat × Value)} {st : List Value} {σ : St} (hC : Ok K cc own g nL d ret) {x y : Int32} (hd : decode cc pc = .ok (.iushr, 1)) (k : J K ws nL Q (pc + 1) lv (.int (iushr x y) :: st) σ) : J K ws nL Q (pc) lv (.int y :: .int x :: st) σ := by
  obtain ⟨p, l, e, R, s, m, args, below, meth, c, D, A⟩ := K
  obtain ⟨hx, hb, hml, hown, hts, hK, hA, hSF, hR, hr, hlk⟩ := hC
  exact fun H locs ls hl hP hD hS => lv_iushr hx hb hd rfl (k H locs ls hl hP hD hS)
theorem j_i2b {K : Kx} {cc : ByteArray} {own : String} {g : Gm} {nL d : Nat} {ret : Option FieldType} {ws : St → va_W} {Q : State → Prop} {pc : Nat} {lv : List (Nat × Value)} {st : List Value} {σ : St} (hC : Ok K cc own g nL d ret) {x : Int32} (hd : decode cc pc = .ok (.i2b, 1)) (k : J K ws nL Q (pc + 1) lv (.int (x.toInt8.toInt32) :: st) σ) : J K ws nL Q (pc) lv (.int x :: st) σ := by
  obtain ⟨p, l, e, R, s, m, args, below, meth, c, D, A⟩ := K
  obtain ⟨hx, hb, hml, hown, hts, hK, hA, hSF, hR, hr, hlk⟩ := hC
  exact fun H locs ls hl hP hD hS => lv_i2b hx hb hd rfl (k H locs ls hl hP hD hS)
theorem j_i2l {K : Kx} {cc : ByteArray} {own : String} {g : Gm} {nL d : Nat} {ret : Option FieldType} {ws : St → va_W} {Q : State → Prop} {pc : Nat} {lv : List (Nat × Value)} {st : List Value} {σ : St} (hC : Ok K cc own g nL d ret) {x : Int32} (hd : decode cc pc = .ok (.i2l, 1)) (k : J K ws nL Q (pc + 1) lv (.long (x.toInt64) :: st) σ) : J K ws nL Q (pc) lv (.int x :: st) σ := by
  obtain ⟨p, l, e, R, s, m, args, below, meth, c, D, A⟩ := K
  obtain ⟨hx, hb, hml, hown, hts, hK, hA, hSF, hR, hr, hlk⟩ := hC
  exact fun H locs ls hl hP hD hS => lv_i2l hx hb hd rfl (k H locs ls hl hP hD hS)
theorem j_lcmp {K : Kx} {cc : ByteArray} {own : String} {g : Gm} {nL d : Nat} {ret : Option FieldType} {ws : St → va_W} {Q : State → Prop} {pc : Nat} {lv : List (Nat × Value)} {st : List Value} {σ : St} (hC : Ok K cc own g nL d ret) {x y : Int64} (hd : decode cc pc = .ok (.lcmp, 1)) (k : J K ws nL Q (pc + 1) lv (.int (lg_cmp x y) :: st) σ) : J K ws nL Q (pc) lv (.long y :: .long x :: st) σ := by
  obtain ⟨p, l, e, R, s, m, args, below, meth, c, D, A⟩ := K
  obtain ⟨hx, hb, hml, hown, hts, hK, hA, hSF, hR, hr, hlk⟩ := hC
  exact fun H locs ls hl hP hD hS => W.lcmp hx hb hd (k H locs ls hl hP hD hS)
theorem j_dup {K : Kx} {cc : ByteArray} {own : String} {g : Gm} {nL d : Nat} {ret : Option FieldType} {ws : St → va_W} {Q : State → Prop} {pc : Nat} {lv : List (Nat × Value)} {st : List Value} {σ : St} (hC : Ok K cc own g nL d ret) {v : Value} (hv : v.category = 1) (hd : decode cc pc = .ok (.dup, 1)) (k : J K ws nL Q (pc + 1) lv (v :: v :: st) σ) : J K ws nL Q (pc) lv (v :: st) σ := by
  obtain ⟨p, l, e, R, s, m, args, below, meth, c, D, A⟩ := K
  obtain ⟨hx, hb, hml, hown, hts, hK, hA, hSF, hR, hr, hlk⟩ := hC
  exact fun H locs ls hl hP hD hS => lv_dup hx hb hd hv (k H locs ls hl hP hD hS)
theorem j_pop {K : Kx} {cc : ByteArray} {own : String} {g : Gm} {nL d : Nat} {ret : Option FieldType} {ws : St → va_W} {Q : State → Prop} {pc : Nat} {lv : List (Nat × Value)} {st : List Value} {σ : St} (hC : Ok K cc own g nL d ret) {v : Value} (hv : v.category = 1) (hd : decode cc pc = .ok (.pop, 1)) (k : J K ws nL Q (pc + 1) lv (st) σ) : J K ws nL Q (pc) lv (v :: st) σ := by
  obtain ⟨p, l, e, R, s, m, args, below, meth, c, D, A⟩ := K
  obtain ⟨hx, hb, hml, hown, hts, hK, hA, hSF, hR, hr, hlk⟩ := hC
  exact fun H locs ls hl hP hD hS => lv_pop hx hb hd hv (k H locs ls hl hP hD hS)
theorem j_dup2 {K : Kx} {cc : ByteArray} {own : String} {g : Gm} {nL d : Nat} {ret : Option FieldType} {ws : St → va_W} {Q : State → Prop} {pc : Nat} {lv : List (Nat × Value)} {st : List Value} {σ : St} (hC : Ok K cc own g nL d ret) {v w : Value} (hv : v.category = 1) (hw : w.category = 1) (hd : decode cc pc = .ok (.dup2, 1)) (k : J K ws nL Q (pc + 1) lv (v :: w :: v :: w :: st) σ) : J K ws nL Q (pc) lv (v :: w :: st) σ := by
  obtain ⟨p, l, e, R, s, m, args, below, meth, c, D, A⟩ := K
  obtain ⟨hx, hb, hml, hown, hts, hK, hA, hSF, hR, hr, hlk⟩ := hC
  exact fun H locs ls hl hP hD hS => lv_dup2_11 hx hb hd hv hw (k H locs ls hl hP hD hS)
theorem j_goto {K : Kx} {cc : ByteArray} {own : String} {g : Gm} {nL d : Nat} {ret : Option FieldType} {ws : St → va_W} {Q : State → Prop} {pc : Nat} {lv : List (Nat × Value)} {st : List Value} {σ : St} (hC : Ok K cc own g nL d ret) {off : Int} {tgt : Nat} (hd : decode cc pc = .ok (.goto off, 3)) (ht : (pc : Int) + off = (tgt : Int)) (k : J K ws nL Q (tgt) lv (st) σ) : J K ws nL Q (pc) lv (st) σ := by
  obtain ⟨p, l, e, R, s, m, args, below, meth, c, D, A⟩ := K
  obtain ⟨hx, hb, hml, hown, hts, hK, hA, hSF, hR, hr, hlk⟩ := hC
  exact fun H locs ls hl hP hD hS => lv_goto hx hb hd ht (k H locs ls hl hP hD hS)
theorem j_icmp_eq {K : Kx} {cc : ByteArray} {own : String} {g : Gm} {nL d : Nat} {ret : Option FieldType} {ws : St → va_W} {Q : State → Prop} {pc : Nat} {lv : List (Nat × Value)} {st : List Value} {σ : St} (hC : Ok K cc own g nL d ret) {ρ : Type} {o : ρ} {T F : Option ρ} {x y : Int32} {off : Int} {tgt : Nat} (hd : decode cc pc = .ok (.if_icmp .eq off, 3)) (ht : (pc : Int) + off = (tgt : Int)) (h : ite (x = y) T F = some o) (kt : T = some o → J K ws nL Q (tgt) lv (st) σ) (kf : F = some o → J K ws nL Q (pc + 3) lv (st) σ) : J K ws nL Q (pc) lv (.int y :: .int x :: st) σ := by
  obtain ⟨p, l, e, R, s, m, args, below, meth, c, D, A⟩ := K
  obtain ⟨hx, hb, hml, hown, hts, hK, hA, hSF, hR, hr, hlk⟩ := hC
  exact fun H locs ls hl hP hD hS => lv_icmp_eq hx hb hd ht (fun q => kt (by rw [if_pos q] at h; exact h) H locs ls hl hP hD hS) (fun q => kf (by rw [if_neg q] at h; exact h) H locs ls hl hP hD hS)
theorem j_if_eq {K : Kx} {cc : ByteArray} {own : String} {g : Gm} {nL d : Nat} {ret : Option FieldType} {ws : St → va_W} {Q : State → Prop} {pc : Nat} {lv : List (Nat × Value)} {st : List Value} {σ : St} (hC : Ok K cc own g nL d ret) {ρ : Type} {o : ρ} {T F : Option ρ} {x : Int32} {off : Int} {tgt : Nat} (hd : decode cc pc = .ok (.ifCond .eq off, 3)) (ht : (pc : Int) + off = (tgt : Int)) (h : ite (x = 0) T F = some o) (kt : T = some o → J K ws nL Q (tgt) lv (st) σ) (kf : F = some o → J K ws nL Q (pc + 3) lv (st) σ) : J K ws nL Q (pc) lv (.int x :: st) σ := by
  obtain ⟨p, l, e, R, s, m, args, below, meth, c, D, A⟩ := K
  obtain ⟨hx, hb, hml, hown, hts, hK, hA, hSF, hR, hr, hlk⟩ := hC
  exact fun H locs ls hl hP hD hS => lv_if_eq hx hb hd ht (fun q => kt (by rw [if_pos q] at h; exact h) H locs ls hl hP hD hS) (fun q => kf (by rw [if_neg q] at h; exact h) H locs ls hl hP hD hS)
theorem j_icmp_ne {K : Kx} {cc : ByteArray} {own : String} {g : Gm} {nL d : Nat} {ret : Option FieldType} {ws : St → va_W} {Q : State → Prop} {pc : Nat} {lv : List (Nat × Value)} {st : List Value} {σ : St} (hC : Ok K cc own g nL d ret) {ρ : Type} {o : ρ} {T F : Option ρ} {x y : Int32} {off : Int} {tgt : Nat} (hd : decode cc pc = .ok (.if_icmp .ne off, 3)) (ht : (pc : Int) + off = (tgt : Int)) (h : ite (x = y) F T = some o) (kt : T = some o → J K ws nL Q (tgt) lv (st) σ) (kf : F = some o → J K ws nL Q (pc + 3) lv (st) σ) : J K ws nL Q (pc) lv (.int y :: .int x :: st) σ := by
  obtain ⟨p, l, e, R, s, m, args, below, meth, c, D, A⟩ := K
  obtain ⟨hx, hb, hml, hown, hts, hK, hA, hSF, hR, hr, hlk⟩ := hC
  exact fun H locs ls hl hP hD hS => lv_icmp_ne hx hb hd ht (fun q => kt (by rw [if_neg q] at h; exact h) H locs ls hl hP hD hS) (fun q => kf (by rw [if_pos q] at h; exact h) H locs ls hl hP hD hS)
theorem j_if_ne {K : Kx} {cc : ByteArray} {own : String} {g : Gm} {nL d : Nat} {ret : Option FieldType} {ws : St → va_W} {Q : State → Prop} {pc : Nat} {lv : List (Nat × Value)} {st : List Value} {σ : St} (hC : Ok K cc own g nL d ret) {ρ : Type} {o : ρ} {T F : Option ρ} {x : Int32} {off : Int} {tgt : Nat} (hd : decode cc pc = .ok (.ifCond .ne off, 3)) (ht : (pc : Int) + off = (tgt : Int)) (h : ite (x = 0) F T = some o) (kt : T = some o → J K ws nL Q (tgt) lv (st) σ) (kf : F = some o → J K ws nL Q (pc + 3) lv (st) σ) : J K ws nL Q (pc) lv (.int x :: st) σ := by
  obtain ⟨p, l, e, R, s, m, args, below, meth, c, D, A⟩ := K
  obtain ⟨hx, hb, hml, hown, hts, hK, hA, hSF, hR, hr, hlk⟩ := hC
  exact fun H locs ls hl hP hD hS => lv_if_ne hx hb hd ht (fun q => kt (by rw [if_neg q] at h; exact h) H locs ls hl hP hD hS) (fun q => kf (by rw [if_pos q] at h; exact h) H locs ls hl hP hD hS)
theorem j_icmp_lt {K : Kx} {cc : ByteArray} {own : String} {g : Gm} {nL d : Nat} {ret : Option FieldType} {ws : St → va_W} {Q : State → Prop} {pc : Nat} {lv : List (Nat × Value)} {st : List Value} {σ : St} (hC : Ok K cc own g nL d ret) {ρ : Type} {o : ρ} {T F : Option ρ} {x y : Int32} {off : Int} {tgt : Nat} (hd : decode cc pc = .ok (.if_icmp .lt off, 3)) (ht : (pc : Int) + off = (tgt : Int)) (h : ite (x < y) T F = some o) (kt : T = some o → J K ws nL Q (tgt) lv (st) σ) (kf : F = some o → J K ws nL Q (pc + 3) lv (st) σ) : J K ws nL Q (pc) lv (.int y :: .int x :: st) σ := by
  obtain ⟨p, l, e, R, s, m, args, below, meth, c, D, A⟩ := K
  obtain ⟨hx, hb, hml, hown, hts, hK, hA, hSF, hR, hr, hlk⟩ := hC
  exact fun H locs ls hl hP hD hS => lv_icmp_lt hx hb hd ht (fun q => kt (by rw [if_pos q] at h; exact h) H locs ls hl hP hD hS) (fun q => kf (by rw [if_neg q] at h; exact h) H locs ls hl hP hD hS)
theorem j_if_lt {K : Kx} {cc : ByteArray} {own : String} {g : Gm} {nL d : Nat} {ret : Option FieldType} {ws : St → va_W} {Q : State → Prop} {pc : Nat} {lv : List (Nat × Value)} {st : List Value} {σ : St} (hC : Ok K cc own g nL d ret) {ρ : Type} {o : ρ} {T F : Option ρ} {x : Int32} {off : Int} {tgt : Nat} (hd : decode cc pc = .ok (.ifCond .lt off, 3)) (ht : (pc : Int) + off = (tgt : Int)) (h : ite (x < 0) T F = some o) (kt : T = some o → J K ws nL Q (tgt) lv (st) σ) (kf : F = some o → J K ws nL Q (pc + 3) lv (st) σ) : J K ws nL Q (pc) lv (.int x :: st) σ := by
  obtain ⟨p, l, e, R, s, m, args, below, meth, c, D, A⟩ := K
  obtain ⟨hx, hb, hml, hown, hts, hK, hA, hSF, hR, hr, hlk⟩ := hC
  exact fun H locs ls hl hP hD hS => lv_if_lt hx hb hd ht (fun q => kt (by rw [if_pos q] at h; exact h) H locs ls hl hP hD hS) (fun q => kf (by rw [if_neg q] at h; exact h) H locs ls hl hP hD hS)
theorem j_icmp_ge {K : Kx} {cc : ByteArray} {own : String} {g : Gm} {nL d : Nat} {ret : Option FieldType} {ws : St → va_W} {Q : State → Prop} {pc : Nat} {lv : List (Nat × Value)} {st : List Value} {σ : St} (hC : Ok K cc own g nL d ret) {ρ : Type} {o : ρ} {T F : Option ρ} {x y : Int32} {off : Int} {tgt : Nat} (hd : decode cc pc = .ok (.if_icmp .ge off, 3)) (ht : (pc : Int) + off = (tgt : Int)) (h : ite (y ≤ x) T F = some o) (kt : T = some o → J K ws nL Q (tgt) lv (st) σ) (kf : F = some o → J K ws nL Q (pc + 3) lv (st) σ) : J K ws nL Q (pc) lv (.int y :: .int x :: st) σ := by
  obtain ⟨p, l, e, R, s, m, args, below, meth, c, D, A⟩ := K
  obtain ⟨hx, hb, hml, hown, hts, hK, hA, hSF, hR, hr, hlk⟩ := hC
  exact fun H locs ls hl hP hD hS => lv_icmp_ge hx hb hd ht (fun q => kt (by rw [if_pos q] at h; exact h) H locs ls hl hP hD hS) (fun q => kf (by rw [if_neg q] at h; exact h) H locs ls hl hP hD hS)
theorem j_if_ge {K : Kx} {cc : ByteArray} {own : String} {g : Gm} {nL d : Nat} {ret : Option FieldType} {ws : St → va_W} {Q : State → Prop} {pc : Nat} {lv : List (Nat × Value)} {st : List Value} {σ : St} (hC : Ok K cc own g nL d ret) {ρ : Type} {o : ρ} {T F : Option ρ} {x : Int32} {off : Int} {tgt : Nat} (hd : decode cc pc = .ok (.ifCond .ge off, 3)) (ht : (pc : Int) + off = (tgt : Int)) (h : ite (0 ≤ x) T F = some o) (kt : T = some o → J K ws nL Q (tgt) lv (st) σ) (kf : F = some o → J K ws nL Q (pc + 3) lv (st) σ) : J K ws nL Q (pc) lv (.int x :: st) σ := by
  obtain ⟨p, l, e, R, s, m, args, below, meth, c, D, A⟩ := K
  obtain ⟨hx, hb, hml, hown, hts, hK, hA, hSF, hR, hr, hlk⟩ := hC
  exact fun H locs ls hl hP hD hS => lv_if_ge hx hb hd ht (fun q => kt (by rw [if_pos q] at h; exact h) H locs ls hl hP hD hS) (fun q => kf (by rw [if_neg q] at h; exact h) H locs ls hl hP hD hS)
theorem j_icmp_gt {K : Kx} {cc : ByteArray} {own : String} {g : Gm} {nL d : Nat} {ret : Option FieldType} {ws : St → va_W} {Q : State → Prop} {pc : Nat} {lv : List (Nat × Value)} {st : List Value} {σ : St} (hC : Ok K cc own g nL d ret) {ρ : Type} {o : ρ} {T F : Option ρ} {x y : Int32} {off : Int} {tgt : Nat} (hd : decode cc pc = .ok (.if_icmp .gt off, 3)) (ht : (pc : Int) + off = (tgt : Int)) (h : ite (y < x) T F = some o) (kt : T = some o → J K ws nL Q (tgt) lv (st) σ) (kf : F = some o → J K ws nL Q (pc + 3) lv (st) σ) : J K ws nL Q (pc) lv (.int y :: .int x :: st) σ := by
  obtain ⟨p, l, e, R, s, m, args, below, meth, c, D, A⟩ := K
  obtain ⟨hx, hb, hml, hown, hts, hK, hA, hSF, hR, hr, hlk⟩ := hC
  exact fun H locs ls hl hP hD hS => lv_icmp_gt hx hb hd ht (fun q => kt (by rw [if_pos q] at h; exact h) H locs ls hl hP hD hS) (fun q => kf (by rw [if_neg q] at h; exact h) H locs ls hl hP hD hS)
theorem j_if_gt {K : Kx} {cc : ByteArray} {own : String} {g : Gm} {nL d : Nat} {ret : Option FieldType} {ws : St → va_W} {Q : State → Prop} {pc : Nat} {lv : List (Nat × Value)} {st : List Value} {σ : St} (hC : Ok K cc own g nL d ret) {ρ : Type} {o : ρ} {T F : Option ρ} {x : Int32} {off : Int} {tgt : Nat} (hd : decode cc pc = .ok (.ifCond .gt off, 3)) (ht : (pc : Int) + off = (tgt : Int)) (h : ite (0 < x) T F = some o) (kt : T = some o → J K ws nL Q (tgt) lv (st) σ) (kf : F = some o → J K ws nL Q (pc + 3) lv (st) σ) : J K ws nL Q (pc) lv (.int x :: st) σ := by
  obtain ⟨p, l, e, R, s, m, args, below, meth, c, D, A⟩ := K
  obtain ⟨hx, hb, hml, hown, hts, hK, hA, hSF, hR, hr, hlk⟩ := hC
  exact fun H locs ls hl hP hD hS => lv_if_gt hx hb hd ht (fun q => kt (by rw [if_pos q] at h; exact h) H locs ls hl hP hD hS) (fun q => kf (by rw [if_neg q] at h; exact h) H locs ls hl hP hD hS)
theorem j_icmp_le {K : Kx} {cc : ByteArray} {own : String} {g : Gm} {nL d : Nat} {ret : Option FieldType} {ws : St → va_W} {Q : State → Prop} {pc : Nat} {lv : List (Nat × Value)} {st : List Value} {σ : St} (hC : Ok K cc own g nL d ret) {ρ : Type} {o : ρ} {T F : Option ρ} {x y : Int32} {off : Int} {tgt : Nat} (hd : decode cc pc = .ok (.if_icmp .le off, 3)) (ht : (pc : Int) + off = (tgt : Int)) (h : ite (x ≤ y) T F = some o) (kt : T = some o → J K ws nL Q (tgt) lv (st) σ) (kf : F = some o → J K ws nL Q (pc + 3) lv (st) σ) : J K ws nL Q (pc) lv (.int y :: .int x :: st) σ := by
  obtain ⟨p, l, e, R, s, m, args, below, meth, c, D, A⟩ := K
  obtain ⟨hx, hb, hml, hown, hts, hK, hA, hSF, hR, hr, hlk⟩ := hC
  exact fun H locs ls hl hP hD hS => lv_icmp_le hx hb hd ht (fun q => kt (by rw [if_pos q] at h; exact h) H locs ls hl hP hD hS) (fun q => kf (by rw [if_neg q] at h; exact h) H locs ls hl hP hD hS)
theorem j_if_le {K : Kx} {cc : ByteArray} {own : String} {g : Gm} {nL d : Nat} {ret : Option FieldType} {ws : St → va_W} {Q : State → Prop} {pc : Nat} {lv : List (Nat × Value)} {st : List Value} {σ : St} (hC : Ok K cc own g nL d ret) {ρ : Type} {o : ρ} {T F : Option ρ} {x : Int32} {off : Int} {tgt : Nat} (hd : decode cc pc = .ok (.ifCond .le off, 3)) (ht : (pc : Int) + off = (tgt : Int)) (h : ite (x ≤ 0) T F = some o) (kt : T = some o → J K ws nL Q (tgt) lv (st) σ) (kf : F = some o → J K ws nL Q (pc + 3) lv (st) σ) : J K ws nL Q (pc) lv (.int x :: st) σ := by
  obtain ⟨p, l, e, R, s, m, args, below, meth, c, D, A⟩ := K
  obtain ⟨hx, hb, hml, hown, hts, hK, hA, hSF, hR, hr, hlk⟩ := hC
  exact fun H locs ls hl hP hD hS => lv_if_le hx hb hd ht (fun q => kt (by rw [if_pos q] at h; exact h) H locs ls hl hP hD hS) (fun q => kf (by rw [if_neg q] at h; exact h) H locs ls hl hP hD hS)
theorem j_istore_n {K : Kx} {cc : ByteArray} {own : String} {g : Gm} {nL d : Nat} {ret : Option FieldType} {ws : St → va_W} {Q : State → Prop} {pc : Nat} {lv : List (Nat × Value)} {st : List Value} {σ : St} (hC : Ok K cc own g nL d ret) {q : Fin 4} {i : Nat} {x : Int32} {lv2 : List (Nat × Value)} (hd : decode cc pc = .ok (.istore_n q, 1)) (hi : (q : Nat) = i) (hn : i < nL) (hl2 : (i, Value.int x) :: lv.filter (fun q => !(q.1 == i) && !(q.1 + 1 == i && q.2.category == 2)) = lv2) (k : J K ws nL Q (pc + 1) lv2 (st) σ) : J K ws nL Q (pc) lv (.int x :: st) σ := by
  obtain ⟨p, l, e, R, s, m, args, below, meth, c, D, A⟩ := K
  obtain ⟨hx, hb, hml, hown, hts, hK, hA, hSF, hR, hr, hlk⟩ := hC
  exact fun H locs ls hl hP hD hS => lv_istore_n hx hb hd hi hl hn hl2 (fun ls hl => k H locs ls hl hP hD hS)
theorem j_istore {K : Kx} {cc : ByteArray} {own : String} {g : Gm} {nL d : Nat} {ret : Option FieldType} {ws : St → va_W} {Q : State → Prop} {pc : Nat} {lv : List (Nat × Value)} {st : List Value} {σ : St} (hC : Ok K cc own g nL d ret) {i : Nat} {x : Int32} {lv2 : List (Nat × Value)} (hd : decode cc pc = .ok (.istore i, 2)) (hn : i < nL) (hl2 : (i, Value.int x) :: lv.filter (fun q => !(q.1 == i) && !(q.1 + 1 == i && q.2.category == 2)) = lv2) (k : J K ws nL Q (pc + 2) lv2 (st) σ) : J K ws nL Q (pc) lv (.int x :: st) σ := by
  obtain ⟨p, l, e, R, s, m, args, below, meth, c, D, A⟩ := K
  obtain ⟨hx, hb, hml, hown, hts, hK, hA, hSF, hR, hr, hlk⟩ := hC
  exact fun H locs ls hl hP hD hS => lv_istore hx hb hd hl hn hl2 (fun ls hl => k H locs ls hl hP hD hS)
theorem j_astore_n {K : Kx} {cc : ByteArray} {own : String} {g : Gm} {nL d : Nat} {ret : Option FieldType} {ws : St → va_W} {Q : State → Prop} {pc : Nat} {lv : List (Nat × Value)} {st : List Value} {σ : St} (hC : Ok K cc own g nL d ret) {q : Fin 4} {i : Nat} {x : Nat} {lv2 : List (Nat × Value)} (hd : decode cc pc = .ok (.astore_n q, 1)) (hi : (q : Nat) = i) (hn : i < nL) (hl2 : (i, Value.ref x) :: lv.filter (fun q => !(q.1 == i) && !(q.1 + 1 == i && q.2.category == 2)) = lv2) (k : J K ws nL Q (pc + 1) lv2 (st) σ) : J K ws nL Q (pc) lv (.ref x :: st) σ := by
  obtain ⟨p, l, e, R, s, m, args, below, meth, c, D, A⟩ := K
  obtain ⟨hx, hb, hml, hown, hts, hK, hA, hSF, hR, hr, hlk⟩ := hC
  exact fun H locs ls hl hP hD hS => lv_astore_n hx hb hd hi hl hn hl2 (fun ls hl => k H locs ls hl hP hD hS)
theorem j_lstore {K : Kx} {cc : ByteArray} {own : String} {g : Gm} {nL d : Nat} {ret : Option FieldType} {ws : St → va_W} {Q : State → Prop} {pc : Nat} {lv : List (Nat × Value)} {st : List Value} {σ : St} (hC : Ok K cc own g nL d ret) {i : Nat} {x : Int64} {lv2 : List (Nat × Value)} (hd : decode cc pc = .ok (.lstore i, 2)) (hn : i + 1 < nL) (hl2 : (i, Value.long x) :: lv.filter (fun q => !(q.1 == i) && (!(q.1 == i + 1) && !(q.1 + 1 == i && q.2.category == 2))) = lv2) (k : J K ws nL Q (pc + 2) lv2 (st) σ) : J K ws nL Q (pc) lv (.long x :: st) σ := by
  obtain ⟨p, l, e, R, s, m, args, below, meth, c, D, A⟩ := K
  obtain ⟨hx, hb, hml, hown, hts, hK, hA, hSF, hR, hr, hlk⟩ := hC
  exact fun H locs ls hl hP hD hS => lv_lstore hx hb hd hl hn hl2 (fun ls hl => k H locs ls hl hP hD hS)
theorem j_iinc {K : Kx} {cc : ByteArray} {own : String} {g : Gm} {nL d : Nat} {ret : Option FieldType} {ws : St → va_W} {Q : State → Prop} {pc : Nat} {lv : List (Nat × Value)} {st : List Value} {σ : St} (hC : Ok K cc own g nL d ret) {i k0 : Nat} {n : Int} {x v n2 : Int32} {lv2 : List (Nat × Value)} (hd : decode cc pc = .ok (.iinc i n, 3)) (hk : lv[k0]? = some (i, .int x)) (hv : Int32.ofInt n = n2) (hn : i < nL) (hl2 : (i, Value.int (x + n2)) :: lv.filter (fun q => !(q.1 == i) && !(q.1 + 1 == i && q.2.category == 2)) = lv2) (k : J K ws nL Q (pc + 3) lv2 (st) σ) : J K ws nL Q (pc) lv (st) σ := by
  obtain ⟨p, l, e, R, s, m, args, below, meth, c, D, A⟩ := K
  obtain ⟨hx, hb, hml, hown, hts, hK, hA, hSF, hR, hr, hlk⟩ := hC
  exact fun H locs ls hl hP hD hS => lv_iinc hx hb hd hl hk (by rw [hv]) hn hl2 (fun ls hl => k H locs ls hl hP hD hS)
theorem j_sub {K : Kx} {nL : Nat} {ws : St → va_W} {Q : State → Prop} {pc : Nat} {lv lv2 : List (Nat × Value)} {st : List Value} {σ : St} (ks : List Nat) (hl2 : lv_pick lv ks = lv2) (k : J K ws nL Q (pc) lv2 (st) σ) : J K ws nL Q (pc) lv (st) σ := by
  obtain ⟨p, l, e, R, s, m, args, below, meth, c, D, A⟩ := K
  exact fun H locs ls hl hP hD hS => k H locs ls (lv_sub hl ks hl2) hP hD hS
def imax (x y : Int32) : Int32 := if x < y then y else x
theorem j_max {K : Kx} {cc : ByteArray} {own : String} {g : Gm} {nL d : Nat} {ret : Option FieldType} {ws : St → va_W} {Q : State → Prop} {pc : Nat} {lv : List (Nat × Value)} {st : List Value} {σ : St} (hC : Ok K cc own g nL d ret) {x y : Int32} {ix : Nat} (w1 : Cond.methodLink own ix Lib.Math.max.name ∈ GW) (w2 : Cond.static Lib.Math.max.name ∈ GW) (w3 : Cond.initialized "java/lang/Math" ∈ GW) (w4 : Cond.code Lib.Math.max.name Lib.Math.max.code 2 (some .int) ∈ GW) (hd0 : 1 ≤ d) (hcat : (st.map fun v => v.category).sum ≤ 8) (hd : decode cc pc = .ok (.invokestatic ix, 3)) (k : J K ws nL Q (pc + 3) lv (.int (imax x y) :: st) σ) : J K ws nL Q (pc) lv (.int y :: .int x :: st) σ := by
  obtain ⟨p, l, e, R, s, m, args, below, meth, c, D, A⟩ := K
  obtain ⟨hx, hb, hml, hown, hts, hK, hA, hSF, hR, hr, hlk⟩ := hC
  exact fun H locs ls hl hP hD hS => va_mmax hx hb (by rw [hml]; exact hl.1.symm) hown (hts _ w1) (hts _ w2) (hts _ w3) (hts _ w4) (by rw [hR]; first | exact hd0 | exact Nat.le_refl _) (by rw [hR]; show _ ≤ 100 * d; omega) (Nat.zero_le _) (Nat.zero_le _) hd (k H locs ls hl hP hD hS)
def imin (x y : Int32) : Int32 := if y < x then y else x
theorem j_min {K : Kx} {cc : ByteArray} {own : String} {g : Gm} {nL d : Nat} {ret : Option FieldType} {ws : St → va_W} {Q : State → Prop} {pc : Nat} {lv : List (Nat × Value)} {st : List Value} {σ : St} (hC : Ok K cc own g nL d ret) {x y : Int32} {ix : Nat} (w1 : Cond.methodLink own ix Lib.Math.min.name ∈ GW) (w2 : Cond.static Lib.Math.min.name ∈ GW) (w3 : Cond.initialized "java/lang/Math" ∈ GW) (w4 : Cond.code Lib.Math.min.name Lib.Math.min.code 2 (some .int) ∈ GW) (hd0 : 1 ≤ d) (hcat : (st.map fun v => v.category).sum ≤ 8) (hd : decode cc pc = .ok (.invokestatic ix, 3)) (k : J K ws nL Q (pc + 3) lv (.int (imin x y) :: st) σ) : J K ws nL Q (pc) lv (.int y :: .int x :: st) σ := by
  obtain ⟨p, l, e, R, s, m, args, below, meth, c, D, A⟩ := K
  obtain ⟨hx, hb, hml, hown, hts, hK, hA, hSF, hR, hr, hlk⟩ := hC
  exact fun H locs ls hl hP hD hS => va_mmin hx hb (by rw [hml]; exact hl.1.symm) hown (hts _ w1) (hts _ w2) (hts _ w3) (hts _ w4) (by rw [hR]; first | exact hd0 | exact Nat.le_refl _) (by rw [hR]; show _ ≤ 100 * d; omega) (Nat.zero_le _) (Nat.zero_le _) hd (k H locs ls hl hP hD hS)
def iabs (x : Int32) : Int32 := if 0 ≤ x then x else 0 - x
theorem j_abs {K : Kx} {cc : ByteArray} {own : String} {g : Gm} {nL d : Nat} {ret : Option FieldType} {ws : St → va_W} {Q : State → Prop} {pc : Nat} {lv : List (Nat × Value)} {st : List Value} {σ : St} (hC : Ok K cc own g nL d ret) {x : Int32} {ix : Nat} (w1 : Cond.methodLink own ix Lib.Math.abs.name ∈ GW) (w2 : Cond.static Lib.Math.abs.name ∈ GW) (w3 : Cond.initialized "java/lang/Math" ∈ GW) (w4 : Cond.code Lib.Math.abs.name Lib.Math.abs.code 1 (some .int) ∈ GW) (hd0 : 1 ≤ d) (hcat : (st.map fun v => v.category).sum ≤ 8) (hd : decode cc pc = .ok (.invokestatic ix, 3)) (k : J K ws nL Q (pc + 3) lv (.int (iabs x) :: st) σ) : J K ws nL Q (pc) lv (.int x :: st) σ := by
  obtain ⟨p, l, e, R, s, m, args, below, meth, c, D, A⟩ := K
  obtain ⟨hx, hb, hml, hown, hts, hK, hA, hSF, hR, hr, hlk⟩ := hC
  exact fun H locs ls hl hP hD hS => va_mabs hx hb (by rw [hml]; exact hl.1.symm) hown (hts _ w1) (hts _ w2) (hts _ w3) (hts _ w4) (by rw [hR]; first | exact hd0 | exact Nat.le_refl _) (by rw [hR]; show _ ≤ 100 * d; omega) (Nat.zero_le _) (Nat.zero_le _) hd (k H locs ls hl hP hD hS)
theorem j_iret {K : Kx} {cc : ByteArray} {own : String} {g : Gm} {nL d : Nat} {ty : FieldType} {ws : St → va_W} {pc : Nat} {lv : List (Nat × Value)} {σ : St} {v : Int32} {o : Int32 × St} (hC : Ok K cc own g nL d (some ty)) (hd : decode cc pc = .ok (.ireturn, 1)) (hn : narrow ty (.int v) = .int v) (h : some (v, σ) = some o) : J K ws nL (QI K g ws o) pc lv [.int v] σ := by
  obtain ⟨p, l, e, R, s, m, args, below, meth, c, D, A⟩ := K
  obtain ⟨hx, hb, hml, hown, hts, hK, hA, hSF, hR, hr, hlk⟩ := hC
  cases h
  exact fun H locs ls hl hP hD hS => W.zret (ty := ty) hx hb hr hn (fun t ht hW => ⟨⟨v, σ, rfl, rfl, by rw [ht]; exact hP, va_K.moved hW.alike hK, hD⟩, hS.F ht⟩) hS.2.2 hd hlk
theorem j_vret {K : Kx} {cc : ByteArray} {own : String} {g : Gm} {nL d : Nat} {ws : St → va_W} {pc : Nat} {lv : List (Nat × Value)} {σ : St} {v : Int32} {o : Int32 × St} (hC : Ok K cc own g nL d none) (hd : decode cc pc = .ok (.return_, 1)) (h : some (v, σ) = some o) : J K ws nL (QV K g ws o) pc lv [] σ := by
  obtain ⟨p, l, e, R, s, m, args, below, meth, c, D, A⟩ := K
  obtain ⟨hx, hb, hml, hown, hts, hK, hA, hSF, hR, hr, hlk⟩ := hC
  cases h
  exact fun H locs ls hl hP hD hS => W.vret hx hb hr (fun t ht hW => ⟨⟨σ, rfl, rfl, by rw [ht]; exact hP, va_K.moved hW.alike hK, hD⟩, hS.F ht⟩) hS.2.2 hd hlk
theorem j_lret {K : Kx} {cc : ByteArray} {own : String} {g : Gm} {nL d : Nat} {ws : St → va_W} {pc : Nat} {lv : List (Nat × Value)} {σ : St} {v : Int64} {o : Int64 × St} (hC : Ok K cc own g nL d (some .long)) (hd : decode cc pc = .ok (.lreturn, 1)) (h : some (v, σ) = some o) : J K ws nL (QL K g ws o) pc lv [.long v] σ := by
  obtain ⟨p, l, e, R, s, m, args, below, meth, c, D, A⟩ := K
  obtain ⟨hx, hb, hml, hown, hts, hK, hA, hSF, hR, hr, hlk⟩ := hC
  cases h
  exact fun H locs ls hl hP hD hS => W.lret hx hb hr (fun t ht hW => ⟨⟨v, σ, rfl, rfl, by rw [ht]; exact hP, va_K.moved hW.alike hK, hD⟩, hS.F ht⟩) hS.2.2 hd hlk
theorem freeW {A0 : Nat → Prop} {w : va_W} {H0 H : Heap} {locs : List Loc} (hD : va_D A0 w) (hS : va_S A0 H0 H locs) (hA : ∀ q : Nat, H0.size ≤ q → A0 q) : ∀ q : Nat, va_A w H.size q → A0 q := by
  intro q h
  rcases h with ⟨k, e, h⟩ | h
  · exact hD.2 k _ h
  · exact hA q (Nat.le_trans hS.1 h)
theorem SF.next {g : Gm} {A B : Nat → Prop} {s U : State} {H : Heap} {locs : List Loc} (h : SF g A s) (hA : ∀ q : Nat, s.heap.size ≤ q → A q) (hS : va_S A s.heap H locs) (hAB : ∀ q, B q → A q) (hU : U.heap = H) (hvm : s.vm.Alike U.vm) : SF g B U := by
  obtain ⟨h1, h2, h3⟩ := h
  refine ⟨h1, h2.trans hvm, fun a ha => ⟨fun q => (h3 a ha).1 (hAB a q), ?_⟩⟩
  have hlt : a < s.heap.size := Nat.lt_of_not_le (fun q => (h3 a ha).1 (hA a q))
  rw [hU, hS.2.1 a hlt (h3 a ha).1]
  exact (h3 a ha).2
theorem preW_blind {g : Gm} {ws : St → va_W} {D : va_G} {sz : Nat} {σ : St} {av : List Value} : FrameBlind (va_Pc av (PreW g ws D sz σ)) := by
  intro a U gf mk h
  obtain ⟨q0, q1, q2, q3, q4, q5, q6, q7⟩ := h
  exact ⟨q0, q1, q2, va_K.moved (u := U) (U := U.calling gf mk a) (Vm.Alike.refl U.vm) q3, q4, q5, q6, q7⟩
theorem j_callVi {K : Kx} {cc : ByteArray} {own : String} {g : Gm} {nL d : Nat} {ret : Option FieldType} {ws : St → va_W} {Q : State → Prop} {pc : Nat} {lv : List (Nat × Value)} {st : List Value} {σ : St} (hC : Ok K cc own g nL d ret) {y : MethodName} {c2 : ByteArray} {n2 d2 ix : Nat} {ret2 : Option FieldType} {As : List Value} {r : Int32} {σ2 : St} {stk : List Value} {C : String} {b q0 ci : Nat} {fs : List Value} {Tc : u_T} {nc : Nat} (hM : ∀ (l : Launch) (D : va_G), MI l y c2 n2 ret2 d2 D g ws (.ref b :: As) σ (r, σ2)) (hdd : d2 < d) (hn2 : n2 ≤ 70) (w1 : Cond.methodLink own ix y ∈ GW) (w2 : Cond.instanceMethod y ∈ GW) (w3 : Cond.selects C y y ∈ GW) (w4 : Cond.initialized C ∈ GW) (w5 : Cond.code y c2 n2 ret2 ∈ GW) (hyC : y.cls = C) (hy : y.cls ≠ "java/lang/invoke/MethodHandle" ∧ y.cls ≠ "java/lang/invoke/VarHandle" ∧ (parseMethodDescriptor y.desc).map (fun d => d.parameters.length) = some As.length) (hc : vwCl[ci]? = some (C, Tc, nc)) (he : (ws σ)[q0]? = some (b, .inr (ci, fs))) (hcat : (st.map fun v => v.category).sum ≤ 8) (hst : stk = As.reverse ++ .ref b :: st) (hd : decode cc pc = .ok (.invokevirtual ix, 3)) (k : J K ws nL Q (pc + 3) lv (.int r :: st) σ2) : J K ws nL Q (pc) lv (stk) σ := by
  obtain ⟨p, l, e, R, s, m, args, below, meth, c, D, A⟩ := K
  obtain ⟨hx, hb, hml, hown, hts, hK, hA, hSF, hR, hr, hlk⟩ := hC
  subst hst
  intro H locs ls hl hP hD hS
  have hF := freeW hD hS hA
  have hG : GoodIn GW (wsV own ix C y (Cond.code y c2 n2 ret2 :: GW)) := by
    intro w hw
    rcases List.mem_append.mp hw with h | h
    · rcases List.mem_cons.mp h with rfl | h
      · exact goodG1 w1
      rcases List.mem_cons.mp h with rfl | h
      · exact goodG1 w2
      rcases List.mem_cons.mp h with rfl | h
      · exact goodG1 w3
      rcases List.mem_cons.mp h with rfl | h
      · exact goodG1 w4
      · cases h
    · rcases List.mem_cons.mp h with rfl | h
      · exact goodG1 w5
      · exact goodG1 h
  refine va_calli (va_runV (As := As) (rest := st) ⟨hx, hb, hml, hown, hts⟩ (hM l D H.size) (cwV As.length hts hG rfl rfl rfl ⟨hyC, hy⟩ ⟨by rw [hR]; exact hdd, by rw [hR]; show 8 + (n2 + 11) + 100 * d2 ≤ 100 * d; omega⟩) ⟨preW_blind, va_recv hK hP hc he, fun U hU hW => ⟨rfl, by rw [hU], by rw [hU]; exact hP, va_K.moved hW.alike hK, hD.weaken (fun _ _ _ _ => trivial), hSF.next hA hS hF hU hW.alike⟩⟩ rfl rfl hl.1 rfl (lv_room hcat) hd ⟨Nat.zero_le _, Nat.zero_le _⟩) hS (fun q _ h => hF q h) hF ?_
  · intro r9 u t H1 locs1 ht hvm hw hB hz1 hk1 hS1
    obtain ⟨rfl, rfl⟩ := Prod.mk.inj hw
    obtain ⟨hP1, hK1, hD1⟩ := hB
    exact k H1 locs1 ls hl (by rw [← ht]; exact hP1) (hD1.weaken (fun _ q _ h => hF q.1 h)) hS1
theorem j_callSi {K : Kx} {cc : ByteArray} {own : String} {g : Gm} {nL d : Nat} {ret : Option FieldType} {ws : St → va_W} {Q : State → Prop} {pc : Nat} {lv : List (Nat × Value)} {st : List Value} {σ : St} (hC : Ok K cc own g nL d ret) {y : MethodName} {c2 : ByteArray} {n2 d2 ix : Nat} {ret2 : Option FieldType} {As : List Value} {r : Int32} {σ2 : St} {stk : List Value} (hM : ∀ (l : Launch) (D : va_G), MI l y c2 n2 ret2 d2 D g ws (As) σ (r, σ2)) (hdd : d2 < d) (hn2 : n2 ≤ 70) (w1 : Cond.methodLink own ix y ∈ GW) (w2 : Cond.static y ∈ GW) (w4 : Cond.initialized y.cls ∈ GW) (w5 : Cond.code y c2 n2 ret2 ∈ GW) (hy : y.cls ≠ "java/lang/invoke/MethodHandle" ∧ y.cls ≠ "java/lang/invoke/VarHandle" ∧ (parseMethodDescriptor y.desc).map (fun d => d.parameters.length) = some As.length) (hcat : (st.map fun v => v.category).sum ≤ 8) (hst : stk = As.reverse ++ st) (hd : decode cc pc = .ok (.invokestatic ix, 3)) (k : J K ws nL Q (pc + 3) lv (.int r :: st) σ2) : J K ws nL Q (pc) lv (stk) σ := by
  obtain ⟨p, l, e, R, s, m, args, below, meth, c, D, A⟩ := K
  obtain ⟨hx, hb, hml, hown, hts, hK, hA, hSF, hR, hr, hlk⟩ := hC
  subst hst
  intro H locs ls hl hP hD hS
  have hF := freeW hD hS hA
  have hG : GoodIn GW (va_wsS own ix y (Cond.code y c2 n2 ret2 :: GW)) := by
    intro w hw
    rcases List.mem_append.mp hw with h | h
    · rcases List.mem_cons.mp h with rfl | h
      · exact goodG1 w1
      rcases List.mem_cons.mp h with rfl | h
      · exact goodG1 w2
      rcases List.mem_cons.mp h with rfl | h
      · exact goodG1 w4
      · cases h
    · rcases List.mem_cons.mp h with rfl | h
      · exact goodG1 w5
      · exact goodG1 h
  refine va_calli (va_runS (As := As) (rest := st) ⟨hx, hb, hml, hown, hts⟩ (hM l D H.size) (va_cwS As.length hts hG rfl rfl rfl hy ⟨by rw [hR]; exact hdd, by rw [hR]; show 8 + (n2 + 11) + 100 * d2 ≤ 100 * d; omega⟩) ⟨preW_blind, fun U hU hW => ⟨rfl, by rw [hU], by rw [hU]; exact hP, va_K.moved hW.alike hK, hD.weaken (fun _ _ _ _ => trivial), hSF.next hA hS hF hU hW.alike⟩⟩ rfl rfl hl.1 rfl (lv_room hcat) hd ⟨Nat.zero_le _, Nat.zero_le _⟩) hS (fun q _ h => hF q h) hF ?_
  · intro r9 u t H1 locs1 ht hvm hw hB hz1 hk1 hS1
    obtain ⟨rfl, rfl⟩ := Prod.mk.inj hw
    obtain ⟨hP1, hK1, hD1⟩ := hB
    exact k H1 locs1 ls hl (by rw [← ht]; exact hP1) (hD1.weaken (fun _ q _ h => hF q.1 h)) hS1
theorem j_callVv {K : Kx} {cc : ByteArray} {own : String} {g : Gm} {nL d : Nat} {ret : Option FieldType} {ws : St → va_W} {Q : State → Prop} {pc : Nat} {lv : List (Nat × Value)} {st : List Value} {σ : St} (hC : Ok K cc own g nL d ret) {y : MethodName} {c2 : ByteArray} {n2 d2 ix : Nat} {ret2 : Option FieldType} {As : List Value} {r : Int32} {σ2 : St} {stk : List Value} {C : String} {b q0 ci : Nat} {fs : List Value} {Tc : u_T} {nc : Nat} (hM : ∀ (l : Launch) (D : va_G), MV l y c2 n2 ret2 d2 D g ws (.ref b :: As) σ (r, σ2)) (hdd : d2 < d) (hn2 : n2 ≤ 70) (w1 : Cond.methodLink own ix y ∈ GW) (w2 : Cond.instanceMethod y ∈ GW) (w3 : Cond.selects C y y ∈ GW) (w4 : Cond.initialized C ∈ GW) (w5 : Cond.code y c2 n2 ret2 ∈ GW) (hyC : y.cls = C) (hy : y.cls ≠ "java/lang/invoke/MethodHandle" ∧ y.cls ≠ "java/lang/invoke/VarHandle" ∧ (parseMethodDescriptor y.desc).map (fun d => d.parameters.length) = some As.length) (hc : vwCl[ci]? = some (C, Tc, nc)) (he : (ws σ)[q0]? = some (b, .inr (ci, fs))) (hcat : (st.map fun v => v.category).sum ≤ 8) (hst : stk = As.reverse ++ .ref b :: st) (hd : decode cc pc = .ok (.invokevirtual ix, 3)) (k : J K ws nL Q (pc + 3) lv (st) σ2) : J K ws nL Q (pc) lv (stk) σ := by
  obtain ⟨p, l, e, R, s, m, args, below, meth, c, D, A⟩ := K
  obtain ⟨hx, hb, hml, hown, hts, hK, hA, hSF, hR, hr, hlk⟩ := hC
  subst hst
  intro H locs ls hl hP hD hS
  have hF := freeW hD hS hA
  have hG : GoodIn GW (wsV own ix C y (Cond.code y c2 n2 ret2 :: GW)) := by
    intro w hw
    rcases List.mem_append.mp hw with h | h
    · rcases List.mem_cons.mp h with rfl | h
      · exact goodG1 w1
      rcases List.mem_cons.mp h with rfl | h
      · exact goodG1 w2
      rcases List.mem_cons.mp h with rfl | h
      · exact goodG1 w3
      rcases List.mem_cons.mp h with rfl | h
      · exact goodG1 w4
      · cases h
    · rcases List.mem_cons.mp h with rfl | h
      · exact goodG1 w5
      · exact goodG1 h
  refine va_callv (va_runV (As := As) (rest := st) ⟨hx, hb, hml, hown, hts⟩ (hM l D H.size) (cwV As.length hts hG rfl rfl rfl ⟨hyC, hy⟩ ⟨by rw [hR]; exact hdd, by rw [hR]; show 8 + (n2 + 11) + 100 * d2 ≤ 100 * d; omega⟩) ⟨preW_blind, va_recv hK hP hc he, fun U hU hW => ⟨rfl, by rw [hU], by rw [hU]; exact hP, va_K.moved hW.alike hK, hD.weaken (fun _ _ _ _ => trivial), hSF.next hA hS hF hU hW.alike⟩⟩ rfl rfl hl.1 rfl (lv_room hcat) hd ⟨Nat.zero_le _, Nat.zero_le _⟩) hS (fun q _ h => hF q h) hF ?_
  · intro u t H1 locs1 ht hvm hw hB hz1 hk1 hS1
    have hw : u = σ2 := hw
    subst hw
    obtain ⟨hP1, hK1, hD1⟩ := hB
    exact k H1 locs1 ls hl (by rw [← ht]; exact hP1) (hD1.weaken (fun _ q _ h => hF q.1 h)) hS1
theorem j_callSv {K : Kx} {cc : ByteArray} {own : String} {g : Gm} {nL d : Nat} {ret : Option FieldType} {ws : St → va_W} {Q : State → Prop} {pc : Nat} {lv : List (Nat × Value)} {st : List Value} {σ : St} (hC : Ok K cc own g nL d ret) {y : MethodName} {c2 : ByteArray} {n2 d2 ix : Nat} {ret2 : Option FieldType} {As : List Value} {r : Int32} {σ2 : St} {stk : List Value} (hM : ∀ (l : Launch) (D : va_G), MV l y c2 n2 ret2 d2 D g ws (As) σ (r, σ2)) (hdd : d2 < d) (hn2 : n2 ≤ 70) (w1 : Cond.methodLink own ix y ∈ GW) (w2 : Cond.static y ∈ GW) (w4 : Cond.initialized y.cls ∈ GW) (w5 : Cond.code y c2 n2 ret2 ∈ GW) (hy : y.cls ≠ "java/lang/invoke/MethodHandle" ∧ y.cls ≠ "java/lang/invoke/VarHandle" ∧ (parseMethodDescriptor y.desc).map (fun d => d.parameters.length) = some As.length) (hcat : (st.map fun v => v.category).sum ≤ 8) (hst : stk = As.reverse ++ st) (hd : decode cc pc = .ok (.invokestatic ix, 3)) (k : J K ws nL Q (pc + 3) lv (st) σ2) : J K ws nL Q (pc) lv (stk) σ := by
  obtain ⟨p, l, e, R, s, m, args, below, meth, c, D, A⟩ := K
  obtain ⟨hx, hb, hml, hown, hts, hK, hA, hSF, hR, hr, hlk⟩ := hC
  subst hst
  intro H locs ls hl hP hD hS
  have hF := freeW hD hS hA
  have hG : GoodIn GW (va_wsS own ix y (Cond.code y c2 n2 ret2 :: GW)) := by
    intro w hw
    rcases List.mem_append.mp hw with h | h
    · rcases List.mem_cons.mp h with rfl | h
      · exact goodG1 w1
      rcases List.mem_cons.mp h with rfl | h
      · exact goodG1 w2
      rcases List.mem_cons.mp h with rfl | h
      · exact goodG1 w4
      · cases h
    · rcases List.mem_cons.mp h with rfl | h
      · exact goodG1 w5
      · exact goodG1 h
  refine va_callv (va_runS (As := As) (rest := st) ⟨hx, hb, hml, hown, hts⟩ (hM l D H.size) (va_cwS As.length hts hG rfl rfl rfl hy ⟨by rw [hR]; exact hdd, by rw [hR]; show 8 + (n2 + 11) + 100 * d2 ≤ 100 * d; omega⟩) ⟨preW_blind, fun U hU hW => ⟨rfl, by rw [hU], by rw [hU]; exact hP, va_K.moved hW.alike hK, hD.weaken (fun _ _ _ _ => trivial), hSF.next hA hS hF hU hW.alike⟩⟩ rfl rfl hl.1 rfl (lv_room hcat) hd ⟨Nat.zero_le _, Nat.zero_le _⟩) hS (fun q _ h => hF q h) hF ?_
  · intro u t H1 locs1 ht hvm hw hB hz1 hk1 hS1
    have hw : u = σ2 := hw
    subst hw
    obtain ⟨hP1, hK1, hD1⟩ := hB
    exact k H1 locs1 ls hl (by rw [← ht]; exact hP1) (hD1.weaken (fun _ q _ h => hF q.1 h)) hS1
theorem j_callVl {K : Kx} {cc : ByteArray} {own : String} {g : Gm} {nL d : Nat} {ret : Option FieldType} {ws : St → va_W} {Q : State → Prop} {pc : Nat} {lv : List (Nat × Value)} {st : List Value} {σ : St} (hC : Ok K cc own g nL d ret) {y : MethodName} {c2 : ByteArray} {n2 d2 ix : Nat} {ret2 : Option FieldType} {As : List Value} {r : Int64} {σ2 : St} {stk : List Value} {C : String} {b q0 ci : Nat} {fs : List Value} {Tc : u_T} {nc : Nat} (hM : ∀ (l : Launch) (D : va_G), ML l y c2 n2 ret2 d2 D g ws (.ref b :: As) σ (r, σ2)) (hdd : d2 < d) (hn2 : n2 ≤ 70) (w1 : Cond.methodLink own ix y ∈ GW) (w2 : Cond.instanceMethod y ∈ GW) (w3 : Cond.selects C y y ∈ GW) (w4 : Cond.initialized C ∈ GW) (w5 : Cond.code y c2 n2 ret2 ∈ GW) (hyC : y.cls = C) (hy : y.cls ≠ "java/lang/invoke/MethodHandle" ∧ y.cls ≠ "java/lang/invoke/VarHandle" ∧ (parseMethodDescriptor y.desc).map (fun d => d.parameters.length) = some As.length) (hc : vwCl[ci]? = some (C, Tc, nc)) (he : (ws σ)[q0]? = some (b, .inr (ci, fs))) (hcat : (st.map fun v => v.category).sum ≤ 8) (hst : stk = As.reverse ++ .ref b :: st) (hd : decode cc pc = .ok (.invokevirtual ix, 3)) (k : J K ws nL Q (pc + 3) lv (.long r :: st) σ2) : J K ws nL Q (pc) lv (stk) σ := by
  obtain ⟨p, l, e, R, s, m, args, below, meth, c, D, A⟩ := K
  obtain ⟨hx, hb, hml, hown, hts, hK, hA, hSF, hR, hr, hlk⟩ := hC
  subst hst
  intro H locs ls hl hP hD hS
  have hF := freeW hD hS hA
  have hG : GoodIn GW (wsV own ix C y (Cond.code y c2 n2 ret2 :: GW)) := by
    intro w hw
    rcases List.mem_append.mp hw with h | h
    · rcases List.mem_cons.mp h with rfl | h
      · exact goodG1 w1
      rcases List.mem_cons.mp h with rfl | h
      · exact goodG1 w2
      rcases List.mem_cons.mp h with rfl | h
      · exact goodG1 w3
      rcases List.mem_cons.mp h with rfl | h
      · exact goodG1 w4
      · cases h
    · rcases List.mem_cons.mp h with rfl | h
      · exact goodG1 w5
      · exact goodG1 h
  refine va_calll (va_runV (As := As) (rest := st) ⟨hx, hb, hml, hown, hts⟩ (hM l D H.size) (cwV As.length hts hG rfl rfl rfl ⟨hyC, hy⟩ ⟨by rw [hR]; exact hdd, by rw [hR]; show 8 + (n2 + 11) + 100 * d2 ≤ 100 * d; omega⟩) ⟨preW_blind, va_recv hK hP hc he, fun U hU hW => ⟨rfl, by rw [hU], by rw [hU]; exact hP, va_K.moved hW.alike hK, hD.weaken (fun _ _ _ _ => trivial), hSF.next hA hS hF hU hW.alike⟩⟩ rfl rfl hl.1 rfl (lv_room hcat) hd ⟨Nat.zero_le _, Nat.zero_le _⟩) hS (fun q _ h => hF q h) hF ?_
  · intro r9 u t H1 locs1 ht hvm hw hB hz1 hk1 hS1
    obtain ⟨rfl, rfl⟩ := Prod.mk.inj hw
    obtain ⟨hP1, hK1, hD1⟩ := hB
    exact k H1 locs1 ls hl (by rw [← ht]; exact hP1) (hD1.weaken (fun _ q _ h => hF q.1 h)) hS1
theorem j_callSl {K : Kx} {cc : ByteArray} {own : String} {g : Gm} {nL d : Nat} {ret : Option FieldType} {ws : St → va_W} {Q : State → Prop} {pc : Nat} {lv : List (Nat × Value)} {st : List Value} {σ : St} (hC : Ok K cc own g nL d ret) {y : MethodName} {c2 : ByteArray} {n2 d2 ix : Nat} {ret2 : Option FieldType} {As : List Value} {r : Int64} {σ2 : St} {stk : List Value} (hM : ∀ (l : Launch) (D : va_G), ML l y c2 n2 ret2 d2 D g ws (As) σ (r, σ2)) (hdd : d2 < d) (hn2 : n2 ≤ 70) (w1 : Cond.methodLink own ix y ∈ GW) (w2 : Cond.static y ∈ GW) (w4 : Cond.initialized y.cls ∈ GW) (w5 : Cond.code y c2 n2 ret2 ∈ GW) (hy : y.cls ≠ "java/lang/invoke/MethodHandle" ∧ y.cls ≠ "java/lang/invoke/VarHandle" ∧ (parseMethodDescriptor y.desc).map (fun d => d.parameters.length) = some As.length) (hcat : (st.map fun v => v.category).sum ≤ 8) (hst : stk = As.reverse ++ st) (hd : decode cc pc = .ok (.invokestatic ix, 3)) (k : J K ws nL Q (pc + 3) lv (.long r :: st) σ2) : J K ws nL Q (pc) lv (stk) σ := by
  obtain ⟨p, l, e, R, s, m, args, below, meth, c, D, A⟩ := K
  obtain ⟨hx, hb, hml, hown, hts, hK, hA, hSF, hR, hr, hlk⟩ := hC
  subst hst
  intro H locs ls hl hP hD hS
  have hF := freeW hD hS hA
  have hG : GoodIn GW (va_wsS own ix y (Cond.code y c2 n2 ret2 :: GW)) := by
    intro w hw
    rcases List.mem_append.mp hw with h | h
    · rcases List.mem_cons.mp h with rfl | h
      · exact goodG1 w1
      rcases List.mem_cons.mp h with rfl | h
      · exact goodG1 w2
      rcases List.mem_cons.mp h with rfl | h
      · exact goodG1 w4
      · cases h
    · rcases List.mem_cons.mp h with rfl | h
      · exact goodG1 w5
      · exact goodG1 h
  refine va_calll (va_runS (As := As) (rest := st) ⟨hx, hb, hml, hown, hts⟩ (hM l D H.size) (va_cwS As.length hts hG rfl rfl rfl hy ⟨by rw [hR]; exact hdd, by rw [hR]; show 8 + (n2 + 11) + 100 * d2 ≤ 100 * d; omega⟩) ⟨preW_blind, fun U hU hW => ⟨rfl, by rw [hU], by rw [hU]; exact hP, va_K.moved hW.alike hK, hD.weaken (fun _ _ _ _ => trivial), hSF.next hA hS hF hU hW.alike⟩⟩ rfl rfl hl.1 rfl (lv_room hcat) hd ⟨Nat.zero_le _, Nat.zero_le _⟩) hS (fun q _ h => hF q h) hF ?_
  · intro r9 u t H1 locs1 ht hvm hw hB hz1 hk1 hS1
    obtain ⟨rfl, rfl⟩ := Prod.mk.inj hw
    obtain ⟨hP1, hK1, hD1⟩ := hB
    exact k H1 locs1 ls hl (by rw [← ht]; exact hP1) (hD1.weaken (fun _ q _ h => hF q.1 h)) hS1
/-! the pieces of which the functions are made -/
def bnd {α ρ : Type} (v : α) (f : α → Option ρ) : Option ρ := f v
def inB (i : Int32) (n : Nat) : Bool := decide (0 ≤ i.toInt) && decide (i.toInt < (n : Int))
theorem inB_in {i : Int32} {n : Nat} (h : inB i n = true) : vp_in i n := by
  unfold inB at h
  rw [Bool.and_eq_true, decide_eq_true_eq, decide_eq_true_eq] at h
  exact vp_in_iff.mpr h
def ald {ρ : Type} (σ : St) (a n : Nat) (i : Int32) (f : Int32 → Option ρ) : Option ρ := if inB i n = true then f (ga σ a i.toNatClampNeg) else none
def ast {ρ : Type} (σ : St) (a n : Nat) (i v : Int32) (f : St → Option ρ) : Option ρ := if inB i n = true then f (sa σ a i.toNatClampNeg v) else none
def cal {α ρ : Type} (o : Option (α × St)) (f : α → St → Option ρ) : Option ρ := match o with
  | none => none
  | some (r, u) => f r u
def chk {ρ : Type} (c : Bool) (f : Option ρ) : Option ρ := if c = true then f else none
theorem ald_some {ρ : Type} {σ : St} {a n : Nat} {i : Int32} {f : Int32 → Option ρ} {o : ρ} (h : ald σ a n i f = some o) : vp_in i n ∧ f (ga σ a i.toNatClampNeg) = some o := by
  unfold ald at h
  split at h
  · next q => exact ⟨inB_in q, h⟩
  · cases h
theorem ast_some {ρ : Type} {σ : St} {a n : Nat} {i v : Int32} {f : St → Option ρ} {o : ρ} (h : ast σ a n i v f = some o) : vp_in i n ∧ f (sa σ a i.toNatClampNeg v) = some o := by
  unfold ast at h
  split at h
  · next q => exact ⟨inB_in q, h⟩
  · cases h
theorem cal_some {α ρ : Type} {o : Option (α × St)} {f : α → St → Option ρ} {v : ρ} (h : cal o f = some v) : ∃ r u, o = some (r, u) ∧ f r u = some v := by
  cases o with
  | none => cases h
  | some q => exact ⟨q.1, q.2, rfl, h⟩
theorem chk_some {ρ : Type} {c : Bool} {f : Option ρ} {o : ρ} (h : chk c f = some o) : c = true ∧ f = some o := by
  unfold chk at h
  split at h
  · next q => exact ⟨q, h⟩
  · cases h
def isZ (v : Int32) : Bool := decide (v = 0) || decide (v = 1)
theorem isZ_nar {v : Int32} (h : isZ v = true) : narrow .boolean (.int v) = .int v := by
  unfold isZ at h
  rw [Bool.or_eq_true, decide_eq_true_eq, decide_eq_true_eq] at h
  rcases h with rfl | rfl <;> rfl
end
section
/-- the cells of the class -/
def wX (g : Gm) (σ : St) : va_W := [
  (g.1 0, .inr (6, [.ref (g.1 2), .ref (g.1 4), .ref (g.1 1), .ref (g.1 67), .ref (g.1 8), .ref (g.1 22), .ref (g.1 29)])),
  (g.1 1, .inl (g.2.2.2.2.1, 6, .inr (.inr (.inr (.inr (fun i => some (g.1 (37 + 5 * i)))))))),
  (g.1 2, .inr (5, [.ref (g.1 3), .int (gi σ 0), .int (gi σ 1), .int (gi σ 2), .int (gi σ 3), .int (gi σ 4), .int (gi σ 5), .int (gi σ 6), .int (gi σ 7)])),
  (g.1 3, .inl (g.2.2.1, 260, .inl (ga σ 0))),
  (g.1 4, .inr (3, [.ref (g.1 5), .ref (g.1 6), .ref (g.1 7), .int (gi σ 8)])),
  (g.1 5, .inl (g.2.1, 5, .inl (ga σ 1))),
  (g.1 6, .inl (g.2.1, 5, .inl (ga σ 2))),
  (g.1 7, .inl (g.2.2.2.1, 5, .inl (ga σ 3))),
  (g.1 8, .inr (4, [.int (gi σ 9), .ref (g.1 9), .ref (g.1 10), .ref (g.1 11), .ref (g.1 12), .ref (g.1 13), .ref (g.1 14), .ref (g.1 15), .ref (g.1 16), .ref (g.1 17), .ref (g.1 18), .ref (g.1 19), .ref (g.1 20), .ref (g.1 21)])),
  (g.1 9, .inl (g.2.1, 24, .inl (ga σ 4))),
  (g.1 10, .inl (g.2.1, 24, .inl (ga σ 5))),
  (g.1 11, .inl (g.2.1, 24, .inl (ga σ 6))),
  (g.1 12, .inl (g.2.1, 24, .inl (ga σ 7))),
  (g.1 13, .inl (g.2.1, 24, .inl (ga σ 8))),
  (g.1 14, .inl (g.2.1, 24, .inl (ga σ 9))),
  (g.1 15, .inl (g.2.1, 24, .inl (ga σ 10))),
  (g.1 16, .inl (g.2.1, 24, .inl (ga σ 11))),
  (g.1 17, .inl (g.2.1, 24, .inl (ga σ 12))),
  (g.1 18, .inl (g.2.1, 12, .inl (ga σ 13))),
  (g.1 19, .inl (g.2.1, 24, .inl (ga σ 14))),
  (g.1 20, .inl (g.2.1, 24, .inl (ga σ 15))),
  (g.1 21, .inl (g.2.2.1, 240, .inl (ga σ 16))),
  (g.1 22, .inr (1, [.int (gi σ 10), .int (gi σ 11), .int (gi σ 12), .int (gi σ 13), .ref (g.1 23), .ref (g.1 24), .ref (g.1 25), .ref (g.1 26), .ref (g.1 27), .ref (g.1 28)])),
  (g.1 23, .inl (g.2.1, 168, .inl (ga σ 17))),
  (g.1 24, .inl (g.2.1, 1344, .inl (ga σ 18))),
  (g.1 25, .inl (g.2.1, 300, .inl (ga σ 19))),
  (g.1 26, .inl (g.2.1, 300, .inl (ga σ 20))),
  (g.1 27, .inl (g.2.1, 300, .inl (ga σ 21))),
  (g.1 28, .inl (g.2.1, 300, .inl (ga σ 22))),
  (g.1 29, .inr (2, [.ref (g.1 30), .int (gi σ 14), .int (gi σ 15), .int (gi σ 16), .ref (g.1 31), .ref (g.1 32), .ref (g.1 33), .ref (g.1 34), .ref (g.1 35), .ref (g.1 36), .int (gi σ 17), .int (gi σ 18), .int (gi σ 19), .int (gi σ 20), .int (gi σ 21), .int (gi σ 22), .int (gi σ 23), .int (gi σ 24), .int (gi σ 25), .int (gi σ 26)])),
  (g.1 30, .inl (g.2.1, 4, .inl (ga σ 23))),
  (g.1 31, .inl (g.2.1, 4, .inl (ga σ 24))),
  (g.1 32, .inl (g.2.1, 24, .inl (ga σ 25))),
  (g.1 33, .inl (g.2.1, 24, .inl (ga σ 26))),
  (g.1 34, .inl (g.2.1, 12, .inl (ga σ 27))),
  (g.1 35, .inl (g.2.1, 24, .inl (ga σ 28))),
  (g.1 36, .inl (g.2.1, 24, .inl (ga σ 29))),
  (g.1 37, .inr (0, [.int (gi σ 27), .int (gi σ 28), .ref (g.1 38), .ref (g.1 39), .ref (g.1 40), .ref (g.1 41), .int (gi σ 29)])),
  (g.1 38, .inl (g.2.1, 8, .inl (ga σ 30))),
  (g.1 39, .inl (g.2.1, 8, .inl (ga σ 31))),
  (g.1 40, .inl (g.2.1, 8, .inl (ga σ 32))),
  (g.1 41, .inl (g.2.2.2.1, 8, .inl (ga σ 33))),
  (g.1 42, .inr (0, [.int (gi σ 30), .int (gi σ 31), .ref (g.1 43), .ref (g.1 44), .ref (g.1 45), .ref (g.1 46), .int (gi σ 32)])),
  (g.1 43, .inl (g.2.1, 8, .inl (ga σ 34))),
  (g.1 44, .inl (g.2.1, 8, .inl (ga σ 35))),
  (g.1 45, .inl (g.2.1, 8, .inl (ga σ 36))),
  (g.1 46, .inl (g.2.2.2.1, 8, .inl (ga σ 37))),
  (g.1 47, .inr (0, [.int (gi σ 33), .int (gi σ 34), .ref (g.1 48), .ref (g.1 49), .ref (g.1 50), .ref (g.1 51), .int (gi σ 35)])),
  (g.1 48, .inl (g.2.1, 8, .inl (ga σ 38))),
  (g.1 49, .inl (g.2.1, 8, .inl (ga σ 39))),
  (g.1 50, .inl (g.2.1, 8, .inl (ga σ 40))),
  (g.1 51, .inl (g.2.2.2.1, 8, .inl (ga σ 41))),
  (g.1 52, .inr (0, [.int (gi σ 36), .int (gi σ 37), .ref (g.1 53), .ref (g.1 54), .ref (g.1 55), .ref (g.1 56), .int (gi σ 38)])),
  (g.1 53, .inl (g.2.1, 8, .inl (ga σ 42))),
  (g.1 54, .inl (g.2.1, 8, .inl (ga σ 43))),
  (g.1 55, .inl (g.2.1, 8, .inl (ga σ 44))),
  (g.1 56, .inl (g.2.2.2.1, 8, .inl (ga σ 45))),
  (g.1 57, .inr (0, [.int (gi σ 39), .int (gi σ 40), .ref (g.1 58), .ref (g.1 59), .ref (g.1 60), .ref (g.1 61), .int (gi σ 41)])),
  (g.1 58, .inl (g.2.1, 8, .inl (ga σ 46))),
  (g.1 59, .inl (g.2.1, 8, .inl (ga σ 47))),
  (g.1 60, .inl (g.2.1, 8, .inl (ga σ 48))),
  (g.1 61, .inl (g.2.2.2.1, 8, .inl (ga σ 49))),
  (g.1 62, .inr (0, [.int (gi σ 42), .int (gi σ 43), .ref (g.1 63), .ref (g.1 64), .ref (g.1 65), .ref (g.1 66), .int (gi σ 44)])),
  (g.1 63, .inl (g.2.1, 8, .inl (ga σ 50))),
  (g.1 64, .inl (g.2.1, 8, .inl (ga σ 51))),
  (g.1 65, .inl (g.2.1, 8, .inl (ga σ 52))),
  (g.1 66, .inl (g.2.2.2.1, 8, .inl (ga σ 53))),
  (g.1 67, .inr (0, [.int (gi σ 45), .int (gi σ 46), .ref (g.1 68), .ref (g.1 69), .ref (g.1 70), .ref (g.1 71), .int (gi σ 47)])),
  (g.1 68, .inl (g.2.1, 8, .inl (ga σ 54))),
  (g.1 69, .inl (g.2.1, 8, .inl (ga σ 55))),
  (g.1 70, .inl (g.2.1, 8, .inl (ga σ 56))),
  (g.1 71, .inl (g.2.2.2.1, 8, .inl (ga σ 57)))]
/-- the cells of the reference -/
def wM (g : Gm) (σ : St) : va_W := [
  (g.1 0, .inr (7, [.int (gi σ 0), .ref (g.1 1), .int (gi σ 1), .int (gi σ 2), .int (gi σ 3), .int (gi σ 4), .int (gi σ 5), .int (gi σ 6), .int (gi σ 7), .int (gi σ 8), .int (gi σ 9), .int (gi σ 10), .long (gl σ), .ref (g.1 2), .ref (g.1 3), .ref (g.1 4), .ref (g.1 5), .ref (g.1 6), .ref (g.1 7), .ref (g.1 8), .ref (g.1 9), .ref (g.1 10), .int (gi σ 11), .ref (g.1 11), .ref (g.1 12), .ref (g.1 13), .ref (g.1 14), .ref (g.1 15), .ref (g.1 16), .ref (g.1 17), .ref (g.1 18), .ref (g.1 19), .ref (g.1 20), .int (gi σ 12), .ref (g.1 21), .ref (g.1 22), .ref (g.1 23), .ref (g.1 24), .int (gi σ 13), .int (gi σ 14), .int (gi σ 15), .int (gi σ 16), .ref (g.1 25), .ref (g.1 26), .ref (g.1 27), .ref (g.1 28), .ref (g.1 29), .ref (g.1 30), .int (gi σ 17), .int (gi σ 18), .int (gi σ 19), .int (gi σ 20), .int (gi σ 21), .ref (g.1 31)])),
  (g.1 1, .inl (g.2.1, 260, .inl (ga σ 0))),
  (g.1 2, .inl (g.2.1, 5, .inl (ga σ 1))),
  (g.1 3, .inl (g.2.1, 5, .inl (ga σ 2))),
  (g.1 4, .inl (g.2.1, 5, .inl (ga σ 3))),
  (g.1 5, .inl (g.2.1, 5, .inl (ga σ 4))),
  (g.1 6, .inl (g.2.1, 5, .inl (ga σ 5))),
  (g.1 7, .inl (g.2.1, 7, .inl (ga σ 6))),
  (g.1 8, .inl (g.2.1, 56, .inl (ga σ 7))),
  (g.1 9, .inl (g.2.1, 56, .inl (ga σ 8))),
  (g.1 10, .inl (g.2.1, 56, .inl (ga σ 9))),
  (g.1 11, .inl (g.2.1, 24, .inl (ga σ 10))),
  (g.1 12, .inl (g.2.1, 24, .inl (ga σ 11))),
  (g.1 13, .inl (g.2.1, 24, .inl (ga σ 12))),
  (g.1 14, .inl (g.2.1, 24, .inl (ga σ 13))),
  (g.1 15, .inl (g.2.1, 24, .inl (ga σ 14))),
  (g.1 16, .inl (g.2.1, 24, .inl (ga σ 15))),
  (g.1 17, .inl (g.2.1, 24, .inl (ga σ 16))),
  (g.1 18, .inl (g.2.1, 240, .inl (ga σ 17))),
  (g.1 19, .inl (g.2.1, 24, .inl (ga σ 18))),
  (g.1 20, .inl (g.2.2.2.1, 24, .inl (ga σ 19))),
  (g.1 21, .inl (g.2.1, 300, .inl (ga σ 20))),
  (g.1 22, .inl (g.2.1, 300, .inl (ga σ 21))),
  (g.1 23, .inl (g.2.1, 300, .inl (ga σ 22))),
  (g.1 24, .inl (g.2.1, 1344, .inl (ga σ 23))),
  (g.1 25, .inl (g.2.1, 24, .inl (ga σ 24))),
  (g.1 26, .inl (g.2.1, 55296, .inl (ga σ 25))),
  (g.1 27, .inl (g.2.1, 55296, .inl (ga σ 26))),
  (g.1 28, .inl (g.2.1, 13824, .inl (ga σ 27))),
  (g.1 29, .inl (g.2.1, 13824, .inl (ga σ 28))),
  (g.1 30, .inl (g.2.1, 4, .inl (ga σ 29))),
  (g.1 31, .inl (g.2.1, 168, .inl (ga σ 30)))]
theorem uwX0 : ∀ w ∈ u_ws RX0 TX0 7, w ∈ GW := by decide +kernel
theorem uwX1 : ∀ w ∈ u_ws RX1 TX1 10, w ∈ GW := by decide +kernel
theorem uwX2 : ∀ w ∈ u_ws RX2 TX2 20, w ∈ GW := by decide +kernel
theorem uwX3 : ∀ w ∈ u_ws RX3 TX3 4, w ∈ GW := by decide +kernel
theorem uwX4 : ∀ w ∈ u_ws RX4 TX4 14, w ∈ GW := by decide +kernel
theorem uwX5 : ∀ w ∈ u_ws RX5 TX5 9, w ∈ GW := by decide +kernel
theorem uwX6 : ∀ w ∈ u_ws RX6 TX6 7, w ∈ GW := by decide +kernel
theorem uwX7 : ∀ w ∈ u_ws RX7 TX7 54, w ∈ GW := by decide +kernel
theorem mf_X6_10 : Cond.fieldLink RX6 10 "SongHour" "text" "LSongHour$Text;" ∈ GW := memT (i := 318) (by decide +kernel) rfl
theorem get_X6_10 {K : Kx} {cc : ByteArray} {g : Gm} {nL d : Nat} {ret : Option FieldType} {Q : State → Prop} {pc : Nat} {lv : List (Nat × Value)} {st : List Value} {σ : St} (hC : Ok K cc RX6 g nL d ret) (hd : decode cc pc = .ok (.getfield 10, 3)) (k : J K (wX g) nL Q (pc + 3) lv (.ref (g.1 2) :: st) σ) : J K (wX g) nL Q (pc) lv (.ref (g.1 0) :: st) σ := by
  obtain ⟨p, l, e, R, s, m, args, below, meth, c, D, A⟩ := K
  obtain ⟨hx, hb, hml, hown, hts, hK, hA, hSF, hR, hr, hlk⟩ := hC
  exact fun H locs ls hl hP hD hS => va_get (D := D) (ci := 6) (v := .ref (g.1 2)) (C := RX6) (T := TX6) (N := 7) hx hb hts uwX6 hown hK hP 0 rfl rfl 0 (by decide) (hts _ mf_X6_10) (fun _ h9 => h9) rfl hd (k H locs ls hl hP hD hS)
theorem mf_X6_19 : Cond.fieldLink RX6 19 "SongHour" "rulebook" "LSongHour$Rulebook;" ∈ GW := memT (i := 319) (by decide +kernel) rfl
theorem get_X6_19 {K : Kx} {cc : ByteArray} {g : Gm} {nL d : Nat} {ret : Option FieldType} {Q : State → Prop} {pc : Nat} {lv : List (Nat × Value)} {st : List Value} {σ : St} (hC : Ok K cc RX6 g nL d ret) (hd : decode cc pc = .ok (.getfield 19, 3)) (k : J K (wX g) nL Q (pc + 3) lv (.ref (g.1 4) :: st) σ) : J K (wX g) nL Q (pc) lv (.ref (g.1 0) :: st) σ := by
  obtain ⟨p, l, e, R, s, m, args, below, meth, c, D, A⟩ := K
  obtain ⟨hx, hb, hml, hown, hts, hK, hA, hSF, hR, hr, hlk⟩ := hC
  exact fun H locs ls hl hP hD hS => va_get (D := D) (ci := 6) (v := .ref (g.1 4)) (C := RX6) (T := TX6) (N := 7) hx hb hts uwX6 hown hK hP 0 rfl rfl 1 (by decide) (hts _ mf_X6_19) (fun _ h9 => h9) rfl hd (k H locs ls hl hP hD hS)
theorem mf_X6_25 : Cond.fieldLink RX6 25 "SongHour" "clocks" "[LSongHour$Clock;" ∈ GW := memT (i := 320) (by decide +kernel) rfl
theorem get_X6_25 {K : Kx} {cc : ByteArray} {g : Gm} {nL d : Nat} {ret : Option FieldType} {Q : State → Prop} {pc : Nat} {lv : List (Nat × Value)} {st : List Value} {σ : St} (hC : Ok K cc RX6 g nL d ret) (hd : decode cc pc = .ok (.getfield 25, 3)) (k : J K (wX g) nL Q (pc + 3) lv (.ref (g.1 1) :: st) σ) : J K (wX g) nL Q (pc) lv (.ref (g.1 0) :: st) σ := by
  obtain ⟨p, l, e, R, s, m, args, below, meth, c, D, A⟩ := K
  obtain ⟨hx, hb, hml, hown, hts, hK, hA, hSF, hR, hr, hlk⟩ := hC
  exact fun H locs ls hl hP hD hS => va_get (D := D) (ci := 6) (v := .ref (g.1 1)) (C := RX6) (T := TX6) (N := 7) hx hb hts uwX6 hown hK hP 0 rfl rfl 2 (by decide) (hts _ mf_X6_25) (fun _ h9 => h9) rfl hd (k H locs ls hl hP hD hS)
theorem mf_X6_30 : Cond.fieldLink RX6 30 "SongHour" "draft" "LSongHour$Clock;" ∈ GW := memT (i := 321) (by decide +kernel) rfl
theorem get_X6_30 {K : Kx} {cc : ByteArray} {g : Gm} {nL d : Nat} {ret : Option FieldType} {Q : State → Prop} {pc : Nat} {lv : List (Nat × Value)} {st : List Value} {σ : St} (hC : Ok K cc RX6 g nL d ret) (hd : decode cc pc = .ok (.getfield 30, 3)) (k : J K (wX g) nL Q (pc + 3) lv (.ref (g.1 67) :: st) σ) : J K (wX g) nL Q (pc) lv (.ref (g.1 0) :: st) σ := by
  obtain ⟨p, l, e, R, s, m, args, below, meth, c, D, A⟩ := K
  obtain ⟨hx, hb, hml, hown, hts, hK, hA, hSF, hR, hr, hlk⟩ := hC
  exact fun H locs ls hl hP hD hS => va_get (D := D) (ci := 6) (v := .ref (g.1 67)) (C := RX6) (T := TX6) (N := 7) hx hb hts uwX6 hown hK hP 0 rfl rfl 3 (by decide) (hts _ mf_X6_30) (fun _ h9 => h9) rfl hd (k H locs ls hl hP hD hS)
theorem mf_X6_37 : Cond.fieldLink RX6 37 "SongHour" "songs" "LSongHour$Songs;" ∈ GW := memT (i := 322) (by decide +kernel) rfl
theorem get_X6_37 {K : Kx} {cc : ByteArray} {g : Gm} {nL d : Nat} {ret : Option FieldType} {Q : State → Prop} {pc : Nat} {lv : List (Nat × Value)} {st : List Value} {σ : St} (hC : Ok K cc RX6 g nL d ret) (hd : decode cc pc = .ok (.getfield 37, 3)) (k : J K (wX g) nL Q (pc + 3) lv (.ref (g.1 8) :: st) σ) : J K (wX g) nL Q (pc) lv (.ref (g.1 0) :: st) σ := by
  obtain ⟨p, l, e, R, s, m, args, below, meth, c, D, A⟩ := K
  obtain ⟨hx, hb, hml, hown, hts, hK, hA, hSF, hR, hr, hlk⟩ := hC
  exact fun H locs ls hl hP hD hS => va_get (D := D) (ci := 6) (v := .ref (g.1 8)) (C := RX6) (T := TX6) (N := 7) hx hb hts uwX6 hown hK hP 0 rfl rfl 4 (by decide) (hts _ mf_X6_37) (fun _ h9 => h9) rfl hd (k H locs ls hl hP hD hS)
theorem mf_X6_44 : Cond.fieldLink RX6 44 "SongHour" "log" "LSongHour$Log;" ∈ GW := memT (i := 323) (by decide +kernel) rfl
theorem get_X6_44 {K : Kx} {cc : ByteArray} {g : Gm} {nL d : Nat} {ret : Option FieldType} {Q : State → Prop} {pc : Nat} {lv : List (Nat × Value)} {st : List Value} {σ : St} (hC : Ok K cc RX6 g nL d ret) (hd : decode cc pc = .ok (.getfield 44, 3)) (k : J K (wX g) nL Q (pc + 3) lv (.ref (g.1 22) :: st) σ) : J K (wX g) nL Q (pc) lv (.ref (g.1 0) :: st) σ := by
  obtain ⟨p, l, e, R, s, m, args, below, meth, c, D, A⟩ := K
  obtain ⟨hx, hb, hml, hown, hts, hK, hA, hSF, hR, hr, hlk⟩ := hC
  exact fun H locs ls hl hP hD hS => va_get (D := D) (ci := 6) (v := .ref (g.1 22)) (C := RX6) (T := TX6) (N := 7) hx hb hts uwX6 hown hK hP 0 rfl rfl 5 (by decide) (hts _ mf_X6_44) (fun _ h9 => h9) rfl hd (k H locs ls hl hP hD hS)
theorem mf_X6_51 : Cond.fieldLink RX6 51 "SongHour" "search" "LSongHour$RowSearch;" ∈ GW := memT (i := 324) (by decide +kernel) rfl
theorem get_X6_51 {K : Kx} {cc : ByteArray} {g : Gm} {nL d : Nat} {ret : Option FieldType} {Q : State → Prop} {pc : Nat} {lv : List (Nat × Value)} {st : List Value} {σ : St} (hC : Ok K cc RX6 g nL d ret) (hd : decode cc pc = .ok (.getfield 51, 3)) (k : J K (wX g) nL Q (pc + 3) lv (.ref (g.1 29) :: st) σ) : J K (wX g) nL Q (pc) lv (.ref (g.1 0) :: st) σ := by
  obtain ⟨p, l, e, R, s, m, args, below, meth, c, D, A⟩ := K
  obtain ⟨hx, hb, hml, hown, hts, hK, hA, hSF, hR, hr, hlk⟩ := hC
  exact fun H locs ls hl hP hD hS => va_get (D := D) (ci := 6) (v := .ref (g.1 29)) (C := RX6) (T := TX6) (N := 7) hx hb hts uwX6 hown hK hP 0 rfl rfl 6 (by decide) (hts _ mf_X6_51) (fun _ h9 => h9) rfl hd (k H locs ls hl hP hD hS)
theorem mf_X6_63 : Cond.fieldLink RX6 63 "SongHour$Text" "size" "I" ∈ GW := memT (i := 37) (by decide +kernel) rfl
theorem get_X6_63 {K : Kx} {cc : ByteArray} {g : Gm} {nL d : Nat} {ret : Option FieldType} {Q : State → Prop} {pc : Nat} {lv : List (Nat × Value)} {st : List Value} {σ : St} (hC : Ok K cc RX6 g nL d ret) (hd : decode cc pc = .ok (.getfield 63, 3)) (k : J K (wX g) nL Q (pc + 3) lv (.int (gi σ 0) :: st) σ) : J K (wX g) nL Q (pc) lv (.ref (g.1 2) :: st) σ := by
  obtain ⟨p, l, e, R, s, m, args, below, meth, c, D, A⟩ := K
  obtain ⟨hx, hb, hml, hown, hts, hK, hA, hSF, hR, hr, hlk⟩ := hC
  exact fun H locs ls hl hP hD hS => va_get (D := D) (ci := 5) (v := .int (gi σ 0)) (C := RX5) (T := TX5) (N := 9) hx hb hts uwX5 hown hK hP 2 rfl rfl 1 (by decide) (hts _ mf_X6_63) (fun _ h9 => h9) rfl hd (k H locs ls hl hP hD hS)
theorem put_X6_63 {K : Kx} {cc : ByteArray} {g : Gm} {nL d : Nat} {ret : Option FieldType} {Q : State → Prop} {pc : Nat} {lv : List (Nat × Value)} {st : List Value} {σ : St} (hC : Ok K cc RX6 g nL d ret) {v : Int32} {ρ : Type} {o : ρ} {f : St → Option ρ} (hd : decode cc pc = .ok (.putfield 63, 3)) (h : bnd (si σ 0 v) f = some o) (k : ∀ σ2, f σ2 = some o → J K (wX g) nL Q (pc + 3) lv (st) σ2) : J K (wX g) nL Q (pc) lv (.int v :: .ref (g.1 2) :: st) σ := by
  obtain ⟨p, l, e, R, s, m, args, below, meth, c, D, A⟩ := K
  obtain ⟨hx, hb, hml, hown, hts, hK, hA, hSF, hR, hr, hlk⟩ := hC
  exact fun H locs ls hl hP hD hS => va_put (D := D) (ci := 5) (v := .int v) (ty := .int) (C := RX5) (T := TX5) (N := 9) hx hb hts uwX5 tyX5 tyX5_ok nmX5 hown hK hP hD hS 2 rfl rfl 1 (by decide) (hts _ mf_X6_63) (fun _ h9 => h9) rfl (by decide +kernel) rfl rfl (Nat.le_of_ble_eq_true rfl) hd (fun H locs hP hD hS => k _ h H locs ls hl hP hD hS)
theorem mf_X6_71 : Cond.fieldLink RX6 71 "SongHour$Rulebook" "howMany" "I" ∈ GW := memT (i := 88) (by decide +kernel) rfl
theorem get_X6_71 {K : Kx} {cc : ByteArray} {g : Gm} {nL d : Nat} {ret : Option FieldType} {Q : State → Prop} {pc : Nat} {lv : List (Nat × Value)} {st : List Value} {σ : St} (hC : Ok K cc RX6 g nL d ret) (hd : decode cc pc = .ok (.getfield 71, 3)) (k : J K (wX g) nL Q (pc + 3) lv (.int (gi σ 8) :: st) σ) : J K (wX g) nL Q (pc) lv (.ref (g.1 4) :: st) σ := by
  obtain ⟨p, l, e, R, s, m, args, below, meth, c, D, A⟩ := K
  obtain ⟨hx, hb, hml, hown, hts, hK, hA, hSF, hR, hr, hlk⟩ := hC
  exact fun H locs ls hl hP hD hS => va_get (D := D) (ci := 3) (v := .int (gi σ 8)) (C := RX3) (T := TX3) (N := 4) hx hb hts uwX3 hown hK hP 4 rfl rfl 3 (by decide) (hts _ mf_X6_71) (fun _ h9 => h9) rfl hd (k H locs ls hl hP hD hS)
theorem put_X6_71 {K : Kx} {cc : ByteArray} {g : Gm} {nL d : Nat} {ret : Option FieldType} {Q : State → Prop} {pc : Nat} {lv : List (Nat × Value)} {st : List Value} {σ : St} (hC : Ok K cc RX6 g nL d ret) {v : Int32} {ρ : Type} {o : ρ} {f : St → Option ρ} (hd : decode cc pc = .ok (.putfield 71, 3)) (h : bnd (si σ 8 v) f = some o) (k : ∀ σ2, f σ2 = some o → J K (wX g) nL Q (pc + 3) lv (st) σ2) : J K (wX g) nL Q (pc) lv (.int v :: .ref (g.1 4) :: st) σ := by
  obtain ⟨p, l, e, R, s, m, args, below, meth, c, D, A⟩ := K
  obtain ⟨hx, hb, hml, hown, hts, hK, hA, hSF, hR, hr, hlk⟩ := hC
  exact fun H locs ls hl hP hD hS => va_put (D := D) (ci := 3) (v := .int v) (ty := .int) (C := RX3) (T := TX3) (N := 4) hx hb hts uwX3 tyX3 tyX3_ok nmX3 hown hK hP hD hS 4 rfl rfl 3 (by decide) (hts _ mf_X6_71) (fun _ h9 => h9) rfl (by decide +kernel) rfl rfl (Nat.le_of_ble_eq_true rfl) hd (fun H locs hP hD hS => k _ h H locs ls hl hP hD hS)
theorem mf_X6_74 : Cond.fieldLink RX6 74 "SongHour$Text" "faultPlace" "I" ∈ GW := memT (i := 41) (by decide +kernel) rfl
theorem get_X6_74 {K : Kx} {cc : ByteArray} {g : Gm} {nL d : Nat} {ret : Option FieldType} {Q : State → Prop} {pc : Nat} {lv : List (Nat × Value)} {st : List Value} {σ : St} (hC : Ok K cc RX6 g nL d ret) (hd : decode cc pc = .ok (.getfield 74, 3)) (k : J K (wX g) nL Q (pc + 3) lv (.int (gi σ 2) :: st) σ) : J K (wX g) nL Q (pc) lv (.ref (g.1 2) :: st) σ := by
  obtain ⟨p, l, e, R, s, m, args, below, meth, c, D, A⟩ := K
  obtain ⟨hx, hb, hml, hown, hts, hK, hA, hSF, hR, hr, hlk⟩ := hC
  exact fun H locs ls hl hP hD hS => va_get (D := D) (ci := 5) (v := .int (gi σ 2)) (C := RX5) (T := TX5) (N := 9) hx hb hts uwX5 hown hK hP 2 rfl rfl 3 (by decide) (hts _ mf_X6_74) (fun _ h9 => h9) rfl hd (k H locs ls hl hP hD hS)
theorem put_X6_74 {K : Kx} {cc : ByteArray} {g : Gm} {nL d : Nat} {ret : Option FieldType} {Q : State → Prop} {pc : Nat} {lv : List (Nat × Value)} {st : List Value} {σ : St} (hC : Ok K cc RX6 g nL d ret) {v : Int32} {ρ : Type} {o : ρ} {f : St → Option ρ} (hd : decode cc pc = .ok (.putfield 74, 3)) (h : bnd (si σ 2 v) f = some o) (k : ∀ σ2, f σ2 = some o → J K (wX g) nL Q (pc + 3) lv (st) σ2) : J K (wX g) nL Q (pc) lv (.int v :: .ref (g.1 2) :: st) σ := by
  obtain ⟨p, l, e, R, s, m, args, below, meth, c, D, A⟩ := K
  obtain ⟨hx, hb, hml, hown, hts, hK, hA, hSF, hR, hr, hlk⟩ := hC
  exact fun H locs ls hl hP hD hS => va_put (D := D) (ci := 5) (v := .int v) (ty := .int) (C := RX5) (T := TX5) (N := 9) hx hb hts uwX5 tyX5 tyX5_ok nmX5 hown hK hP hD hS 2 rfl rfl 3 (by decide) (hts _ mf_X6_74) (fun _ h9 => h9) rfl (by decide +kernel) rfl rfl (Nat.le_of_ble_eq_true rfl) hd (fun H locs hP hD hS => k _ h H locs ls hl hP hD hS)
theorem mf_X6_93 : Cond.fieldLink RX6 93 "SongHour$Clock" "size" "I" ∈ GW := memT (i := 108) (by decide +kernel) rfl
theorem get_X6_93 {K : Kx} {cc : ByteArray} {g : Gm} {nL d : Nat} {ret : Option FieldType} {Q : State → Prop} {pc : Nat} {lv : List (Nat × Value)} {st : List Value} {σ : St} (hC : Ok K cc RX6 g nL d ret) (j : Nat) (hj : j < 7) (hd : decode cc pc = .ok (.getfield 93, 3)) (k : J K (wX g) nL Q (pc + 3) lv (.int (gi σ (27 + 3 * j + 0)) :: st) σ) : J K (wX g) nL Q (pc) lv (.ref (g.1 (37 + 5 * j)) :: st) σ := by
  obtain ⟨p, l, e, R, s, m, args, below, meth, c, D, A⟩ := K
  obtain ⟨hx, hb, hml, hown, hts, hK, hA, hSF, hR, hr, hlk⟩ := hC
  rcases (show j = 0 ∨ j = 1 ∨ j = 2 ∨ j = 3 ∨ j = 4 ∨ j = 5 ∨ j = 6 by omega) with rfl | rfl | rfl | rfl | rfl | rfl | rfl
  · exact fun H locs ls hl hP hD hS => va_get (D := D) (ci := 0) (C := RX0) (T := TX0) (N := 7) hx hb hts uwX0 hown hK hP 37 rfl rfl 0 (by decide) (hts _ mf_X6_93) (fun _ h9 => h9) rfl hd (k H locs ls hl hP hD hS)
  · exact fun H locs ls hl hP hD hS => va_get (D := D) (ci := 0) (C := RX0) (T := TX0) (N := 7) hx hb hts uwX0 hown hK hP 42 rfl rfl 0 (by decide) (hts _ mf_X6_93) (fun _ h9 => h9) rfl hd (k H locs ls hl hP hD hS)
  · exact fun H locs ls hl hP hD hS => va_get (D := D) (ci := 0) (C := RX0) (T := TX0) (N := 7) hx hb hts uwX0 hown hK hP 47 rfl rfl 0 (by decide) (hts _ mf_X6_93) (fun _ h9 => h9) rfl hd (k H locs ls hl hP hD hS)
  · exact fun H locs ls hl hP hD hS => va_get (D := D) (ci := 0) (C := RX0) (T := TX0) (N := 7) hx hb hts uwX0 hown hK hP 52 rfl rfl 0 (by decide) (hts _ mf_X6_93) (fun _ h9 => h9) rfl hd (k H locs ls hl hP hD hS)
  · exact fun H locs ls hl hP hD hS => va_get (D := D) (ci := 0) (C := RX0) (T := TX0) (N := 7) hx hb hts uwX0 hown hK hP 57 rfl rfl 0 (by decide) (hts _ mf_X6_93) (fun _ h9 => h9) rfl hd (k H locs ls hl hP hD hS)
  · exact fun H locs ls hl hP hD hS => va_get (D := D) (ci := 0) (C := RX0) (T := TX0) (N := 7) hx hb hts uwX0 hown hK hP 62 rfl rfl 0 (by decide) (hts _ mf_X6_93) (fun _ h9 => h9) rfl hd (k H locs ls hl hP hD hS)
  · exact fun H locs ls hl hP hD hS => va_get (D := D) (ci := 0) (C := RX0) (T := TX0) (N := 7) hx hb hts uwX0 hown hK hP 67 rfl rfl 0 (by decide) (hts _ mf_X6_93) (fun _ h9 => h9) rfl hd (k H locs ls hl hP hD hS)
theorem put_X6_93 {K : Kx} {cc : ByteArray} {g : Gm} {nL d : Nat} {ret : Option FieldType} {Q : State → Prop} {pc : Nat} {lv : List (Nat × Value)} {st : List Value} {σ : St} (hC : Ok K cc RX6 g nL d ret) (j : Nat) (hj : j < 7) {v : Int32} {ρ : Type} {o : ρ} {f : St → Option ρ} (hd : decode cc pc = .ok (.putfield 93, 3)) (h : bnd (si σ (27 + 3 * j + 0) v) f = some o) (k : ∀ σ2, f σ2 = some o → J K (wX g) nL Q (pc + 3) lv (st) σ2) : J K (wX g) nL Q (pc) lv (.int v :: .ref (g.1 (37 + 5 * j)) :: st) σ := by
  obtain ⟨p, l, e, R, s, m, args, below, meth, c, D, A⟩ := K
  obtain ⟨hx, hb, hml, hown, hts, hK, hA, hSF, hR, hr, hlk⟩ := hC
  rcases (show j = 0 ∨ j = 1 ∨ j = 2 ∨ j = 3 ∨ j = 4 ∨ j = 5 ∨ j = 6 by omega) with rfl | rfl | rfl | rfl | rfl | rfl | rfl
  · exact fun H locs ls hl hP hD hS => va_put (D := D) (ci := 0) (v := .int v) (ty := .int) (C := RX0) (T := TX0) (N := 7) hx hb hts uwX0 tyX0 tyX0_ok nmX0 hown hK hP hD hS 37 rfl rfl 0 (by decide) (hts _ mf_X6_93) (fun _ h9 => h9) rfl (by decide +kernel) rfl rfl (Nat.le_of_ble_eq_true rfl) hd (fun H locs hP hD hS => k _ h H locs ls hl hP hD hS)
  · exact fun H locs ls hl hP hD hS => va_put (D := D) (ci := 0) (v := .int v) (ty := .int) (C := RX0) (T := TX0) (N := 7) hx hb hts uwX0 tyX0 tyX0_ok nmX0 hown hK hP hD hS 42 rfl rfl 0 (by decide) (hts _ mf_X6_93) (fun _ h9 => h9) rfl (by decide +kernel) rfl rfl (Nat.le_of_ble_eq_true rfl) hd (fun H locs hP hD hS => k _ h H locs ls hl hP hD hS)
  · exact fun H locs ls hl hP hD hS => va_put (D := D) (ci := 0) (v := .int v) (ty := .int) (C := RX0) (T := TX0) (N := 7) hx hb hts uwX0 tyX0 tyX0_ok nmX0 hown hK hP hD hS 47 rfl rfl 0 (by decide) (hts _ mf_X6_93) (fun _ h9 => h9) rfl (by decide +kernel) rfl rfl (Nat.le_of_ble_eq_true rfl) hd (fun H locs hP hD hS => k _ h H locs ls hl hP hD hS)
  · exact fun H locs ls hl hP hD hS => va_put (D := D) (ci := 0) (v := .int v) (ty := .int) (C := RX0) (T := TX0) (N := 7) hx hb hts uwX0 tyX0 tyX0_ok nmX0 hown hK hP hD hS 52 rfl rfl 0 (by decide) (hts _ mf_X6_93) (fun _ h9 => h9) rfl (by decide +kernel) rfl rfl (Nat.le_of_ble_eq_true rfl) hd (fun H locs hP hD hS => k _ h H locs ls hl hP hD hS)
  · exact fun H locs ls hl hP hD hS => va_put (D := D) (ci := 0) (v := .int v) (ty := .int) (C := RX0) (T := TX0) (N := 7) hx hb hts uwX0 tyX0 tyX0_ok nmX0 hown hK hP hD hS 57 rfl rfl 0 (by decide) (hts _ mf_X6_93) (fun _ h9 => h9) rfl (by decide +kernel) rfl rfl (Nat.le_of_ble_eq_true rfl) hd (fun H locs hP hD hS => k _ h H locs ls hl hP hD hS)
  · exact fun H locs ls hl hP hD hS => va_put (D := D) (ci := 0) (v := .int v) (ty := .int) (C := RX0) (T := TX0) (N := 7) hx hb hts uwX0 tyX0 tyX0_ok nmX0 hown hK hP hD hS 62 rfl rfl 0 (by decide) (hts _ mf_X6_93) (fun _ h9 => h9) rfl (by decide +kernel) rfl rfl (Nat.le_of_ble_eq_true rfl) hd (fun H locs hP hD hS => k _ h H locs ls hl hP hD hS)
  · exact fun H locs ls hl hP hD hS => va_put (D := D) (ci := 0) (v := .int v) (ty := .int) (C := RX0) (T := TX0) (N := 7) hx hb hts uwX0 tyX0 tyX0_ok nmX0 hown hK hP hD hS 67 rfl rfl 0 (by decide) (hts _ mf_X6_93) (fun _ h9 => h9) rfl (by decide +kernel) rfl rfl (Nat.le_of_ble_eq_true rfl) hd (fun H locs hP hD hS => k _ h H locs ls hl hP hD hS)
theorem mf_X6_94 : Cond.fieldLink RX6 94 "SongHour$Text" "faultKind" "I" ∈ GW := memT (i := 39) (by decide +kernel) rfl
theorem get_X6_94 {K : Kx} {cc : ByteArray} {g : Gm} {nL d : Nat} {ret : Option FieldType} {Q : State → Prop} {pc : Nat} {lv : List (Nat × Value)} {st : List Value} {σ : St} (hC : Ok K cc RX6 g nL d ret) (hd : decode cc pc = .ok (.getfield 94, 3)) (k : J K (wX g) nL Q (pc + 3) lv (.int (gi σ 1) :: st) σ) : J K (wX g) nL Q (pc) lv (.ref (g.1 2) :: st) σ := by
  obtain ⟨p, l, e, R, s, m, args, below, meth, c, D, A⟩ := K
  obtain ⟨hx, hb, hml, hown, hts, hK, hA, hSF, hR, hr, hlk⟩ := hC
  exact fun H locs ls hl hP hD hS => va_get (D := D) (ci := 5) (v := .int (gi σ 1)) (C := RX5) (T := TX5) (N := 9) hx hb hts uwX5 hown hK hP 2 rfl rfl 2 (by decide) (hts _ mf_X6_94) (fun _ h9 => h9) rfl hd (k H locs ls hl hP hD hS)
theorem put_X6_94 {K : Kx} {cc : ByteArray} {g : Gm} {nL d : Nat} {ret : Option FieldType} {Q : State → Prop} {pc : Nat} {lv : List (Nat × Value)} {st : List Value} {σ : St} (hC : Ok K cc RX6 g nL d ret) {v : Int32} {ρ : Type} {o : ρ} {f : St → Option ρ} (hd : decode cc pc = .ok (.putfield 94, 3)) (h : bnd (si σ 1 v) f = some o) (k : ∀ σ2, f σ2 = some o → J K (wX g) nL Q (pc + 3) lv (st) σ2) : J K (wX g) nL Q (pc) lv (.int v :: .ref (g.1 2) :: st) σ := by
  obtain ⟨p, l, e, R, s, m, args, below, meth, c, D, A⟩ := K
  obtain ⟨hx, hb, hml, hown, hts, hK, hA, hSF, hR, hr, hlk⟩ := hC
  exact fun H locs ls hl hP hD hS => va_put (D := D) (ci := 5) (v := .int v) (ty := .int) (C := RX5) (T := TX5) (N := 9) hx hb hts uwX5 tyX5 tyX5_ok nmX5 hown hK hP hD hS 2 rfl rfl 2 (by decide) (hts _ mf_X6_94) (fun _ h9 => h9) rfl (by decide +kernel) rfl rfl (Nat.le_of_ble_eq_true rfl) hd (fun H locs hP hD hS => k _ h H locs ls hl hP hD hS)
theorem mf_X6_97 : Cond.fieldLink RX6 97 "SongHour$Rulebook" "now" "[I" ∈ GW := memT (i := 84) (by decide +kernel) rfl
theorem get_X6_97 {K : Kx} {cc : ByteArray} {g : Gm} {nL d : Nat} {ret : Option FieldType} {Q : State → Prop} {pc : Nat} {lv : List (Nat × Value)} {st : List Value} {σ : St} (hC : Ok K cc RX6 g nL d ret) (hd : decode cc pc = .ok (.getfield 97, 3)) (k : J K (wX g) nL Q (pc + 3) lv (.ref (g.1 5) :: st) σ) : J K (wX g) nL Q (pc) lv (.ref (g.1 4) :: st) σ := by
  obtain ⟨p, l, e, R, s, m, args, below, meth, c, D, A⟩ := K
  obtain ⟨hx, hb, hml, hown, hts, hK, hA, hSF, hR, hr, hlk⟩ := hC
  exact fun H locs ls hl hP hD hS => va_get (D := D) (ci := 3) (v := .ref (g.1 5)) (C := RX3) (T := TX3) (N := 4) hx hb hts uwX3 hown hK hP 4 rfl rfl 0 (by decide) (hts _ mf_X6_97) (fun _ h9 => h9) rfl hd (k H locs ls hl hP hD hS)
theorem mf_X6_105 : Cond.fieldLink RX6 105 "SongHour$Songs" "size" "I" ∈ GW := memT (i := 145) (by decide +kernel) rfl
theorem get_X6_105 {K : Kx} {cc : ByteArray} {g : Gm} {nL d : Nat} {ret : Option FieldType} {Q : State → Prop} {pc : Nat} {lv : List (Nat × Value)} {st : List Value} {σ : St} (hC : Ok K cc RX6 g nL d ret) (hd : decode cc pc = .ok (.getfield 105, 3)) (k : J K (wX g) nL Q (pc + 3) lv (.int (gi σ 9) :: st) σ) : J K (wX g) nL Q (pc) lv (.ref (g.1 8) :: st) σ := by
  obtain ⟨p, l, e, R, s, m, args, below, meth, c, D, A⟩ := K
  obtain ⟨hx, hb, hml, hown, hts, hK, hA, hSF, hR, hr, hlk⟩ := hC
  exact fun H locs ls hl hP hD hS => va_get (D := D) (ci := 4) (v := .int (gi σ 9)) (C := RX4) (T := TX4) (N := 14) hx hb hts uwX4 hown hK hP 8 rfl rfl 0 (by decide) (hts _ mf_X6_105) (fun _ h9 => h9) rfl hd (k H locs ls hl hP hD hS)
theorem put_X6_105 {K : Kx} {cc : ByteArray} {g : Gm} {nL d : Nat} {ret : Option FieldType} {Q : State → Prop} {pc : Nat} {lv : List (Nat × Value)} {st : List Value} {σ : St} (hC : Ok K cc RX6 g nL d ret) {v : Int32} {ρ : Type} {o : ρ} {f : St → Option ρ} (hd : decode cc pc = .ok (.putfield 105, 3)) (h : bnd (si σ 9 v) f = some o) (k : ∀ σ2, f σ2 = some o → J K (wX g) nL Q (pc + 3) lv (st) σ2) : J K (wX g) nL Q (pc) lv (.int v :: .ref (g.1 8) :: st) σ := by
  obtain ⟨p, l, e, R, s, m, args, below, meth, c, D, A⟩ := K
  obtain ⟨hx, hb, hml, hown, hts, hK, hA, hSF, hR, hr, hlk⟩ := hC
  exact fun H locs ls hl hP hD hS => va_put (D := D) (ci := 4) (v := .int v) (ty := .int) (C := RX4) (T := TX4) (N := 14) hx hb hts uwX4 tyX4 tyX4_ok nmX4 hown hK hP hD hS 8 rfl rfl 0 (by decide) (hts _ mf_X6_105) (fun _ h9 => h9) rfl (by decide +kernel) rfl rfl (Nat.le_of_ble_eq_true rfl) hd (fun H locs hP hD hS => k _ h H locs ls hl hP hD hS)
theorem mf_X6_121 : Cond.fieldLink RX6 121 "SongHour$Songs" "asksOpen" "[I" ∈ GW := memT (i := 160) (by decide +kernel) rfl
theorem get_X6_121 {K : Kx} {cc : ByteArray} {g : Gm} {nL d : Nat} {ret : Option FieldType} {Q : State → Prop} {pc : Nat} {lv : List (Nat × Value)} {st : List Value} {σ : St} (hC : Ok K cc RX6 g nL d ret) (hd : decode cc pc = .ok (.getfield 121, 3)) (k : J K (wX g) nL Q (pc + 3) lv (.ref (g.1 14) :: st) σ) : J K (wX g) nL Q (pc) lv (.ref (g.1 8) :: st) σ := by
  obtain ⟨p, l, e, R, s, m, args, below, meth, c, D, A⟩ := K
  obtain ⟨hx, hb, hml, hown, hts, hK, hA, hSF, hR, hr, hlk⟩ := hC
  exact fun H locs ls hl hP hD hS => va_get (D := D) (ci := 4) (v := .ref (g.1 14)) (C := RX4) (T := TX4) (N := 14) hx hb hts uwX4 hown hK hP 8 rfl rfl 6 (by decide) (hts _ mf_X6_121) (fun _ h9 => h9) rfl hd (k H locs ls hl hP hD hS)
theorem mf_X6_124 : Cond.fieldLink RX6 124 "SongHour$Clock" "stretches" "I" ∈ GW := memT (i := 110) (by decide +kernel) rfl
theorem get_X6_124 {K : Kx} {cc : ByteArray} {g : Gm} {nL d : Nat} {ret : Option FieldType} {Q : State → Prop} {pc : Nat} {lv : List (Nat × Value)} {st : List Value} {σ : St} (hC : Ok K cc RX6 g nL d ret) (j : Nat) (hj : j < 7) (hd : decode cc pc = .ok (.getfield 124, 3)) (k : J K (wX g) nL Q (pc + 3) lv (.int (gi σ (27 + 3 * j + 1)) :: st) σ) : J K (wX g) nL Q (pc) lv (.ref (g.1 (37 + 5 * j)) :: st) σ := by
  obtain ⟨p, l, e, R, s, m, args, below, meth, c, D, A⟩ := K
  obtain ⟨hx, hb, hml, hown, hts, hK, hA, hSF, hR, hr, hlk⟩ := hC
  rcases (show j = 0 ∨ j = 1 ∨ j = 2 ∨ j = 3 ∨ j = 4 ∨ j = 5 ∨ j = 6 by omega) with rfl | rfl | rfl | rfl | rfl | rfl | rfl
  · exact fun H locs ls hl hP hD hS => va_get (D := D) (ci := 0) (C := RX0) (T := TX0) (N := 7) hx hb hts uwX0 hown hK hP 37 rfl rfl 1 (by decide) (hts _ mf_X6_124) (fun _ h9 => h9) rfl hd (k H locs ls hl hP hD hS)
  · exact fun H locs ls hl hP hD hS => va_get (D := D) (ci := 0) (C := RX0) (T := TX0) (N := 7) hx hb hts uwX0 hown hK hP 42 rfl rfl 1 (by decide) (hts _ mf_X6_124) (fun _ h9 => h9) rfl hd (k H locs ls hl hP hD hS)
  · exact fun H locs ls hl hP hD hS => va_get (D := D) (ci := 0) (C := RX0) (T := TX0) (N := 7) hx hb hts uwX0 hown hK hP 47 rfl rfl 1 (by decide) (hts _ mf_X6_124) (fun _ h9 => h9) rfl hd (k H locs ls hl hP hD hS)
  · exact fun H locs ls hl hP hD hS => va_get (D := D) (ci := 0) (C := RX0) (T := TX0) (N := 7) hx hb hts uwX0 hown hK hP 52 rfl rfl 1 (by decide) (hts _ mf_X6_124) (fun _ h9 => h9) rfl hd (k H locs ls hl hP hD hS)
  · exact fun H locs ls hl hP hD hS => va_get (D := D) (ci := 0) (C := RX0) (T := TX0) (N := 7) hx hb hts uwX0 hown hK hP 57 rfl rfl 1 (by decide) (hts _ mf_X6_124) (fun _ h9 => h9) rfl hd (k H locs ls hl hP hD hS)
  · exact fun H locs ls hl hP hD hS => va_get (D := D) (ci := 0) (C := RX0) (T := TX0) (N := 7) hx hb hts uwX0 hown hK hP 62 rfl rfl 1 (by decide) (hts _ mf_X6_124) (fun _ h9 => h9) rfl hd (k H locs ls hl hP hD hS)
  · exact fun H locs ls hl hP hD hS => va_get (D := D) (ci := 0) (C := RX0) (T := TX0) (N := 7) hx hb hts uwX0 hown hK hP 67 rfl rfl 1 (by decide) (hts _ mf_X6_124) (fun _ h9 => h9) rfl hd (k H locs ls hl hP hD hS)
theorem put_X6_124 {K : Kx} {cc : ByteArray} {g : Gm} {nL d : Nat} {ret : Option FieldType} {Q : State → Prop} {pc : Nat} {lv : List (Nat × Value)} {st : List Value} {σ : St} (hC : Ok K cc RX6 g nL d ret) (j : Nat) (hj : j < 7) {v : Int32} {ρ : Type} {o : ρ} {f : St → Option ρ} (hd : decode cc pc = .ok (.putfield 124, 3)) (h : bnd (si σ (27 + 3 * j + 1) v) f = some o) (k : ∀ σ2, f σ2 = some o → J K (wX g) nL Q (pc + 3) lv (st) σ2) : J K (wX g) nL Q (pc) lv (.int v :: .ref (g.1 (37 + 5 * j)) :: st) σ := by
  obtain ⟨p, l, e, R, s, m, args, below, meth, c, D, A⟩ := K
  obtain ⟨hx, hb, hml, hown, hts, hK, hA, hSF, hR, hr, hlk⟩ := hC
  rcases (show j = 0 ∨ j = 1 ∨ j = 2 ∨ j = 3 ∨ j = 4 ∨ j = 5 ∨ j = 6 by omega) with rfl | rfl | rfl | rfl | rfl | rfl | rfl
  · exact fun H locs ls hl hP hD hS => va_put (D := D) (ci := 0) (v := .int v) (ty := .int) (C := RX0) (T := TX0) (N := 7) hx hb hts uwX0 tyX0 tyX0_ok nmX0 hown hK hP hD hS 37 rfl rfl 1 (by decide) (hts _ mf_X6_124) (fun _ h9 => h9) rfl (by decide +kernel) rfl rfl (Nat.le_of_ble_eq_true rfl) hd (fun H locs hP hD hS => k _ h H locs ls hl hP hD hS)
  · exact fun H locs ls hl hP hD hS => va_put (D := D) (ci := 0) (v := .int v) (ty := .int) (C := RX0) (T := TX0) (N := 7) hx hb hts uwX0 tyX0 tyX0_ok nmX0 hown hK hP hD hS 42 rfl rfl 1 (by decide) (hts _ mf_X6_124) (fun _ h9 => h9) rfl (by decide +kernel) rfl rfl (Nat.le_of_ble_eq_true rfl) hd (fun H locs hP hD hS => k _ h H locs ls hl hP hD hS)
  · exact fun H locs ls hl hP hD hS => va_put (D := D) (ci := 0) (v := .int v) (ty := .int) (C := RX0) (T := TX0) (N := 7) hx hb hts uwX0 tyX0 tyX0_ok nmX0 hown hK hP hD hS 47 rfl rfl 1 (by decide) (hts _ mf_X6_124) (fun _ h9 => h9) rfl (by decide +kernel) rfl rfl (Nat.le_of_ble_eq_true rfl) hd (fun H locs hP hD hS => k _ h H locs ls hl hP hD hS)
  · exact fun H locs ls hl hP hD hS => va_put (D := D) (ci := 0) (v := .int v) (ty := .int) (C := RX0) (T := TX0) (N := 7) hx hb hts uwX0 tyX0 tyX0_ok nmX0 hown hK hP hD hS 52 rfl rfl 1 (by decide) (hts _ mf_X6_124) (fun _ h9 => h9) rfl (by decide +kernel) rfl rfl (Nat.le_of_ble_eq_true rfl) hd (fun H locs hP hD hS => k _ h H locs ls hl hP hD hS)
  · exact fun H locs ls hl hP hD hS => va_put (D := D) (ci := 0) (v := .int v) (ty := .int) (C := RX0) (T := TX0) (N := 7) hx hb hts uwX0 tyX0 tyX0_ok nmX0 hown hK hP hD hS 57 rfl rfl 1 (by decide) (hts _ mf_X6_124) (fun _ h9 => h9) rfl (by decide +kernel) rfl rfl (Nat.le_of_ble_eq_true rfl) hd (fun H locs hP hD hS => k _ h H locs ls hl hP hD hS)
  · exact fun H locs ls hl hP hD hS => va_put (D := D) (ci := 0) (v := .int v) (ty := .int) (C := RX0) (T := TX0) (N := 7) hx hb hts uwX0 tyX0 tyX0_ok nmX0 hown hK hP hD hS 62 rfl rfl 1 (by decide) (hts _ mf_X6_124) (fun _ h9 => h9) rfl (by decide +kernel) rfl rfl (Nat.le_of_ble_eq_true rfl) hd (fun H locs hP hD hS => k _ h H locs ls hl hP hD hS)
  · exact fun H locs ls hl hP hD hS => va_put (D := D) (ci := 0) (v := .int v) (ty := .int) (C := RX0) (T := TX0) (N := 7) hx hb hts uwX0 tyX0 tyX0_ok nmX0 hown hK hP hD hS 67 rfl rfl 1 (by decide) (hts _ mf_X6_124) (fun _ h9 => h9) rfl (by decide +kernel) rfl rfl (Nat.le_of_ble_eq_true rfl) hd (fun H locs hP hD hS => k _ h H locs ls hl hP hD hS)
theorem mf_X6_134 : Cond.fieldLink RX6 134 "SongHour$Log" "hours" "I" ∈ GW := memT (i := 209) (by decide +kernel) rfl
theorem get_X6_134 {K : Kx} {cc : ByteArray} {g : Gm} {nL d : Nat} {ret : Option FieldType} {Q : State → Prop} {pc : Nat} {lv : List (Nat × Value)} {st : List Value} {σ : St} (hC : Ok K cc RX6 g nL d ret) (hd : decode cc pc = .ok (.getfield 134, 3)) (k : J K (wX g) nL Q (pc + 3) lv (.int (gi σ 10) :: st) σ) : J K (wX g) nL Q (pc) lv (.ref (g.1 22) :: st) σ := by
  obtain ⟨p, l, e, R, s, m, args, below, meth, c, D, A⟩ := K
  obtain ⟨hx, hb, hml, hown, hts, hK, hA, hSF, hR, hr, hlk⟩ := hC
  exact fun H locs ls hl hP hD hS => va_get (D := D) (ci := 1) (v := .int (gi σ 10)) (C := RX1) (T := TX1) (N := 10) hx hb hts uwX1 hown hK hP 22 rfl rfl 0 (by decide) (hts _ mf_X6_134) (fun _ h9 => h9) rfl hd (k H locs ls hl hP hD hS)
theorem put_X6_134 {K : Kx} {cc : ByteArray} {g : Gm} {nL d : Nat} {ret : Option FieldType} {Q : State → Prop} {pc : Nat} {lv : List (Nat × Value)} {st : List Value} {σ : St} (hC : Ok K cc RX6 g nL d ret) {v : Int32} {ρ : Type} {o : ρ} {f : St → Option ρ} (hd : decode cc pc = .ok (.putfield 134, 3)) (h : bnd (si σ 10 v) f = some o) (k : ∀ σ2, f σ2 = some o → J K (wX g) nL Q (pc + 3) lv (st) σ2) : J K (wX g) nL Q (pc) lv (.int v :: .ref (g.1 22) :: st) σ := by
  obtain ⟨p, l, e, R, s, m, args, below, meth, c, D, A⟩ := K
  obtain ⟨hx, hb, hml, hown, hts, hK, hA, hSF, hR, hr, hlk⟩ := hC
  exact fun H locs ls hl hP hD hS => va_put (D := D) (ci := 1) (v := .int v) (ty := .int) (C := RX1) (T := TX1) (N := 10) hx hb hts uwX1 tyX1 tyX1_ok nmX1 hown hK hP hD hS 22 rfl rfl 0 (by decide) (hts _ mf_X6_134) (fun _ h9 => h9) rfl (by decide +kernel) rfl rfl (Nat.le_of_ble_eq_true rfl) hd (fun H locs hP hD hS => k _ h H locs ls hl hP hD hS)
theorem mf_X6_144 : Cond.fieldLink RX6 144 "SongHour$Clock" "seconds" "[I" ∈ GW := memT (i := 112) (by decide +kernel) rfl
theorem get_X6_144 {K : Kx} {cc : ByteArray} {g : Gm} {nL d : Nat} {ret : Option FieldType} {Q : State → Prop} {pc : Nat} {lv : List (Nat × Value)} {st : List Value} {σ : St} (hC : Ok K cc RX6 g nL d ret) (j : Nat) (hj : j < 7) (hd : decode cc pc = .ok (.getfield 144, 3)) (k : J K (wX g) nL Q (pc + 3) lv (.ref (g.1 (37 + 5 * j + 1)) :: st) σ) : J K (wX g) nL Q (pc) lv (.ref (g.1 (37 + 5 * j)) :: st) σ := by
  obtain ⟨p, l, e, R, s, m, args, below, meth, c, D, A⟩ := K
  obtain ⟨hx, hb, hml, hown, hts, hK, hA, hSF, hR, hr, hlk⟩ := hC
  rcases (show j = 0 ∨ j = 1 ∨ j = 2 ∨ j = 3 ∨ j = 4 ∨ j = 5 ∨ j = 6 by omega) with rfl | rfl | rfl | rfl | rfl | rfl | rfl
  · exact fun H locs ls hl hP hD hS => va_get (D := D) (ci := 0) (C := RX0) (T := TX0) (N := 7) hx hb hts uwX0 hown hK hP 37 rfl rfl 2 (by decide) (hts _ mf_X6_144) (fun _ h9 => h9) rfl hd (k H locs ls hl hP hD hS)
  · exact fun H locs ls hl hP hD hS => va_get (D := D) (ci := 0) (C := RX0) (T := TX0) (N := 7) hx hb hts uwX0 hown hK hP 42 rfl rfl 2 (by decide) (hts _ mf_X6_144) (fun _ h9 => h9) rfl hd (k H locs ls hl hP hD hS)
  · exact fun H locs ls hl hP hD hS => va_get (D := D) (ci := 0) (C := RX0) (T := TX0) (N := 7) hx hb hts uwX0 hown hK hP 47 rfl rfl 2 (by decide) (hts _ mf_X6_144) (fun _ h9 => h9) rfl hd (k H locs ls hl hP hD hS)
  · exact fun H locs ls hl hP hD hS => va_get (D := D) (ci := 0) (C := RX0) (T := TX0) (N := 7) hx hb hts uwX0 hown hK hP 52 rfl rfl 2 (by decide) (hts _ mf_X6_144) (fun _ h9 => h9) rfl hd (k H locs ls hl hP hD hS)
  · exact fun H locs ls hl hP hD hS => va_get (D := D) (ci := 0) (C := RX0) (T := TX0) (N := 7) hx hb hts uwX0 hown hK hP 57 rfl rfl 2 (by decide) (hts _ mf_X6_144) (fun _ h9 => h9) rfl hd (k H locs ls hl hP hD hS)
  · exact fun H locs ls hl hP hD hS => va_get (D := D) (ci := 0) (C := RX0) (T := TX0) (N := 7) hx hb hts uwX0 hown hK hP 62 rfl rfl 2 (by decide) (hts _ mf_X6_144) (fun _ h9 => h9) rfl hd (k H locs ls hl hP hD hS)
  · exact fun H locs ls hl hP hD hS => va_get (D := D) (ci := 0) (C := RX0) (T := TX0) (N := 7) hx hb hts uwX0 hown hK hP 67 rfl rfl 2 (by decide) (hts _ mf_X6_144) (fun _ h9 => h9) rfl hd (k H locs ls hl hP hD hS)
theorem mf_X6_150 : Cond.fieldLink RX6 150 "SongHour$Songs" "played" "[I" ∈ GW := memT (i := 164) (by decide +kernel) rfl
theorem get_X6_150 {K : Kx} {cc : ByteArray} {g : Gm} {nL d : Nat} {ret : Option FieldType} {Q : State → Prop} {pc : Nat} {lv : List (Nat × Value)} {st : List Value} {σ : St} (hC : Ok K cc RX6 g nL d ret) (hd : decode cc pc = .ok (.getfield 150, 3)) (k : J K (wX g) nL Q (pc + 3) lv (.ref (g.1 16) :: st) σ) : J K (wX g) nL Q (pc) lv (.ref (g.1 8) :: st) σ := by
  obtain ⟨p, l, e, R, s, m, args, below, meth, c, D, A⟩ := K
  obtain ⟨hx, hb, hml, hown, hts, hK, hA, hSF, hR, hr, hlk⟩ := hC
  exact fun H locs ls hl hP hD hS => va_get (D := D) (ci := 4) (v := .ref (g.1 16)) (C := RX4) (T := TX4) (N := 14) hx hb hts uwX4 hown hK hP 8 rfl rfl 8 (by decide) (hts _ mf_X6_150) (fun _ h9 => h9) rfl hd (k H locs ls hl hP hD hS)
theorem mf_X6_153 : Cond.fieldLink RX6 153 "SongHour$Songs" "began" "[I" ∈ GW := memT (i := 167) (by decide +kernel) rfl
theorem get_X6_153 {K : Kx} {cc : ByteArray} {g : Gm} {nL d : Nat} {ret : Option FieldType} {Q : State → Prop} {pc : Nat} {lv : List (Nat × Value)} {st : List Value} {σ : St} (hC : Ok K cc RX6 g nL d ret) (hd : decode cc pc = .ok (.getfield 153, 3)) (k : J K (wX g) nL Q (pc + 3) lv (.ref (g.1 17) :: st) σ) : J K (wX g) nL Q (pc) lv (.ref (g.1 8) :: st) σ := by
  obtain ⟨p, l, e, R, s, m, args, below, meth, c, D, A⟩ := K
  obtain ⟨hx, hb, hml, hown, hts, hK, hA, hSF, hR, hr, hlk⟩ := hC
  exact fun H locs ls hl hP hD hS => va_get (D := D) (ci := 4) (v := .ref (g.1 17)) (C := RX4) (T := TX4) (N := 14) hx hb hts uwX4 hown hK hP 8 rfl rfl 9 (by decide) (hts _ mf_X6_153) (fun _ h9 => h9) rfl hd (k H locs ls hl hP hD hS)
theorem mf_X6_156 : Cond.fieldLink RX6 156 "SongHour$Songs" "asksDone" "[I" ∈ GW := memT (i := 162) (by decide +kernel) rfl
theorem get_X6_156 {K : Kx} {cc : ByteArray} {g : Gm} {nL d : Nat} {ret : Option FieldType} {Q : State → Prop} {pc : Nat} {lv : List (Nat × Value)} {st : List Value} {σ : St} (hC : Ok K cc RX6 g nL d ret) (hd : decode cc pc = .ok (.getfield 156, 3)) (k : J K (wX g) nL Q (pc + 3) lv (.ref (g.1 15) :: st) σ) : J K (wX g) nL Q (pc) lv (.ref (g.1 8) :: st) σ := by
  obtain ⟨p, l, e, R, s, m, args, below, meth, c, D, A⟩ := K
  obtain ⟨hx, hb, hml, hown, hts, hK, hA, hSF, hR, hr, hlk⟩ := hC
  exact fun H locs ls hl hP hD hS => va_get (D := D) (ci := 4) (v := .ref (g.1 15)) (C := RX4) (T := TX4) (N := 14) hx hb hts uwX4 hown hK hP 8 rfl rfl 7 (by decide) (hts _ mf_X6_156) (fun _ h9 => h9) rfl hd (k H locs ls hl hP hD hS)
theorem mf_X6_159 : Cond.fieldLink RX6 159 "SongHour$Log" "plays" "I" ∈ GW := memT (i := 211) (by decide +kernel) rfl
theorem get_X6_159 {K : Kx} {cc : ByteArray} {g : Gm} {nL d : Nat} {ret : Option FieldType} {Q : State → Prop} {pc : Nat} {lv : List (Nat × Value)} {st : List Value} {σ : St} (hC : Ok K cc RX6 g nL d ret) (hd : decode cc pc = .ok (.getfield 159, 3)) (k : J K (wX g) nL Q (pc + 3) lv (.int (gi σ 11) :: st) σ) : J K (wX g) nL Q (pc) lv (.ref (g.1 22) :: st) σ := by
  obtain ⟨p, l, e, R, s, m, args, below, meth, c, D, A⟩ := K
  obtain ⟨hx, hb, hml, hown, hts, hK, hA, hSF, hR, hr, hlk⟩ := hC
  exact fun H locs ls hl hP hD hS => va_get (D := D) (ci := 1) (v := .int (gi σ 11)) (C := RX1) (T := TX1) (N := 10) hx hb hts uwX1 hown hK hP 22 rfl rfl 1 (by decide) (hts _ mf_X6_159) (fun _ h9 => h9) rfl hd (k H locs ls hl hP hD hS)
theorem put_X6_159 {K : Kx} {cc : ByteArray} {g : Gm} {nL d : Nat} {ret : Option FieldType} {Q : State → Prop} {pc : Nat} {lv : List (Nat × Value)} {st : List Value} {σ : St} (hC : Ok K cc RX6 g nL d ret) {v : Int32} {ρ : Type} {o : ρ} {f : St → Option ρ} (hd : decode cc pc = .ok (.putfield 159, 3)) (h : bnd (si σ 11 v) f = some o) (k : ∀ σ2, f σ2 = some o → J K (wX g) nL Q (pc + 3) lv (st) σ2) : J K (wX g) nL Q (pc) lv (.int v :: .ref (g.1 22) :: st) σ := by
  obtain ⟨p, l, e, R, s, m, args, below, meth, c, D, A⟩ := K
  obtain ⟨hx, hb, hml, hown, hts, hK, hA, hSF, hR, hr, hlk⟩ := hC
  exact fun H locs ls hl hP hD hS => va_put (D := D) (ci := 1) (v := .int v) (ty := .int) (C := RX1) (T := TX1) (N := 10) hx hb hts uwX1 tyX1 tyX1_ok nmX1 hown hK hP hD hS 22 rfl rfl 1 (by decide) (hts _ mf_X6_159) (fun _ h9 => h9) rfl (by decide +kernel) rfl rfl (Nat.le_of_ble_eq_true rfl) hd (fun H locs hP hD hS => k _ h H locs ls hl hP hD hS)
theorem mf_X6_167 : Cond.fieldLink RX6 167 "SongHour$Log" "playSong" "[I" ∈ GW := memT (i := 221) (by decide +kernel) rfl
theorem get_X6_167 {K : Kx} {cc : ByteArray} {g : Gm} {nL d : Nat} {ret : Option FieldType} {Q : State → Prop} {pc : Nat} {lv : List (Nat × Value)} {st : List Value} {σ : St} (hC : Ok K cc RX6 g nL d ret) (hd : decode cc pc = .ok (.getfield 167, 3)) (k : J K (wX g) nL Q (pc + 3) lv (.ref (g.1 25) :: st) σ) : J K (wX g) nL Q (pc) lv (.ref (g.1 22) :: st) σ := by
  obtain ⟨p, l, e, R, s, m, args, below, meth, c, D, A⟩ := K
  obtain ⟨hx, hb, hml, hown, hts, hK, hA, hSF, hR, hr, hlk⟩ := hC
  exact fun H locs ls hl hP hD hS => va_get (D := D) (ci := 1) (v := .ref (g.1 25)) (C := RX1) (T := TX1) (N := 10) hx hb hts uwX1 hown hK hP 22 rfl rfl 6 (by decide) (hts _ mf_X6_167) (fun _ h9 => h9) rfl hd (k H locs ls hl hP hD hS)
theorem mf_X6_170 : Cond.fieldLink RX6 170 "SongHour$Log" "playBegan" "[I" ∈ GW := memT (i := 223) (by decide +kernel) rfl
theorem get_X6_170 {K : Kx} {cc : ByteArray} {g : Gm} {nL d : Nat} {ret : Option FieldType} {Q : State → Prop} {pc : Nat} {lv : List (Nat × Value)} {st : List Value} {σ : St} (hC : Ok K cc RX6 g nL d ret) (hd : decode cc pc = .ok (.getfield 170, 3)) (k : J K (wX g) nL Q (pc + 3) lv (.ref (g.1 26) :: st) σ) : J K (wX g) nL Q (pc) lv (.ref (g.1 22) :: st) σ := by
  obtain ⟨p, l, e, R, s, m, args, below, meth, c, D, A⟩ := K
  obtain ⟨hx, hb, hml, hown, hts, hK, hA, hSF, hR, hr, hlk⟩ := hC
  exact fun H locs ls hl hP hD hS => va_get (D := D) (ci := 1) (v := .ref (g.1 26)) (C := RX1) (T := TX1) (N := 10) hx hb hts uwX1 hown hK hP 22 rfl rfl 7 (by decide) (hts _ mf_X6_170) (fun _ h9 => h9) rfl hd (k H locs ls hl hP hD hS)
theorem mf_X6_173 : Cond.fieldLink RX6 173 "SongHour$Log" "playHour" "[I" ∈ GW := memT (i := 225) (by decide +kernel) rfl
theorem get_X6_173 {K : Kx} {cc : ByteArray} {g : Gm} {nL d : Nat} {ret : Option FieldType} {Q : State → Prop} {pc : Nat} {lv : List (Nat × Value)} {st : List Value} {σ : St} (hC : Ok K cc RX6 g nL d ret) (hd : decode cc pc = .ok (.getfield 173, 3)) (k : J K (wX g) nL Q (pc + 3) lv (.ref (g.1 27) :: st) σ) : J K (wX g) nL Q (pc) lv (.ref (g.1 22) :: st) σ := by
  obtain ⟨p, l, e, R, s, m, args, below, meth, c, D, A⟩ := K
  obtain ⟨hx, hb, hml, hown, hts, hK, hA, hSF, hR, hr, hlk⟩ := hC
  exact fun H locs ls hl hP hD hS => va_get (D := D) (ci := 1) (v := .ref (g.1 27)) (C := RX1) (T := TX1) (N := 10) hx hb hts uwX1 hown hK hP 22 rfl rfl 8 (by decide) (hts _ mf_X6_173) (fun _ h9 => h9) rfl hd (k H locs ls hl hP hD hS)
theorem mf_X6_176 : Cond.fieldLink RX6 176 "SongHour$Log" "playItem" "[I" ∈ GW := memT (i := 227) (by decide +kernel) rfl
theorem get_X6_176 {K : Kx} {cc : ByteArray} {g : Gm} {nL d : Nat} {ret : Option FieldType} {Q : State → Prop} {pc : Nat} {lv : List (Nat × Value)} {st : List Value} {σ : St} (hC : Ok K cc RX6 g nL d ret) (hd : decode cc pc = .ok (.getfield 176, 3)) (k : J K (wX g) nL Q (pc + 3) lv (.ref (g.1 28) :: st) σ) : J K (wX g) nL Q (pc) lv (.ref (g.1 22) :: st) σ := by
  obtain ⟨p, l, e, R, s, m, args, below, meth, c, D, A⟩ := K
  obtain ⟨hx, hb, hml, hown, hts, hK, hA, hSF, hR, hr, hlk⟩ := hC
  exact fun H locs ls hl hP hD hS => va_get (D := D) (ci := 1) (v := .ref (g.1 28)) (C := RX1) (T := TX1) (N := 10) hx hb hts uwX1 hown hK hP 22 rfl rfl 9 (by decide) (hts _ mf_X6_176) (fun _ h9 => h9) rfl hd (k H locs ls hl hP hD hS)
theorem mf_X6_179 : Cond.fieldLink RX6 179 "SongHour$Log" "hourItems" "[I" ∈ GW := memT (i := 217) (by decide +kernel) rfl
theorem get_X6_179 {K : Kx} {cc : ByteArray} {g : Gm} {nL d : Nat} {ret : Option FieldType} {Q : State → Prop} {pc : Nat} {lv : List (Nat × Value)} {st : List Value} {σ : St} (hC : Ok K cc RX6 g nL d ret) (hd : decode cc pc = .ok (.getfield 179, 3)) (k : J K (wX g) nL Q (pc + 3) lv (.ref (g.1 23) :: st) σ) : J K (wX g) nL Q (pc) lv (.ref (g.1 22) :: st) σ := by
  obtain ⟨p, l, e, R, s, m, args, below, meth, c, D, A⟩ := K
  obtain ⟨hx, hb, hml, hown, hts, hK, hA, hSF, hR, hr, hlk⟩ := hC
  exact fun H locs ls hl hP hD hS => va_get (D := D) (ci := 1) (v := .ref (g.1 23)) (C := RX1) (T := TX1) (N := 10) hx hb hts uwX1 hown hK hP 22 rfl rfl 4 (by decide) (hts _ mf_X6_179) (fun _ h9 => h9) rfl hd (k H locs ls hl hP hD hS)
theorem mf_X6_184 : Cond.fieldLink RX6 184 "SongHour$Log" "itemLeft" "[I" ∈ GW := memT (i := 219) (by decide +kernel) rfl
theorem get_X6_184 {K : Kx} {cc : ByteArray} {g : Gm} {nL d : Nat} {ret : Option FieldType} {Q : State → Prop} {pc : Nat} {lv : List (Nat × Value)} {st : List Value} {σ : St} (hC : Ok K cc RX6 g nL d ret) (hd : decode cc pc = .ok (.getfield 184, 3)) (k : J K (wX g) nL Q (pc + 3) lv (.ref (g.1 24) :: st) σ) : J K (wX g) nL Q (pc) lv (.ref (g.1 22) :: st) σ := by
  obtain ⟨p, l, e, R, s, m, args, below, meth, c, D, A⟩ := K
  obtain ⟨hx, hb, hml, hown, hts, hK, hA, hSF, hR, hr, hlk⟩ := hC
  exact fun H locs ls hl hP hD hS => va_get (D := D) (ci := 1) (v := .ref (g.1 24)) (C := RX1) (T := TX1) (N := 10) hx hb hts uwX1 hown hK hP 22 rfl rfl 5 (by decide) (hts _ mf_X6_184) (fun _ h9 => h9) rfl hd (k H locs ls hl hP hD hS)
theorem mf_X6_190 : Cond.fieldLink RX6 190 "SongHour$Songs" "artist" "[I" ∈ GW := memT (i := 151) (by decide +kernel) rfl
theorem get_X6_190 {K : Kx} {cc : ByteArray} {g : Gm} {nL d : Nat} {ret : Option FieldType} {Q : State → Prop} {pc : Nat} {lv : List (Nat × Value)} {st : List Value} {σ : St} (hC : Ok K cc RX6 g nL d ret) (hd : decode cc pc = .ok (.getfield 190, 3)) (k : J K (wX g) nL Q (pc + 3) lv (.ref (g.1 10) :: st) σ) : J K (wX g) nL Q (pc) lv (.ref (g.1 8) :: st) σ := by
  obtain ⟨p, l, e, R, s, m, args, below, meth, c, D, A⟩ := K
  obtain ⟨hx, hb, hml, hown, hts, hK, hA, hSF, hR, hr, hlk⟩ := hC
  exact fun H locs ls hl hP hD hS => va_get (D := D) (ci := 4) (v := .ref (g.1 10)) (C := RX4) (T := TX4) (N := 14) hx hb hts uwX4 hown hK hP 8 rfl rfl 2 (by decide) (hts _ mf_X6_190) (fun _ h9 => h9) rfl hd (k H locs ls hl hP hD hS)
theorem mf_X6_197 : Cond.fieldLink RX6 197 "SongHour$Log" "emptyStretches" "I" ∈ GW := memT (i := 213) (by decide +kernel) rfl
theorem get_X6_197 {K : Kx} {cc : ByteArray} {g : Gm} {nL d : Nat} {ret : Option FieldType} {Q : State → Prop} {pc : Nat} {lv : List (Nat × Value)} {st : List Value} {σ : St} (hC : Ok K cc RX6 g nL d ret) (hd : decode cc pc = .ok (.getfield 197, 3)) (k : J K (wX g) nL Q (pc + 3) lv (.int (gi σ 12) :: st) σ) : J K (wX g) nL Q (pc) lv (.ref (g.1 22) :: st) σ := by
  obtain ⟨p, l, e, R, s, m, args, below, meth, c, D, A⟩ := K
  obtain ⟨hx, hb, hml, hown, hts, hK, hA, hSF, hR, hr, hlk⟩ := hC
  exact fun H locs ls hl hP hD hS => va_get (D := D) (ci := 1) (v := .int (gi σ 12)) (C := RX1) (T := TX1) (N := 10) hx hb hts uwX1 hown hK hP 22 rfl rfl 2 (by decide) (hts _ mf_X6_197) (fun _ h9 => h9) rfl hd (k H locs ls hl hP hD hS)
theorem put_X6_197 {K : Kx} {cc : ByteArray} {g : Gm} {nL d : Nat} {ret : Option FieldType} {Q : State → Prop} {pc : Nat} {lv : List (Nat × Value)} {st : List Value} {σ : St} (hC : Ok K cc RX6 g nL d ret) {v : Int32} {ρ : Type} {o : ρ} {f : St → Option ρ} (hd : decode cc pc = .ok (.putfield 197, 3)) (h : bnd (si σ 12 v) f = some o) (k : ∀ σ2, f σ2 = some o → J K (wX g) nL Q (pc + 3) lv (st) σ2) : J K (wX g) nL Q (pc) lv (.int v :: .ref (g.1 22) :: st) σ := by
  obtain ⟨p, l, e, R, s, m, args, below, meth, c, D, A⟩ := K
  obtain ⟨hx, hb, hml, hown, hts, hK, hA, hSF, hR, hr, hlk⟩ := hC
  exact fun H locs ls hl hP hD hS => va_put (D := D) (ci := 1) (v := .int v) (ty := .int) (C := RX1) (T := TX1) (N := 10) hx hb hts uwX1 tyX1 tyX1_ok nmX1 hown hK hP hD hS 22 rfl rfl 2 (by decide) (hts _ mf_X6_197) (fun _ h9 => h9) rfl (by decide +kernel) rfl rfl (Nat.le_of_ble_eq_true rfl) hd (fun H locs hP hD hS => k _ h H locs ls hl hP hD hS)
theorem mf_X6_200 : Cond.fieldLink RX6 200 "SongHour$Log" "secondsLeft" "I" ∈ GW := memT (i := 215) (by decide +kernel) rfl
theorem get_X6_200 {K : Kx} {cc : ByteArray} {g : Gm} {nL d : Nat} {ret : Option FieldType} {Q : State → Prop} {pc : Nat} {lv : List (Nat × Value)} {st : List Value} {σ : St} (hC : Ok K cc RX6 g nL d ret) (hd : decode cc pc = .ok (.getfield 200, 3)) (k : J K (wX g) nL Q (pc + 3) lv (.int (gi σ 13) :: st) σ) : J K (wX g) nL Q (pc) lv (.ref (g.1 22) :: st) σ := by
  obtain ⟨p, l, e, R, s, m, args, below, meth, c, D, A⟩ := K
  obtain ⟨hx, hb, hml, hown, hts, hK, hA, hSF, hR, hr, hlk⟩ := hC
  exact fun H locs ls hl hP hD hS => va_get (D := D) (ci := 1) (v := .int (gi σ 13)) (C := RX1) (T := TX1) (N := 10) hx hb hts uwX1 hown hK hP 22 rfl rfl 3 (by decide) (hts _ mf_X6_200) (fun _ h9 => h9) rfl hd (k H locs ls hl hP hD hS)
theorem put_X6_200 {K : Kx} {cc : ByteArray} {g : Gm} {nL d : Nat} {ret : Option FieldType} {Q : State → Prop} {pc : Nat} {lv : List (Nat × Value)} {st : List Value} {σ : St} (hC : Ok K cc RX6 g nL d ret) {v : Int32} {ρ : Type} {o : ρ} {f : St → Option ρ} (hd : decode cc pc = .ok (.putfield 200, 3)) (h : bnd (si σ 13 v) f = some o) (k : ∀ σ2, f σ2 = some o → J K (wX g) nL Q (pc + 3) lv (st) σ2) : J K (wX g) nL Q (pc) lv (.int v :: .ref (g.1 22) :: st) σ := by
  obtain ⟨p, l, e, R, s, m, args, below, meth, c, D, A⟩ := K
  obtain ⟨hx, hb, hml, hown, hts, hK, hA, hSF, hR, hr, hlk⟩ := hC
  exact fun H locs ls hl hP hD hS => va_put (D := D) (ci := 1) (v := .int v) (ty := .int) (C := RX1) (T := TX1) (N := 10) hx hb hts uwX1 tyX1 tyX1_ok nmX1 hown hK hP hD hS 22 rfl rfl 3 (by decide) (hts _ mf_X6_200) (fun _ h9 => h9) rfl (by decide +kernel) rfl rfl (Nat.le_of_ble_eq_true rfl) hd (fun H locs hP hD hS => k _ h H locs ls hl hP hD hS)
theorem mf_X6_207 : Cond.fieldLink RX6 207 "SongHour$Clock" "mood" "[I" ∈ GW := memT (i := 114) (by decide +kernel) rfl
theorem get_X6_207 {K : Kx} {cc : ByteArray} {g : Gm} {nL d : Nat} {ret : Option FieldType} {Q : State → Prop} {pc : Nat} {lv : List (Nat × Value)} {st : List Value} {σ : St} (hC : Ok K cc RX6 g nL d ret) (j : Nat) (hj : j < 7) (hd : decode cc pc = .ok (.getfield 207, 3)) (k : J K (wX g) nL Q (pc + 3) lv (.ref (g.1 (37 + 5 * j + 2)) :: st) σ) : J K (wX g) nL Q (pc) lv (.ref (g.1 (37 + 5 * j)) :: st) σ := by
  obtain ⟨p, l, e, R, s, m, args, below, meth, c, D, A⟩ := K
  obtain ⟨hx, hb, hml, hown, hts, hK, hA, hSF, hR, hr, hlk⟩ := hC
  rcases (show j = 0 ∨ j = 1 ∨ j = 2 ∨ j = 3 ∨ j = 4 ∨ j = 5 ∨ j = 6 by omega) with rfl | rfl | rfl | rfl | rfl | rfl | rfl
  · exact fun H locs ls hl hP hD hS => va_get (D := D) (ci := 0) (C := RX0) (T := TX0) (N := 7) hx hb hts uwX0 hown hK hP 37 rfl rfl 3 (by decide) (hts _ mf_X6_207) (fun _ h9 => h9) rfl hd (k H locs ls hl hP hD hS)
  · exact fun H locs ls hl hP hD hS => va_get (D := D) (ci := 0) (C := RX0) (T := TX0) (N := 7) hx hb hts uwX0 hown hK hP 42 rfl rfl 3 (by decide) (hts _ mf_X6_207) (fun _ h9 => h9) rfl hd (k H locs ls hl hP hD hS)
  · exact fun H locs ls hl hP hD hS => va_get (D := D) (ci := 0) (C := RX0) (T := TX0) (N := 7) hx hb hts uwX0 hown hK hP 47 rfl rfl 3 (by decide) (hts _ mf_X6_207) (fun _ h9 => h9) rfl hd (k H locs ls hl hP hD hS)
  · exact fun H locs ls hl hP hD hS => va_get (D := D) (ci := 0) (C := RX0) (T := TX0) (N := 7) hx hb hts uwX0 hown hK hP 52 rfl rfl 3 (by decide) (hts _ mf_X6_207) (fun _ h9 => h9) rfl hd (k H locs ls hl hP hD hS)
  · exact fun H locs ls hl hP hD hS => va_get (D := D) (ci := 0) (C := RX0) (T := TX0) (N := 7) hx hb hts uwX0 hown hK hP 57 rfl rfl 3 (by decide) (hts _ mf_X6_207) (fun _ h9 => h9) rfl hd (k H locs ls hl hP hD hS)
  · exact fun H locs ls hl hP hD hS => va_get (D := D) (ci := 0) (C := RX0) (T := TX0) (N := 7) hx hb hts uwX0 hown hK hP 62 rfl rfl 3 (by decide) (hts _ mf_X6_207) (fun _ h9 => h9) rfl hd (k H locs ls hl hP hD hS)
  · exact fun H locs ls hl hP hD hS => va_get (D := D) (ci := 0) (C := RX0) (T := TX0) (N := 7) hx hb hts uwX0 hown hK hP 67 rfl rfl 3 (by decide) (hts _ mf_X6_207) (fun _ h9 => h9) rfl hd (k H locs ls hl hP hD hS)
theorem mf_X6_210 : Cond.fieldLink RX6 210 "SongHour$Clock" "wantedNew" "[I" ∈ GW := memT (i := 116) (by decide +kernel) rfl
theorem get_X6_210 {K : Kx} {cc : ByteArray} {g : Gm} {nL d : Nat} {ret : Option FieldType} {Q : State → Prop} {pc : Nat} {lv : List (Nat × Value)} {st : List Value} {σ : St} (hC : Ok K cc RX6 g nL d ret) (j : Nat) (hj : j < 7) (hd : decode cc pc = .ok (.getfield 210, 3)) (k : J K (wX g) nL Q (pc + 3) lv (.ref (g.1 (37 + 5 * j + 3)) :: st) σ) : J K (wX g) nL Q (pc) lv (.ref (g.1 (37 + 5 * j)) :: st) σ := by
  obtain ⟨p, l, e, R, s, m, args, below, meth, c, D, A⟩ := K
  obtain ⟨hx, hb, hml, hown, hts, hK, hA, hSF, hR, hr, hlk⟩ := hC
  rcases (show j = 0 ∨ j = 1 ∨ j = 2 ∨ j = 3 ∨ j = 4 ∨ j = 5 ∨ j = 6 by omega) with rfl | rfl | rfl | rfl | rfl | rfl | rfl
  · exact fun H locs ls hl hP hD hS => va_get (D := D) (ci := 0) (C := RX0) (T := TX0) (N := 7) hx hb hts uwX0 hown hK hP 37 rfl rfl 4 (by decide) (hts _ mf_X6_210) (fun _ h9 => h9) rfl hd (k H locs ls hl hP hD hS)
  · exact fun H locs ls hl hP hD hS => va_get (D := D) (ci := 0) (C := RX0) (T := TX0) (N := 7) hx hb hts uwX0 hown hK hP 42 rfl rfl 4 (by decide) (hts _ mf_X6_210) (fun _ h9 => h9) rfl hd (k H locs ls hl hP hD hS)
  · exact fun H locs ls hl hP hD hS => va_get (D := D) (ci := 0) (C := RX0) (T := TX0) (N := 7) hx hb hts uwX0 hown hK hP 47 rfl rfl 4 (by decide) (hts _ mf_X6_210) (fun _ h9 => h9) rfl hd (k H locs ls hl hP hD hS)
  · exact fun H locs ls hl hP hD hS => va_get (D := D) (ci := 0) (C := RX0) (T := TX0) (N := 7) hx hb hts uwX0 hown hK hP 52 rfl rfl 4 (by decide) (hts _ mf_X6_210) (fun _ h9 => h9) rfl hd (k H locs ls hl hP hD hS)
  · exact fun H locs ls hl hP hD hS => va_get (D := D) (ci := 0) (C := RX0) (T := TX0) (N := 7) hx hb hts uwX0 hown hK hP 57 rfl rfl 4 (by decide) (hts _ mf_X6_210) (fun _ h9 => h9) rfl hd (k H locs ls hl hP hD hS)
  · exact fun H locs ls hl hP hD hS => va_get (D := D) (ci := 0) (C := RX0) (T := TX0) (N := 7) hx hb hts uwX0 hown hK hP 62 rfl rfl 4 (by decide) (hts _ mf_X6_210) (fun _ h9 => h9) rfl hd (k H locs ls hl hP hD hS)
  · exact fun H locs ls hl hP hD hS => va_get (D := D) (ci := 0) (C := RX0) (T := TX0) (N := 7) hx hb hts uwX0 hown hK hP 67 rfl rfl 4 (by decide) (hts _ mf_X6_210) (fun _ h9 => h9) rfl hd (k H locs ls hl hP hD hS)
theorem mf_X6_224 : Cond.fieldLink RX6 224 "SongHour$RowSearch" "bestSize" "I" ∈ GW := memT (i := 258) (by decide +kernel) rfl
theorem get_X6_224 {K : Kx} {cc : ByteArray} {g : Gm} {nL d : Nat} {ret : Option FieldType} {Q : State → Prop} {pc : Nat} {lv : List (Nat × Value)} {st : List Value} {σ : St} (hC : Ok K cc RX6 g nL d ret) (hd : decode cc pc = .ok (.getfield 224, 3)) (k : J K (wX g) nL Q (pc + 3) lv (.int (gi σ 14) :: st) σ) : J K (wX g) nL Q (pc) lv (.ref (g.1 29) :: st) σ := by
  obtain ⟨p, l, e, R, s, m, args, below, meth, c, D, A⟩ := K
  obtain ⟨hx, hb, hml, hown, hts, hK, hA, hSF, hR, hr, hlk⟩ := hC
  exact fun H locs ls hl hP hD hS => va_get (D := D) (ci := 2) (v := .int (gi σ 14)) (C := RX2) (T := TX2) (N := 20) hx hb hts uwX2 hown hK hP 29 rfl rfl 1 (by decide) (hts _ mf_X6_224) (fun _ h9 => h9) rfl hd (k H locs ls hl hP hD hS)
theorem put_X6_224 {K : Kx} {cc : ByteArray} {g : Gm} {nL d : Nat} {ret : Option FieldType} {Q : State → Prop} {pc : Nat} {lv : List (Nat × Value)} {st : List Value} {σ : St} (hC : Ok K cc RX6 g nL d ret) {v : Int32} {ρ : Type} {o : ρ} {f : St → Option ρ} (hd : decode cc pc = .ok (.putfield 224, 3)) (h : bnd (si σ 14 v) f = some o) (k : ∀ σ2, f σ2 = some o → J K (wX g) nL Q (pc + 3) lv (st) σ2) : J K (wX g) nL Q (pc) lv (.int v :: .ref (g.1 29) :: st) σ := by
  obtain ⟨p, l, e, R, s, m, args, below, meth, c, D, A⟩ := K
  obtain ⟨hx, hb, hml, hown, hts, hK, hA, hSF, hR, hr, hlk⟩ := hC
  exact fun H locs ls hl hP hD hS => va_put (D := D) (ci := 2) (v := .int v) (ty := .int) (C := RX2) (T := TX2) (N := 20) hx hb hts uwX2 tyX2 tyX2_ok nmX2 hown hK hP hD hS 29 rfl rfl 1 (by decide) (hts _ mf_X6_224) (fun _ h9 => h9) rfl (by decide +kernel) rfl rfl (Nat.le_of_ble_eq_true rfl) hd (fun H locs hP hD hS => k _ h H locs ls hl hP hD hS)
theorem mf_X6_227 : Cond.fieldLink RX6 227 "SongHour$RowSearch" "best" "[I" ∈ GW := memT (i := 256) (by decide +kernel) rfl
theorem get_X6_227 {K : Kx} {cc : ByteArray} {g : Gm} {nL d : Nat} {ret : Option FieldType} {Q : State → Prop} {pc : Nat} {lv : List (Nat × Value)} {st : List Value} {σ : St} (hC : Ok K cc RX6 g nL d ret) (hd : decode cc pc = .ok (.getfield 227, 3)) (k : J K (wX g) nL Q (pc + 3) lv (.ref (g.1 30) :: st) σ) : J K (wX g) nL Q (pc) lv (.ref (g.1 29) :: st) σ := by
  obtain ⟨p, l, e, R, s, m, args, below, meth, c, D, A⟩ := K
  obtain ⟨hx, hb, hml, hown, hts, hK, hA, hSF, hR, hr, hlk⟩ := hC
  exact fun H locs ls hl hP hD hS => va_get (D := D) (ci := 2) (v := .ref (g.1 30)) (C := RX2) (T := TX2) (N := 20) hx hb hts uwX2 hown hK hP 29 rfl rfl 0 (by decide) (hts _ mf_X6_227) (fun _ h9 => h9) rfl hd (k H locs ls hl hP hD hS)
theorem mf_X6_237 : Cond.fieldLink RX6 237 "SongHour$Songs" "seconds" "[I" ∈ GW := memT (i := 148) (by decide +kernel) rfl
theorem get_X6_237 {K : Kx} {cc : ByteArray} {g : Gm} {nL d : Nat} {ret : Option FieldType} {Q : State → Prop} {pc : Nat} {lv : List (Nat × Value)} {st : List Value} {σ : St} (hC : Ok K cc RX6 g nL d ret) (hd : decode cc pc = .ok (.getfield 237, 3)) (k : J K (wX g) nL Q (pc + 3) lv (.ref (g.1 9) :: st) σ) : J K (wX g) nL Q (pc) lv (.ref (g.1 8) :: st) σ := by
  obtain ⟨p, l, e, R, s, m, args, below, meth, c, D, A⟩ := K
  obtain ⟨hx, hb, hml, hown, hts, hK, hA, hSF, hR, hr, hlk⟩ := hC
  exact fun H locs ls hl hP hD hS => va_get (D := D) (ci := 4) (v := .ref (g.1 9)) (C := RX4) (T := TX4) (N := 14) hx hb hts uwX4 hown hK hP 8 rfl rfl 1 (by decide) (hts _ mf_X6_237) (fun _ h9 => h9) rfl hd (k H locs ls hl hP hD hS)
theorem mf_X6_242 : Cond.fieldLink RX6 242 "SongHour$Songs" "key" "[I" ∈ GW := memT (i := 154) (by decide +kernel) rfl
theorem get_X6_242 {K : Kx} {cc : ByteArray} {g : Gm} {nL d : Nat} {ret : Option FieldType} {Q : State → Prop} {pc : Nat} {lv : List (Nat × Value)} {st : List Value} {σ : St} (hC : Ok K cc RX6 g nL d ret) (hd : decode cc pc = .ok (.getfield 242, 3)) (k : J K (wX g) nL Q (pc + 3) lv (.ref (g.1 11) :: st) σ) : J K (wX g) nL Q (pc) lv (.ref (g.1 8) :: st) σ := by
  obtain ⟨p, l, e, R, s, m, args, below, meth, c, D, A⟩ := K
  obtain ⟨hx, hb, hml, hown, hts, hK, hA, hSF, hR, hr, hlk⟩ := hC
  exact fun H locs ls hl hP hD hS => va_get (D := D) (ci := 4) (v := .ref (g.1 11)) (C := RX4) (T := TX4) (N := 14) hx hb hts uwX4 hown hK hP 8 rfl rfl 3 (by decide) (hts _ mf_X6_242) (fun _ h9 => h9) rfl hd (k H locs ls hl hP hD hS)
theorem mf_X0_9 : Cond.fieldLink RX0 9 "SongHour$Clock" "seconds" "[I" ∈ GW := memT (i := 111) (by decide +kernel) rfl
theorem get_X0_9 {K : Kx} {cc : ByteArray} {g : Gm} {nL d : Nat} {ret : Option FieldType} {Q : State → Prop} {pc : Nat} {lv : List (Nat × Value)} {st : List Value} {σ : St} (hC : Ok K cc RX0 g nL d ret) (j : Nat) (hj : j < 7) (hd : decode cc pc = .ok (.getfield 9, 3)) (k : J K (wX g) nL Q (pc + 3) lv (.ref (g.1 (37 + 5 * j + 1)) :: st) σ) : J K (wX g) nL Q (pc) lv (.ref (g.1 (37 + 5 * j)) :: st) σ := by
  obtain ⟨p, l, e, R, s, m, args, below, meth, c, D, A⟩ := K
  obtain ⟨hx, hb, hml, hown, hts, hK, hA, hSF, hR, hr, hlk⟩ := hC
  rcases (show j = 0 ∨ j = 1 ∨ j = 2 ∨ j = 3 ∨ j = 4 ∨ j = 5 ∨ j = 6 by omega) with rfl | rfl | rfl | rfl | rfl | rfl | rfl
  · exact fun H locs ls hl hP hD hS => va_get (D := D) (ci := 0) (C := RX0) (T := TX0) (N := 7) hx hb hts uwX0 hown hK hP 37 rfl rfl 2 (by decide) (hts _ mf_X0_9) (fun _ h9 => h9) rfl hd (k H locs ls hl hP hD hS)
  · exact fun H locs ls hl hP hD hS => va_get (D := D) (ci := 0) (C := RX0) (T := TX0) (N := 7) hx hb hts uwX0 hown hK hP 42 rfl rfl 2 (by decide) (hts _ mf_X0_9) (fun _ h9 => h9) rfl hd (k H locs ls hl hP hD hS)
  · exact fun H locs ls hl hP hD hS => va_get (D := D) (ci := 0) (C := RX0) (T := TX0) (N := 7) hx hb hts uwX0 hown hK hP 47 rfl rfl 2 (by decide) (hts _ mf_X0_9) (fun _ h9 => h9) rfl hd (k H locs ls hl hP hD hS)
  · exact fun H locs ls hl hP hD hS => va_get (D := D) (ci := 0) (C := RX0) (T := TX0) (N := 7) hx hb hts uwX0 hown hK hP 52 rfl rfl 2 (by decide) (hts _ mf_X0_9) (fun _ h9 => h9) rfl hd (k H locs ls hl hP hD hS)
  · exact fun H locs ls hl hP hD hS => va_get (D := D) (ci := 0) (C := RX0) (T := TX0) (N := 7) hx hb hts uwX0 hown hK hP 57 rfl rfl 2 (by decide) (hts _ mf_X0_9) (fun _ h9 => h9) rfl hd (k H locs ls hl hP hD hS)
  · exact fun H locs ls hl hP hD hS => va_get (D := D) (ci := 0) (C := RX0) (T := TX0) (N := 7) hx hb hts uwX0 hown hK hP 62 rfl rfl 2 (by decide) (hts _ mf_X0_9) (fun _ h9 => h9) rfl hd (k H locs ls hl hP hD hS)
  · exact fun H locs ls hl hP hD hS => va_get (D := D) (ci := 0) (C := RX0) (T := TX0) (N := 7) hx hb hts uwX0 hown hK hP 67 rfl rfl 2 (by decide) (hts _ mf_X0_9) (fun _ h9 => h9) rfl hd (k H locs ls hl hP hD hS)
theorem mf_X0_15 : Cond.fieldLink RX0 15 "SongHour$Clock" "mood" "[I" ∈ GW := memT (i := 113) (by decide +kernel) rfl
theorem get_X0_15 {K : Kx} {cc : ByteArray} {g : Gm} {nL d : Nat} {ret : Option FieldType} {Q : State → Prop} {pc : Nat} {lv : List (Nat × Value)} {st : List Value} {σ : St} (hC : Ok K cc RX0 g nL d ret) (j : Nat) (hj : j < 7) (hd : decode cc pc = .ok (.getfield 15, 3)) (k : J K (wX g) nL Q (pc + 3) lv (.ref (g.1 (37 + 5 * j + 2)) :: st) σ) : J K (wX g) nL Q (pc) lv (.ref (g.1 (37 + 5 * j)) :: st) σ := by
  obtain ⟨p, l, e, R, s, m, args, below, meth, c, D, A⟩ := K
  obtain ⟨hx, hb, hml, hown, hts, hK, hA, hSF, hR, hr, hlk⟩ := hC
  rcases (show j = 0 ∨ j = 1 ∨ j = 2 ∨ j = 3 ∨ j = 4 ∨ j = 5 ∨ j = 6 by omega) with rfl | rfl | rfl | rfl | rfl | rfl | rfl
  · exact fun H locs ls hl hP hD hS => va_get (D := D) (ci := 0) (C := RX0) (T := TX0) (N := 7) hx hb hts uwX0 hown hK hP 37 rfl rfl 3 (by decide) (hts _ mf_X0_15) (fun _ h9 => h9) rfl hd (k H locs ls hl hP hD hS)
  · exact fun H locs ls hl hP hD hS => va_get (D := D) (ci := 0) (C := RX0) (T := TX0) (N := 7) hx hb hts uwX0 hown hK hP 42 rfl rfl 3 (by decide) (hts _ mf_X0_15) (fun _ h9 => h9) rfl hd (k H locs ls hl hP hD hS)
  · exact fun H locs ls hl hP hD hS => va_get (D := D) (ci := 0) (C := RX0) (T := TX0) (N := 7) hx hb hts uwX0 hown hK hP 47 rfl rfl 3 (by decide) (hts _ mf_X0_15) (fun _ h9 => h9) rfl hd (k H locs ls hl hP hD hS)
  · exact fun H locs ls hl hP hD hS => va_get (D := D) (ci := 0) (C := RX0) (T := TX0) (N := 7) hx hb hts uwX0 hown hK hP 52 rfl rfl 3 (by decide) (hts _ mf_X0_15) (fun _ h9 => h9) rfl hd (k H locs ls hl hP hD hS)
  · exact fun H locs ls hl hP hD hS => va_get (D := D) (ci := 0) (C := RX0) (T := TX0) (N := 7) hx hb hts uwX0 hown hK hP 57 rfl rfl 3 (by decide) (hts _ mf_X0_15) (fun _ h9 => h9) rfl hd (k H locs ls hl hP hD hS)
  · exact fun H locs ls hl hP hD hS => va_get (D := D) (ci := 0) (C := RX0) (T := TX0) (N := 7) hx hb hts uwX0 hown hK hP 62 rfl rfl 3 (by decide) (hts _ mf_X0_15) (fun _ h9 => h9) rfl hd (k H locs ls hl hP hD hS)
  · exact fun H locs ls hl hP hD hS => va_get (D := D) (ci := 0) (C := RX0) (T := TX0) (N := 7) hx hb hts uwX0 hown hK hP 67 rfl rfl 3 (by decide) (hts _ mf_X0_15) (fun _ h9 => h9) rfl hd (k H locs ls hl hP hD hS)
theorem mf_X0_18 : Cond.fieldLink RX0 18 "SongHour$Clock" "wantedNew" "[I" ∈ GW := memT (i := 115) (by decide +kernel) rfl
theorem get_X0_18 {K : Kx} {cc : ByteArray} {g : Gm} {nL d : Nat} {ret : Option FieldType} {Q : State → Prop} {pc : Nat} {lv : List (Nat × Value)} {st : List Value} {σ : St} (hC : Ok K cc RX0 g nL d ret) (j : Nat) (hj : j < 7) (hd : decode cc pc = .ok (.getfield 18, 3)) (k : J K (wX g) nL Q (pc + 3) lv (.ref (g.1 (37 + 5 * j + 3)) :: st) σ) : J K (wX g) nL Q (pc) lv (.ref (g.1 (37 + 5 * j)) :: st) σ := by
  obtain ⟨p, l, e, R, s, m, args, below, meth, c, D, A⟩ := K
  obtain ⟨hx, hb, hml, hown, hts, hK, hA, hSF, hR, hr, hlk⟩ := hC
  rcases (show j = 0 ∨ j = 1 ∨ j = 2 ∨ j = 3 ∨ j = 4 ∨ j = 5 ∨ j = 6 by omega) with rfl | rfl | rfl | rfl | rfl | rfl | rfl
  · exact fun H locs ls hl hP hD hS => va_get (D := D) (ci := 0) (C := RX0) (T := TX0) (N := 7) hx hb hts uwX0 hown hK hP 37 rfl rfl 4 (by decide) (hts _ mf_X0_18) (fun _ h9 => h9) rfl hd (k H locs ls hl hP hD hS)
  · exact fun H locs ls hl hP hD hS => va_get (D := D) (ci := 0) (C := RX0) (T := TX0) (N := 7) hx hb hts uwX0 hown hK hP 42 rfl rfl 4 (by decide) (hts _ mf_X0_18) (fun _ h9 => h9) rfl hd (k H locs ls hl hP hD hS)
  · exact fun H locs ls hl hP hD hS => va_get (D := D) (ci := 0) (C := RX0) (T := TX0) (N := 7) hx hb hts uwX0 hown hK hP 47 rfl rfl 4 (by decide) (hts _ mf_X0_18) (fun _ h9 => h9) rfl hd (k H locs ls hl hP hD hS)
  · exact fun H locs ls hl hP hD hS => va_get (D := D) (ci := 0) (C := RX0) (T := TX0) (N := 7) hx hb hts uwX0 hown hK hP 52 rfl rfl 4 (by decide) (hts _ mf_X0_18) (fun _ h9 => h9) rfl hd (k H locs ls hl hP hD hS)
  · exact fun H locs ls hl hP hD hS => va_get (D := D) (ci := 0) (C := RX0) (T := TX0) (N := 7) hx hb hts uwX0 hown hK hP 57 rfl rfl 4 (by decide) (hts _ mf_X0_18) (fun _ h9 => h9) rfl hd (k H locs ls hl hP hD hS)
  · exact fun H locs ls hl hP hD hS => va_get (D := D) (ci := 0) (C := RX0) (T := TX0) (N := 7) hx hb hts uwX0 hown hK hP 62 rfl rfl 4 (by decide) (hts _ mf_X0_18) (fun _ h9 => h9) rfl hd (k H locs ls hl hP hD hS)
  · exact fun H locs ls hl hP hD hS => va_get (D := D) (ci := 0) (C := RX0) (T := TX0) (N := 7) hx hb hts uwX0 hown hK hP 67 rfl rfl 4 (by decide) (hts _ mf_X0_18) (fun _ h9 => h9) rfl hd (k H locs ls hl hP hD hS)
theorem mf_X0_21 : Cond.fieldLink RX0 21 "SongHour$Clock" "hasSongs" "[Z" ∈ GW := memT (i := 117) (by decide +kernel) rfl
theorem get_X0_21 {K : Kx} {cc : ByteArray} {g : Gm} {nL d : Nat} {ret : Option FieldType} {Q : State → Prop} {pc : Nat} {lv : List (Nat × Value)} {st : List Value} {σ : St} (hC : Ok K cc RX0 g nL d ret) (j : Nat) (hj : j < 7) (hd : decode cc pc = .ok (.getfield 21, 3)) (k : J K (wX g) nL Q (pc + 3) lv (.ref (g.1 (37 + 5 * j + 4)) :: st) σ) : J K (wX g) nL Q (pc) lv (.ref (g.1 (37 + 5 * j)) :: st) σ := by
  obtain ⟨p, l, e, R, s, m, args, below, meth, c, D, A⟩ := K
  obtain ⟨hx, hb, hml, hown, hts, hK, hA, hSF, hR, hr, hlk⟩ := hC
  rcases (show j = 0 ∨ j = 1 ∨ j = 2 ∨ j = 3 ∨ j = 4 ∨ j = 5 ∨ j = 6 by omega) with rfl | rfl | rfl | rfl | rfl | rfl | rfl
  · exact fun H locs ls hl hP hD hS => va_get (D := D) (ci := 0) (C := RX0) (T := TX0) (N := 7) hx hb hts uwX0 hown hK hP 37 rfl rfl 5 (by decide) (hts _ mf_X0_21) (fun _ h9 => h9) rfl hd (k H locs ls hl hP hD hS)
  · exact fun H locs ls hl hP hD hS => va_get (D := D) (ci := 0) (C := RX0) (T := TX0) (N := 7) hx hb hts uwX0 hown hK hP 42 rfl rfl 5 (by decide) (hts _ mf_X0_21) (fun _ h9 => h9) rfl hd (k H locs ls hl hP hD hS)
  · exact fun H locs ls hl hP hD hS => va_get (D := D) (ci := 0) (C := RX0) (T := TX0) (N := 7) hx hb hts uwX0 hown hK hP 47 rfl rfl 5 (by decide) (hts _ mf_X0_21) (fun _ h9 => h9) rfl hd (k H locs ls hl hP hD hS)
  · exact fun H locs ls hl hP hD hS => va_get (D := D) (ci := 0) (C := RX0) (T := TX0) (N := 7) hx hb hts uwX0 hown hK hP 52 rfl rfl 5 (by decide) (hts _ mf_X0_21) (fun _ h9 => h9) rfl hd (k H locs ls hl hP hD hS)
  · exact fun H locs ls hl hP hD hS => va_get (D := D) (ci := 0) (C := RX0) (T := TX0) (N := 7) hx hb hts uwX0 hown hK hP 57 rfl rfl 5 (by decide) (hts _ mf_X0_21) (fun _ h9 => h9) rfl hd (k H locs ls hl hP hD hS)
  · exact fun H locs ls hl hP hD hS => va_get (D := D) (ci := 0) (C := RX0) (T := TX0) (N := 7) hx hb hts uwX0 hown hK hP 62 rfl rfl 5 (by decide) (hts _ mf_X0_21) (fun _ h9 => h9) rfl hd (k H locs ls hl hP hD hS)
  · exact fun H locs ls hl hP hD hS => va_get (D := D) (ci := 0) (C := RX0) (T := TX0) (N := 7) hx hb hts uwX0 hown hK hP 67 rfl rfl 5 (by decide) (hts _ mf_X0_21) (fun _ h9 => h9) rfl hd (k H locs ls hl hP hD hS)
theorem mf_X0_25 : Cond.fieldLink RX0 25 "SongHour$Clock" "size" "I" ∈ GW := memT (i := 107) (by decide +kernel) rfl
theorem get_X0_25 {K : Kx} {cc : ByteArray} {g : Gm} {nL d : Nat} {ret : Option FieldType} {Q : State → Prop} {pc : Nat} {lv : List (Nat × Value)} {st : List Value} {σ : St} (hC : Ok K cc RX0 g nL d ret) (j : Nat) (hj : j < 7) (hd : decode cc pc = .ok (.getfield 25, 3)) (k : J K (wX g) nL Q (pc + 3) lv (.int (gi σ (27 + 3 * j + 0)) :: st) σ) : J K (wX g) nL Q (pc) lv (.ref (g.1 (37 + 5 * j)) :: st) σ := by
  obtain ⟨p, l, e, R, s, m, args, below, meth, c, D, A⟩ := K
  obtain ⟨hx, hb, hml, hown, hts, hK, hA, hSF, hR, hr, hlk⟩ := hC
  rcases (show j = 0 ∨ j = 1 ∨ j = 2 ∨ j = 3 ∨ j = 4 ∨ j = 5 ∨ j = 6 by omega) with rfl | rfl | rfl | rfl | rfl | rfl | rfl
  · exact fun H locs ls hl hP hD hS => va_get (D := D) (ci := 0) (C := RX0) (T := TX0) (N := 7) hx hb hts uwX0 hown hK hP 37 rfl rfl 0 (by decide) (hts _ mf_X0_25) (fun _ h9 => h9) rfl hd (k H locs ls hl hP hD hS)
  · exact fun H locs ls hl hP hD hS => va_get (D := D) (ci := 0) (C := RX0) (T := TX0) (N := 7) hx hb hts uwX0 hown hK hP 42 rfl rfl 0 (by decide) (hts _ mf_X0_25) (fun _ h9 => h9) rfl hd (k H locs ls hl hP hD hS)
  · exact fun H locs ls hl hP hD hS => va_get (D := D) (ci := 0) (C := RX0) (T := TX0) (N := 7) hx hb hts uwX0 hown hK hP 47 rfl rfl 0 (by decide) (hts _ mf_X0_25) (fun _ h9 => h9) rfl hd (k H locs ls hl hP hD hS)
  · exact fun H locs ls hl hP hD hS => va_get (D := D) (ci := 0) (C := RX0) (T := TX0) (N := 7) hx hb hts uwX0 hown hK hP 52 rfl rfl 0 (by decide) (hts _ mf_X0_25) (fun _ h9 => h9) rfl hd (k H locs ls hl hP hD hS)
  · exact fun H locs ls hl hP hD hS => va_get (D := D) (ci := 0) (C := RX0) (T := TX0) (N := 7) hx hb hts uwX0 hown hK hP 57 rfl rfl 0 (by decide) (hts _ mf_X0_25) (fun _ h9 => h9) rfl hd (k H locs ls hl hP hD hS)
  · exact fun H locs ls hl hP hD hS => va_get (D := D) (ci := 0) (C := RX0) (T := TX0) (N := 7) hx hb hts uwX0 hown hK hP 62 rfl rfl 0 (by decide) (hts _ mf_X0_25) (fun _ h9 => h9) rfl hd (k H locs ls hl hP hD hS)
  · exact fun H locs ls hl hP hD hS => va_get (D := D) (ci := 0) (C := RX0) (T := TX0) (N := 7) hx hb hts uwX0 hown hK hP 67 rfl rfl 0 (by decide) (hts _ mf_X0_25) (fun _ h9 => h9) rfl hd (k H locs ls hl hP hD hS)
theorem put_X0_25 {K : Kx} {cc : ByteArray} {g : Gm} {nL d : Nat} {ret : Option FieldType} {Q : State → Prop} {pc : Nat} {lv : List (Nat × Value)} {st : List Value} {σ : St} (hC : Ok K cc RX0 g nL d ret) (j : Nat) (hj : j < 7) {v : Int32} {ρ : Type} {o : ρ} {f : St → Option ρ} (hd : decode cc pc = .ok (.putfield 25, 3)) (h : bnd (si σ (27 + 3 * j + 0) v) f = some o) (k : ∀ σ2, f σ2 = some o → J K (wX g) nL Q (pc + 3) lv (st) σ2) : J K (wX g) nL Q (pc) lv (.int v :: .ref (g.1 (37 + 5 * j)) :: st) σ := by
  obtain ⟨p, l, e, R, s, m, args, below, meth, c, D, A⟩ := K
  obtain ⟨hx, hb, hml, hown, hts, hK, hA, hSF, hR, hr, hlk⟩ := hC
  rcases (show j = 0 ∨ j = 1 ∨ j = 2 ∨ j = 3 ∨ j = 4 ∨ j = 5 ∨ j = 6 by omega) with rfl | rfl | rfl | rfl | rfl | rfl | rfl
  · exact fun H locs ls hl hP hD hS => va_put (D := D) (ci := 0) (v := .int v) (ty := .int) (C := RX0) (T := TX0) (N := 7) hx hb hts uwX0 tyX0 tyX0_ok nmX0 hown hK hP hD hS 37 rfl rfl 0 (by decide) (hts _ mf_X0_25) (fun _ h9 => h9) rfl (by decide +kernel) rfl rfl (Nat.le_of_ble_eq_true rfl) hd (fun H locs hP hD hS => k _ h H locs ls hl hP hD hS)
  · exact fun H locs ls hl hP hD hS => va_put (D := D) (ci := 0) (v := .int v) (ty := .int) (C := RX0) (T := TX0) (N := 7) hx hb hts uwX0 tyX0 tyX0_ok nmX0 hown hK hP hD hS 42 rfl rfl 0 (by decide) (hts _ mf_X0_25) (fun _ h9 => h9) rfl (by decide +kernel) rfl rfl (Nat.le_of_ble_eq_true rfl) hd (fun H locs hP hD hS => k _ h H locs ls hl hP hD hS)
  · exact fun H locs ls hl hP hD hS => va_put (D := D) (ci := 0) (v := .int v) (ty := .int) (C := RX0) (T := TX0) (N := 7) hx hb hts uwX0 tyX0 tyX0_ok nmX0 hown hK hP hD hS 47 rfl rfl 0 (by decide) (hts _ mf_X0_25) (fun _ h9 => h9) rfl (by decide +kernel) rfl rfl (Nat.le_of_ble_eq_true rfl) hd (fun H locs hP hD hS => k _ h H locs ls hl hP hD hS)
  · exact fun H locs ls hl hP hD hS => va_put (D := D) (ci := 0) (v := .int v) (ty := .int) (C := RX0) (T := TX0) (N := 7) hx hb hts uwX0 tyX0 tyX0_ok nmX0 hown hK hP hD hS 52 rfl rfl 0 (by decide) (hts _ mf_X0_25) (fun _ h9 => h9) rfl (by decide +kernel) rfl rfl (Nat.le_of_ble_eq_true rfl) hd (fun H locs hP hD hS => k _ h H locs ls hl hP hD hS)
  · exact fun H locs ls hl hP hD hS => va_put (D := D) (ci := 0) (v := .int v) (ty := .int) (C := RX0) (T := TX0) (N := 7) hx hb hts uwX0 tyX0 tyX0_ok nmX0 hown hK hP hD hS 57 rfl rfl 0 (by decide) (hts _ mf_X0_25) (fun _ h9 => h9) rfl (by decide +kernel) rfl rfl (Nat.le_of_ble_eq_true rfl) hd (fun H locs hP hD hS => k _ h H locs ls hl hP hD hS)
  · exact fun H locs ls hl hP hD hS => va_put (D := D) (ci := 0) (v := .int v) (ty := .int) (C := RX0) (T := TX0) (N := 7) hx hb hts uwX0 tyX0 tyX0_ok nmX0 hown hK hP hD hS 62 rfl rfl 0 (by decide) (hts _ mf_X0_25) (fun _ h9 => h9) rfl (by decide +kernel) rfl rfl (Nat.le_of_ble_eq_true rfl) hd (fun H locs hP hD hS => k _ h H locs ls hl hP hD hS)
  · exact fun H locs ls hl hP hD hS => va_put (D := D) (ci := 0) (v := .int v) (ty := .int) (C := RX0) (T := TX0) (N := 7) hx hb hts uwX0 tyX0 tyX0_ok nmX0 hown hK hP hD hS 67 rfl rfl 0 (by decide) (hts _ mf_X0_25) (fun _ h9 => h9) rfl (by decide +kernel) rfl rfl (Nat.le_of_ble_eq_true rfl) hd (fun H locs hP hD hS => k _ h H locs ls hl hP hD hS)
theorem mf_X0_29 : Cond.fieldLink RX0 29 "SongHour$Clock" "stretches" "I" ∈ GW := memT (i := 109) (by decide +kernel) rfl
theorem get_X0_29 {K : Kx} {cc : ByteArray} {g : Gm} {nL d : Nat} {ret : Option FieldType} {Q : State → Prop} {pc : Nat} {lv : List (Nat × Value)} {st : List Value} {σ : St} (hC : Ok K cc RX0 g nL d ret) (j : Nat) (hj : j < 7) (hd : decode cc pc = .ok (.getfield 29, 3)) (k : J K (wX g) nL Q (pc + 3) lv (.int (gi σ (27 + 3 * j + 1)) :: st) σ) : J K (wX g) nL Q (pc) lv (.ref (g.1 (37 + 5 * j)) :: st) σ := by
  obtain ⟨p, l, e, R, s, m, args, below, meth, c, D, A⟩ := K
  obtain ⟨hx, hb, hml, hown, hts, hK, hA, hSF, hR, hr, hlk⟩ := hC
  rcases (show j = 0 ∨ j = 1 ∨ j = 2 ∨ j = 3 ∨ j = 4 ∨ j = 5 ∨ j = 6 by omega) with rfl | rfl | rfl | rfl | rfl | rfl | rfl
  · exact fun H locs ls hl hP hD hS => va_get (D := D) (ci := 0) (C := RX0) (T := TX0) (N := 7) hx hb hts uwX0 hown hK hP 37 rfl rfl 1 (by decide) (hts _ mf_X0_29) (fun _ h9 => h9) rfl hd (k H locs ls hl hP hD hS)
  · exact fun H locs ls hl hP hD hS => va_get (D := D) (ci := 0) (C := RX0) (T := TX0) (N := 7) hx hb hts uwX0 hown hK hP 42 rfl rfl 1 (by decide) (hts _ mf_X0_29) (fun _ h9 => h9) rfl hd (k H locs ls hl hP hD hS)
  · exact fun H locs ls hl hP hD hS => va_get (D := D) (ci := 0) (C := RX0) (T := TX0) (N := 7) hx hb hts uwX0 hown hK hP 47 rfl rfl 1 (by decide) (hts _ mf_X0_29) (fun _ h9 => h9) rfl hd (k H locs ls hl hP hD hS)
  · exact fun H locs ls hl hP hD hS => va_get (D := D) (ci := 0) (C := RX0) (T := TX0) (N := 7) hx hb hts uwX0 hown hK hP 52 rfl rfl 1 (by decide) (hts _ mf_X0_29) (fun _ h9 => h9) rfl hd (k H locs ls hl hP hD hS)
  · exact fun H locs ls hl hP hD hS => va_get (D := D) (ci := 0) (C := RX0) (T := TX0) (N := 7) hx hb hts uwX0 hown hK hP 57 rfl rfl 1 (by decide) (hts _ mf_X0_29) (fun _ h9 => h9) rfl hd (k H locs ls hl hP hD hS)
  · exact fun H locs ls hl hP hD hS => va_get (D := D) (ci := 0) (C := RX0) (T := TX0) (N := 7) hx hb hts uwX0 hown hK hP 62 rfl rfl 1 (by decide) (hts _ mf_X0_29) (fun _ h9 => h9) rfl hd (k H locs ls hl hP hD hS)
  · exact fun H locs ls hl hP hD hS => va_get (D := D) (ci := 0) (C := RX0) (T := TX0) (N := 7) hx hb hts uwX0 hown hK hP 67 rfl rfl 1 (by decide) (hts _ mf_X0_29) (fun _ h9 => h9) rfl hd (k H locs ls hl hP hD hS)
theorem put_X0_29 {K : Kx} {cc : ByteArray} {g : Gm} {nL d : Nat} {ret : Option FieldType} {Q : State → Prop} {pc : Nat} {lv : List (Nat × Value)} {st : List Value} {σ : St} (hC : Ok K cc RX0 g nL d ret) (j : Nat) (hj : j < 7) {v : Int32} {ρ : Type} {o : ρ} {f : St → Option ρ} (hd : decode cc pc = .ok (.putfield 29, 3)) (h : bnd (si σ (27 + 3 * j + 1) v) f = some o) (k : ∀ σ2, f σ2 = some o → J K (wX g) nL Q (pc + 3) lv (st) σ2) : J K (wX g) nL Q (pc) lv (.int v :: .ref (g.1 (37 + 5 * j)) :: st) σ := by
  obtain ⟨p, l, e, R, s, m, args, below, meth, c, D, A⟩ := K
  obtain ⟨hx, hb, hml, hown, hts, hK, hA, hSF, hR, hr, hlk⟩ := hC
  rcases (show j = 0 ∨ j = 1 ∨ j = 2 ∨ j = 3 ∨ j = 4 ∨ j = 5 ∨ j = 6 by omega) with rfl | rfl | rfl | rfl | rfl | rfl | rfl
  · exact fun H locs ls hl hP hD hS => va_put (D := D) (ci := 0) (v := .int v) (ty := .int) (C := RX0) (T := TX0) (N := 7) hx hb hts uwX0 tyX0 tyX0_ok nmX0 hown hK hP hD hS 37 rfl rfl 1 (by decide) (hts _ mf_X0_29) (fun _ h9 => h9) rfl (by decide +kernel) rfl rfl (Nat.le_of_ble_eq_true rfl) hd (fun H locs hP hD hS => k _ h H locs ls hl hP hD hS)
  · exact fun H locs ls hl hP hD hS => va_put (D := D) (ci := 0) (v := .int v) (ty := .int) (C := RX0) (T := TX0) (N := 7) hx hb hts uwX0 tyX0 tyX0_ok nmX0 hown hK hP hD hS 42 rfl rfl 1 (by decide) (hts _ mf_X0_29) (fun _ h9 => h9) rfl (by decide +kernel) rfl rfl (Nat.le_of_ble_eq_true rfl) hd (fun H locs hP hD hS => k _ h H locs ls hl hP hD hS)
  · exact fun H locs ls hl hP hD hS => va_put (D := D) (ci := 0) (v := .int v) (ty := .int) (C := RX0) (T := TX0) (N := 7) hx hb hts uwX0 tyX0 tyX0_ok nmX0 hown hK hP hD hS 47 rfl rfl 1 (by decide) (hts _ mf_X0_29) (fun _ h9 => h9) rfl (by decide +kernel) rfl rfl (Nat.le_of_ble_eq_true rfl) hd (fun H locs hP hD hS => k _ h H locs ls hl hP hD hS)
  · exact fun H locs ls hl hP hD hS => va_put (D := D) (ci := 0) (v := .int v) (ty := .int) (C := RX0) (T := TX0) (N := 7) hx hb hts uwX0 tyX0 tyX0_ok nmX0 hown hK hP hD hS 52 rfl rfl 1 (by decide) (hts _ mf_X0_29) (fun _ h9 => h9) rfl (by decide +kernel) rfl rfl (Nat.le_of_ble_eq_true rfl) hd (fun H locs hP hD hS => k _ h H locs ls hl hP hD hS)
  · exact fun H locs ls hl hP hD hS => va_put (D := D) (ci := 0) (v := .int v) (ty := .int) (C := RX0) (T := TX0) (N := 7) hx hb hts uwX0 tyX0 tyX0_ok nmX0 hown hK hP hD hS 57 rfl rfl 1 (by decide) (hts _ mf_X0_29) (fun _ h9 => h9) rfl (by decide +kernel) rfl rfl (Nat.le_of_ble_eq_true rfl) hd (fun H locs hP hD hS => k _ h H locs ls hl hP hD hS)
  · exact fun H locs ls hl hP hD hS => va_put (D := D) (ci := 0) (v := .int v) (ty := .int) (C := RX0) (T := TX0) (N := 7) hx hb hts uwX0 tyX0 tyX0_ok nmX0 hown hK hP hD hS 62 rfl rfl 1 (by decide) (hts _ mf_X0_29) (fun _ h9 => h9) rfl (by decide +kernel) rfl rfl (Nat.le_of_ble_eq_true rfl) hd (fun H locs hP hD hS => k _ h H locs ls hl hP hD hS)
  · exact fun H locs ls hl hP hD hS => va_put (D := D) (ci := 0) (v := .int v) (ty := .int) (C := RX0) (T := TX0) (N := 7) hx hb hts uwX0 tyX0 tyX0_ok nmX0 hown hK hP hD hS 67 rfl rfl 1 (by decide) (hts _ mf_X0_29) (fun _ h9 => h9) rfl (by decide +kernel) rfl rfl (Nat.le_of_ble_eq_true rfl) hd (fun H locs hP hD hS => k _ h H locs ls hl hP hD hS)
theorem mf_X0_32 : Cond.fieldLink RX0 32 "SongHour$Clock" "total" "I" ∈ GW := memT (i := 118) (by decide +kernel) rfl
theorem get_X0_32 {K : Kx} {cc : ByteArray} {g : Gm} {nL d : Nat} {ret : Option FieldType} {Q : State → Prop} {pc : Nat} {lv : List (Nat × Value)} {st : List Value} {σ : St} (hC : Ok K cc RX0 g nL d ret) (j : Nat) (hj : j < 7) (hd : decode cc pc = .ok (.getfield 32, 3)) (k : J K (wX g) nL Q (pc + 3) lv (.int (gi σ (27 + 3 * j + 2)) :: st) σ) : J K (wX g) nL Q (pc) lv (.ref (g.1 (37 + 5 * j)) :: st) σ := by
  obtain ⟨p, l, e, R, s, m, args, below, meth, c, D, A⟩ := K
  obtain ⟨hx, hb, hml, hown, hts, hK, hA, hSF, hR, hr, hlk⟩ := hC
  rcases (show j = 0 ∨ j = 1 ∨ j = 2 ∨ j = 3 ∨ j = 4 ∨ j = 5 ∨ j = 6 by omega) with rfl | rfl | rfl | rfl | rfl | rfl | rfl
  · exact fun H locs ls hl hP hD hS => va_get (D := D) (ci := 0) (C := RX0) (T := TX0) (N := 7) hx hb hts uwX0 hown hK hP 37 rfl rfl 6 (by decide) (hts _ mf_X0_32) (fun _ h9 => h9) rfl hd (k H locs ls hl hP hD hS)
  · exact fun H locs ls hl hP hD hS => va_get (D := D) (ci := 0) (C := RX0) (T := TX0) (N := 7) hx hb hts uwX0 hown hK hP 42 rfl rfl 6 (by decide) (hts _ mf_X0_32) (fun _ h9 => h9) rfl hd (k H locs ls hl hP hD hS)
  · exact fun H locs ls hl hP hD hS => va_get (D := D) (ci := 0) (C := RX0) (T := TX0) (N := 7) hx hb hts uwX0 hown hK hP 47 rfl rfl 6 (by decide) (hts _ mf_X0_32) (fun _ h9 => h9) rfl hd (k H locs ls hl hP hD hS)
  · exact fun H locs ls hl hP hD hS => va_get (D := D) (ci := 0) (C := RX0) (T := TX0) (N := 7) hx hb hts uwX0 hown hK hP 52 rfl rfl 6 (by decide) (hts _ mf_X0_32) (fun _ h9 => h9) rfl hd (k H locs ls hl hP hD hS)
  · exact fun H locs ls hl hP hD hS => va_get (D := D) (ci := 0) (C := RX0) (T := TX0) (N := 7) hx hb hts uwX0 hown hK hP 57 rfl rfl 6 (by decide) (hts _ mf_X0_32) (fun _ h9 => h9) rfl hd (k H locs ls hl hP hD hS)
  · exact fun H locs ls hl hP hD hS => va_get (D := D) (ci := 0) (C := RX0) (T := TX0) (N := 7) hx hb hts uwX0 hown hK hP 62 rfl rfl 6 (by decide) (hts _ mf_X0_32) (fun _ h9 => h9) rfl hd (k H locs ls hl hP hD hS)
  · exact fun H locs ls hl hP hD hS => va_get (D := D) (ci := 0) (C := RX0) (T := TX0) (N := 7) hx hb hts uwX0 hown hK hP 67 rfl rfl 6 (by decide) (hts _ mf_X0_32) (fun _ h9 => h9) rfl hd (k H locs ls hl hP hD hS)
theorem put_X0_32 {K : Kx} {cc : ByteArray} {g : Gm} {nL d : Nat} {ret : Option FieldType} {Q : State → Prop} {pc : Nat} {lv : List (Nat × Value)} {st : List Value} {σ : St} (hC : Ok K cc RX0 g nL d ret) (j : Nat) (hj : j < 7) {v : Int32} {ρ : Type} {o : ρ} {f : St → Option ρ} (hd : decode cc pc = .ok (.putfield 32, 3)) (h : bnd (si σ (27 + 3 * j + 2) v) f = some o) (k : ∀ σ2, f σ2 = some o → J K (wX g) nL Q (pc + 3) lv (st) σ2) : J K (wX g) nL Q (pc) lv (.int v :: .ref (g.1 (37 + 5 * j)) :: st) σ := by
  obtain ⟨p, l, e, R, s, m, args, below, meth, c, D, A⟩ := K
  obtain ⟨hx, hb, hml, hown, hts, hK, hA, hSF, hR, hr, hlk⟩ := hC
  rcases (show j = 0 ∨ j = 1 ∨ j = 2 ∨ j = 3 ∨ j = 4 ∨ j = 5 ∨ j = 6 by omega) with rfl | rfl | rfl | rfl | rfl | rfl | rfl
  · exact fun H locs ls hl hP hD hS => va_put (D := D) (ci := 0) (v := .int v) (ty := .int) (C := RX0) (T := TX0) (N := 7) hx hb hts uwX0 tyX0 tyX0_ok nmX0 hown hK hP hD hS 37 rfl rfl 6 (by decide) (hts _ mf_X0_32) (fun _ h9 => h9) rfl (by decide +kernel) rfl rfl (Nat.le_of_ble_eq_true rfl) hd (fun H locs hP hD hS => k _ h H locs ls hl hP hD hS)
  · exact fun H locs ls hl hP hD hS => va_put (D := D) (ci := 0) (v := .int v) (ty := .int) (C := RX0) (T := TX0) (N := 7) hx hb hts uwX0 tyX0 tyX0_ok nmX0 hown hK hP hD hS 42 rfl rfl 6 (by decide) (hts _ mf_X0_32) (fun _ h9 => h9) rfl (by decide +kernel) rfl rfl (Nat.le_of_ble_eq_true rfl) hd (fun H locs hP hD hS => k _ h H locs ls hl hP hD hS)
  · exact fun H locs ls hl hP hD hS => va_put (D := D) (ci := 0) (v := .int v) (ty := .int) (C := RX0) (T := TX0) (N := 7) hx hb hts uwX0 tyX0 tyX0_ok nmX0 hown hK hP hD hS 47 rfl rfl 6 (by decide) (hts _ mf_X0_32) (fun _ h9 => h9) rfl (by decide +kernel) rfl rfl (Nat.le_of_ble_eq_true rfl) hd (fun H locs hP hD hS => k _ h H locs ls hl hP hD hS)
  · exact fun H locs ls hl hP hD hS => va_put (D := D) (ci := 0) (v := .int v) (ty := .int) (C := RX0) (T := TX0) (N := 7) hx hb hts uwX0 tyX0 tyX0_ok nmX0 hown hK hP hD hS 52 rfl rfl 6 (by decide) (hts _ mf_X0_32) (fun _ h9 => h9) rfl (by decide +kernel) rfl rfl (Nat.le_of_ble_eq_true rfl) hd (fun H locs hP hD hS => k _ h H locs ls hl hP hD hS)
  · exact fun H locs ls hl hP hD hS => va_put (D := D) (ci := 0) (v := .int v) (ty := .int) (C := RX0) (T := TX0) (N := 7) hx hb hts uwX0 tyX0 tyX0_ok nmX0 hown hK hP hD hS 57 rfl rfl 6 (by decide) (hts _ mf_X0_32) (fun _ h9 => h9) rfl (by decide +kernel) rfl rfl (Nat.le_of_ble_eq_true rfl) hd (fun H locs hP hD hS => k _ h H locs ls hl hP hD hS)
  · exact fun H locs ls hl hP hD hS => va_put (D := D) (ci := 0) (v := .int v) (ty := .int) (C := RX0) (T := TX0) (N := 7) hx hb hts uwX0 tyX0 tyX0_ok nmX0 hown hK hP hD hS 62 rfl rfl 6 (by decide) (hts _ mf_X0_32) (fun _ h9 => h9) rfl (by decide +kernel) rfl rfl (Nat.le_of_ble_eq_true rfl) hd (fun H locs hP hD hS => k _ h H locs ls hl hP hD hS)
  · exact fun H locs ls hl hP hD hS => va_put (D := D) (ci := 0) (v := .int v) (ty := .int) (C := RX0) (T := TX0) (N := 7) hx hb hts uwX0 tyX0 tyX0_ok nmX0 hown hK hP hD hS 67 rfl rfl 6 (by decide) (hts _ mf_X0_32) (fun _ h9 => h9) rfl (by decide +kernel) rfl rfl (Nat.le_of_ble_eq_true rfl) hd (fun H locs hP hD hS => k _ h H locs ls hl hP hD hS)
theorem mf_X0_41 : Cond.fieldLink RX0 41 "SongHour$Text" "token" "I" ∈ GW := memT (i := 43) (by decide +kernel) rfl
theorem get_X0_41 {K : Kx} {cc : ByteArray} {g : Gm} {nL d : Nat} {ret : Option FieldType} {Q : State → Prop} {pc : Nat} {lv : List (Nat × Value)} {st : List Value} {σ : St} (hC : Ok K cc RX0 g nL d ret) (hd : decode cc pc = .ok (.getfield 41, 3)) (k : J K (wX g) nL Q (pc + 3) lv (.int (gi σ 3) :: st) σ) : J K (wX g) nL Q (pc) lv (.ref (g.1 2) :: st) σ := by
  obtain ⟨p, l, e, R, s, m, args, below, meth, c, D, A⟩ := K
  obtain ⟨hx, hb, hml, hown, hts, hK, hA, hSF, hR, hr, hlk⟩ := hC
  exact fun H locs ls hl hP hD hS => va_get (D := D) (ci := 5) (v := .int (gi σ 3)) (C := RX5) (T := TX5) (N := 9) hx hb hts uwX5 hown hK hP 2 rfl rfl 4 (by decide) (hts _ mf_X0_41) (fun _ h9 => h9) rfl hd (k H locs ls hl hP hD hS)
theorem put_X0_41 {K : Kx} {cc : ByteArray} {g : Gm} {nL d : Nat} {ret : Option FieldType} {Q : State → Prop} {pc : Nat} {lv : List (Nat × Value)} {st : List Value} {σ : St} (hC : Ok K cc RX0 g nL d ret) {v : Int32} {ρ : Type} {o : ρ} {f : St → Option ρ} (hd : decode cc pc = .ok (.putfield 41, 3)) (h : bnd (si σ 3 v) f = some o) (k : ∀ σ2, f σ2 = some o → J K (wX g) nL Q (pc + 3) lv (st) σ2) : J K (wX g) nL Q (pc) lv (.int v :: .ref (g.1 2) :: st) σ := by
  obtain ⟨p, l, e, R, s, m, args, below, meth, c, D, A⟩ := K
  obtain ⟨hx, hb, hml, hown, hts, hK, hA, hSF, hR, hr, hlk⟩ := hC
  exact fun H locs ls hl hP hD hS => va_put (D := D) (ci := 5) (v := .int v) (ty := .int) (C := RX5) (T := TX5) (N := 9) hx hb hts uwX5 tyX5 tyX5_ok nmX5 hown hK hP hD hS 2 rfl rfl 4 (by decide) (hts _ mf_X0_41) (fun _ h9 => h9) rfl (by decide +kernel) rfl rfl (Nat.le_of_ble_eq_true rfl) hd (fun H locs hP hD hS => k _ h H locs ls hl hP hD hS)
theorem mf_X0_64 : Cond.fieldLink RX0 64 "SongHour$Text" "value" "I" ∈ GW := memT (i := 46) (by decide +kernel) rfl
theorem get_X0_64 {K : Kx} {cc : ByteArray} {g : Gm} {nL d : Nat} {ret : Option FieldType} {Q : State → Prop} {pc : Nat} {lv : List (Nat × Value)} {st : List Value} {σ : St} (hC : Ok K cc RX0 g nL d ret) (hd : decode cc pc = .ok (.getfield 64, 3)) (k : J K (wX g) nL Q (pc + 3) lv (.int (gi σ 4) :: st) σ) : J K (wX g) nL Q (pc) lv (.ref (g.1 2) :: st) σ := by
  obtain ⟨p, l, e, R, s, m, args, below, meth, c, D, A⟩ := K
  obtain ⟨hx, hb, hml, hown, hts, hK, hA, hSF, hR, hr, hlk⟩ := hC
  exact fun H locs ls hl hP hD hS => va_get (D := D) (ci := 5) (v := .int (gi σ 4)) (C := RX5) (T := TX5) (N := 9) hx hb hts uwX5 hown hK hP 2 rfl rfl 5 (by decide) (hts _ mf_X0_64) (fun _ h9 => h9) rfl hd (k H locs ls hl hP hD hS)
theorem put_X0_64 {K : Kx} {cc : ByteArray} {g : Gm} {nL d : Nat} {ret : Option FieldType} {Q : State → Prop} {pc : Nat} {lv : List (Nat × Value)} {st : List Value} {σ : St} (hC : Ok K cc RX0 g nL d ret) {v : Int32} {ρ : Type} {o : ρ} {f : St → Option ρ} (hd : decode cc pc = .ok (.putfield 64, 3)) (h : bnd (si σ 4 v) f = some o) (k : ∀ σ2, f σ2 = some o → J K (wX g) nL Q (pc + 3) lv (st) σ2) : J K (wX g) nL Q (pc) lv (.int v :: .ref (g.1 2) :: st) σ := by
  obtain ⟨p, l, e, R, s, m, args, below, meth, c, D, A⟩ := K
  obtain ⟨hx, hb, hml, hown, hts, hK, hA, hSF, hR, hr, hlk⟩ := hC
  exact fun H locs ls hl hP hD hS => va_put (D := D) (ci := 5) (v := .int v) (ty := .int) (C := RX5) (T := TX5) (N := 9) hx hb hts uwX5 tyX5 tyX5_ok nmX5 hown hK hP hD hS 2 rfl rfl 5 (by decide) (hts _ mf_X0_64) (fun _ h9 => h9) rfl (by decide +kernel) rfl rfl (Nat.le_of_ble_eq_true rfl) hd (fun H locs hP hD hS => k _ h H locs ls hl hP hD hS)
theorem mf_X1_9 : Cond.fieldLink RX1 9 "SongHour$Log" "hourItems" "[I" ∈ GW := memT (i := 216) (by decide +kernel) rfl
theorem get_X1_9 {K : Kx} {cc : ByteArray} {g : Gm} {nL d : Nat} {ret : Option FieldType} {Q : State → Prop} {pc : Nat} {lv : List (Nat × Value)} {st : List Value} {σ : St} (hC : Ok K cc RX1 g nL d ret) (hd : decode cc pc = .ok (.getfield 9, 3)) (k : J K (wX g) nL Q (pc + 3) lv (.ref (g.1 23) :: st) σ) : J K (wX g) nL Q (pc) lv (.ref (g.1 22) :: st) σ := by
  obtain ⟨p, l, e, R, s, m, args, below, meth, c, D, A⟩ := K
  obtain ⟨hx, hb, hml, hown, hts, hK, hA, hSF, hR, hr, hlk⟩ := hC
  exact fun H locs ls hl hP hD hS => va_get (D := D) (ci := 1) (v := .ref (g.1 23)) (C := RX1) (T := TX1) (N := 10) hx hb hts uwX1 hown hK hP 22 rfl rfl 4 (by decide) (hts _ mf_X1_9) (fun _ h9 => h9) rfl hd (k H locs ls hl hP hD hS)
theorem mf_X1_15 : Cond.fieldLink RX1 15 "SongHour$Log" "itemLeft" "[I" ∈ GW := memT (i := 218) (by decide +kernel) rfl
theorem get_X1_15 {K : Kx} {cc : ByteArray} {g : Gm} {nL d : Nat} {ret : Option FieldType} {Q : State → Prop} {pc : Nat} {lv : List (Nat × Value)} {st : List Value} {σ : St} (hC : Ok K cc RX1 g nL d ret) (hd : decode cc pc = .ok (.getfield 15, 3)) (k : J K (wX g) nL Q (pc + 3) lv (.ref (g.1 24) :: st) σ) : J K (wX g) nL Q (pc) lv (.ref (g.1 22) :: st) σ := by
  obtain ⟨p, l, e, R, s, m, args, below, meth, c, D, A⟩ := K
  obtain ⟨hx, hb, hml, hown, hts, hK, hA, hSF, hR, hr, hlk⟩ := hC
  exact fun H locs ls hl hP hD hS => va_get (D := D) (ci := 1) (v := .ref (g.1 24)) (C := RX1) (T := TX1) (N := 10) hx hb hts uwX1 hown hK hP 22 rfl rfl 5 (by decide) (hts _ mf_X1_15) (fun _ h9 => h9) rfl hd (k H locs ls hl hP hD hS)
theorem mf_X1_18 : Cond.fieldLink RX1 18 "SongHour$Log" "playSong" "[I" ∈ GW := memT (i := 220) (by decide +kernel) rfl
theorem get_X1_18 {K : Kx} {cc : ByteArray} {g : Gm} {nL d : Nat} {ret : Option FieldType} {Q : State → Prop} {pc : Nat} {lv : List (Nat × Value)} {st : List Value} {σ : St} (hC : Ok K cc RX1 g nL d ret) (hd : decode cc pc = .ok (.getfield 18, 3)) (k : J K (wX g) nL Q (pc + 3) lv (.ref (g.1 25) :: st) σ) : J K (wX g) nL Q (pc) lv (.ref (g.1 22) :: st) σ := by
  obtain ⟨p, l, e, R, s, m, args, below, meth, c, D, A⟩ := K
  obtain ⟨hx, hb, hml, hown, hts, hK, hA, hSF, hR, hr, hlk⟩ := hC
  exact fun H locs ls hl hP hD hS => va_get (D := D) (ci := 1) (v := .ref (g.1 25)) (C := RX1) (T := TX1) (N := 10) hx hb hts uwX1 hown hK hP 22 rfl rfl 6 (by decide) (hts _ mf_X1_18) (fun _ h9 => h9) rfl hd (k H locs ls hl hP hD hS)
theorem mf_X1_21 : Cond.fieldLink RX1 21 "SongHour$Log" "playBegan" "[I" ∈ GW := memT (i := 222) (by decide +kernel) rfl
theorem get_X1_21 {K : Kx} {cc : ByteArray} {g : Gm} {nL d : Nat} {ret : Option FieldType} {Q : State → Prop} {pc : Nat} {lv : List (Nat × Value)} {st : List Value} {σ : St} (hC : Ok K cc RX1 g nL d ret) (hd : decode cc pc = .ok (.getfield 21, 3)) (k : J K (wX g) nL Q (pc + 3) lv (.ref (g.1 26) :: st) σ) : J K (wX g) nL Q (pc) lv (.ref (g.1 22) :: st) σ := by
  obtain ⟨p, l, e, R, s, m, args, below, meth, c, D, A⟩ := K
  obtain ⟨hx, hb, hml, hown, hts, hK, hA, hSF, hR, hr, hlk⟩ := hC
  exact fun H locs ls hl hP hD hS => va_get (D := D) (ci := 1) (v := .ref (g.1 26)) (C := RX1) (T := TX1) (N := 10) hx hb hts uwX1 hown hK hP 22 rfl rfl 7 (by decide) (hts _ mf_X1_21) (fun _ h9 => h9) rfl hd (k H locs ls hl hP hD hS)
theorem mf_X1_24 : Cond.fieldLink RX1 24 "SongHour$Log" "playHour" "[I" ∈ GW := memT (i := 224) (by decide +kernel) rfl
theorem get_X1_24 {K : Kx} {cc : ByteArray} {g : Gm} {nL d : Nat} {ret : Option FieldType} {Q : State → Prop} {pc : Nat} {lv : List (Nat × Value)} {st : List Value} {σ : St} (hC : Ok K cc RX1 g nL d ret) (hd : decode cc pc = .ok (.getfield 24, 3)) (k : J K (wX g) nL Q (pc + 3) lv (.ref (g.1 27) :: st) σ) : J K (wX g) nL Q (pc) lv (.ref (g.1 22) :: st) σ := by
  obtain ⟨p, l, e, R, s, m, args, below, meth, c, D, A⟩ := K
  obtain ⟨hx, hb, hml, hown, hts, hK, hA, hSF, hR, hr, hlk⟩ := hC
  exact fun H locs ls hl hP hD hS => va_get (D := D) (ci := 1) (v := .ref (g.1 27)) (C := RX1) (T := TX1) (N := 10) hx hb hts uwX1 hown hK hP 22 rfl rfl 8 (by decide) (hts _ mf_X1_24) (fun _ h9 => h9) rfl hd (k H locs ls hl hP hD hS)
theorem mf_X1_27 : Cond.fieldLink RX1 27 "SongHour$Log" "playItem" "[I" ∈ GW := memT (i := 226) (by decide +kernel) rfl
theorem get_X1_27 {K : Kx} {cc : ByteArray} {g : Gm} {nL d : Nat} {ret : Option FieldType} {Q : State → Prop} {pc : Nat} {lv : List (Nat × Value)} {st : List Value} {σ : St} (hC : Ok K cc RX1 g nL d ret) (hd : decode cc pc = .ok (.getfield 27, 3)) (k : J K (wX g) nL Q (pc + 3) lv (.ref (g.1 28) :: st) σ) : J K (wX g) nL Q (pc) lv (.ref (g.1 22) :: st) σ := by
  obtain ⟨p, l, e, R, s, m, args, below, meth, c, D, A⟩ := K
  obtain ⟨hx, hb, hml, hown, hts, hK, hA, hSF, hR, hr, hlk⟩ := hC
  exact fun H locs ls hl hP hD hS => va_get (D := D) (ci := 1) (v := .ref (g.1 28)) (C := RX1) (T := TX1) (N := 10) hx hb hts uwX1 hown hK hP 22 rfl rfl 9 (by decide) (hts _ mf_X1_27) (fun _ h9 => h9) rfl hd (k H locs ls hl hP hD hS)
theorem mf_X1_30 : Cond.fieldLink RX1 30 "SongHour$Log" "hours" "I" ∈ GW := memT (i := 208) (by decide +kernel) rfl
theorem get_X1_30 {K : Kx} {cc : ByteArray} {g : Gm} {nL d : Nat} {ret : Option FieldType} {Q : State → Prop} {pc : Nat} {lv : List (Nat × Value)} {st : List Value} {σ : St} (hC : Ok K cc RX1 g nL d ret) (hd : decode cc pc = .ok (.getfield 30, 3)) (k : J K (wX g) nL Q (pc + 3) lv (.int (gi σ 10) :: st) σ) : J K (wX g) nL Q (pc) lv (.ref (g.1 22) :: st) σ := by
  obtain ⟨p, l, e, R, s, m, args, below, meth, c, D, A⟩ := K
  obtain ⟨hx, hb, hml, hown, hts, hK, hA, hSF, hR, hr, hlk⟩ := hC
  exact fun H locs ls hl hP hD hS => va_get (D := D) (ci := 1) (v := .int (gi σ 10)) (C := RX1) (T := TX1) (N := 10) hx hb hts uwX1 hown hK hP 22 rfl rfl 0 (by decide) (hts _ mf_X1_30) (fun _ h9 => h9) rfl hd (k H locs ls hl hP hD hS)
theorem put_X1_30 {K : Kx} {cc : ByteArray} {g : Gm} {nL d : Nat} {ret : Option FieldType} {Q : State → Prop} {pc : Nat} {lv : List (Nat × Value)} {st : List Value} {σ : St} (hC : Ok K cc RX1 g nL d ret) {v : Int32} {ρ : Type} {o : ρ} {f : St → Option ρ} (hd : decode cc pc = .ok (.putfield 30, 3)) (h : bnd (si σ 10 v) f = some o) (k : ∀ σ2, f σ2 = some o → J K (wX g) nL Q (pc + 3) lv (st) σ2) : J K (wX g) nL Q (pc) lv (.int v :: .ref (g.1 22) :: st) σ := by
  obtain ⟨p, l, e, R, s, m, args, below, meth, c, D, A⟩ := K
  obtain ⟨hx, hb, hml, hown, hts, hK, hA, hSF, hR, hr, hlk⟩ := hC
  exact fun H locs ls hl hP hD hS => va_put (D := D) (ci := 1) (v := .int v) (ty := .int) (C := RX1) (T := TX1) (N := 10) hx hb hts uwX1 tyX1 tyX1_ok nmX1 hown hK hP hD hS 22 rfl rfl 0 (by decide) (hts _ mf_X1_30) (fun _ h9 => h9) rfl (by decide +kernel) rfl rfl (Nat.le_of_ble_eq_true rfl) hd (fun H locs hP hD hS => k _ h H locs ls hl hP hD hS)
theorem mf_X1_34 : Cond.fieldLink RX1 34 "SongHour$Log" "plays" "I" ∈ GW := memT (i := 210) (by decide +kernel) rfl
theorem get_X1_34 {K : Kx} {cc : ByteArray} {g : Gm} {nL d : Nat} {ret : Option FieldType} {Q : State → Prop} {pc : Nat} {lv : List (Nat × Value)} {st : List Value} {σ : St} (hC : Ok K cc RX1 g nL d ret) (hd : decode cc pc = .ok (.getfield 34, 3)) (k : J K (wX g) nL Q (pc + 3) lv (.int (gi σ 11) :: st) σ) : J K (wX g) nL Q (pc) lv (.ref (g.1 22) :: st) σ := by
  obtain ⟨p, l, e, R, s, m, args, below, meth, c, D, A⟩ := K
  obtain ⟨hx, hb, hml, hown, hts, hK, hA, hSF, hR, hr, hlk⟩ := hC
  exact fun H locs ls hl hP hD hS => va_get (D := D) (ci := 1) (v := .int (gi σ 11)) (C := RX1) (T := TX1) (N := 10) hx hb hts uwX1 hown hK hP 22 rfl rfl 1 (by decide) (hts _ mf_X1_34) (fun _ h9 => h9) rfl hd (k H locs ls hl hP hD hS)
theorem put_X1_34 {K : Kx} {cc : ByteArray} {g : Gm} {nL d : Nat} {ret : Option FieldType} {Q : State → Prop} {pc : Nat} {lv : List (Nat × Value)} {st : List Value} {σ : St} (hC : Ok K cc RX1 g nL d ret) {v : Int32} {ρ : Type} {o : ρ} {f : St → Option ρ} (hd : decode cc pc = .ok (.putfield 34, 3)) (h : bnd (si σ 11 v) f = some o) (k : ∀ σ2, f σ2 = some o → J K (wX g) nL Q (pc + 3) lv (st) σ2) : J K (wX g) nL Q (pc) lv (.int v :: .ref (g.1 22) :: st) σ := by
  obtain ⟨p, l, e, R, s, m, args, below, meth, c, D, A⟩ := K
  obtain ⟨hx, hb, hml, hown, hts, hK, hA, hSF, hR, hr, hlk⟩ := hC
  exact fun H locs ls hl hP hD hS => va_put (D := D) (ci := 1) (v := .int v) (ty := .int) (C := RX1) (T := TX1) (N := 10) hx hb hts uwX1 tyX1 tyX1_ok nmX1 hown hK hP hD hS 22 rfl rfl 1 (by decide) (hts _ mf_X1_34) (fun _ h9 => h9) rfl (by decide +kernel) rfl rfl (Nat.le_of_ble_eq_true rfl) hd (fun H locs hP hD hS => k _ h H locs ls hl hP hD hS)
theorem mf_X1_37 : Cond.fieldLink RX1 37 "SongHour$Log" "secondsLeft" "I" ∈ GW := memT (i := 214) (by decide +kernel) rfl
theorem get_X1_37 {K : Kx} {cc : ByteArray} {g : Gm} {nL d : Nat} {ret : Option FieldType} {Q : State → Prop} {pc : Nat} {lv : List (Nat × Value)} {st : List Value} {σ : St} (hC : Ok K cc RX1 g nL d ret) (hd : decode cc pc = .ok (.getfield 37, 3)) (k : J K (wX g) nL Q (pc + 3) lv (.int (gi σ 13) :: st) σ) : J K (wX g) nL Q (pc) lv (.ref (g.1 22) :: st) σ := by
  obtain ⟨p, l, e, R, s, m, args, below, meth, c, D, A⟩ := K
  obtain ⟨hx, hb, hml, hown, hts, hK, hA, hSF, hR, hr, hlk⟩ := hC
  exact fun H locs ls hl hP hD hS => va_get (D := D) (ci := 1) (v := .int (gi σ 13)) (C := RX1) (T := TX1) (N := 10) hx hb hts uwX1 hown hK hP 22 rfl rfl 3 (by decide) (hts _ mf_X1_37) (fun _ h9 => h9) rfl hd (k H locs ls hl hP hD hS)
theorem put_X1_37 {K : Kx} {cc : ByteArray} {g : Gm} {nL d : Nat} {ret : Option FieldType} {Q : State → Prop} {pc : Nat} {lv : List (Nat × Value)} {st : List Value} {σ : St} (hC : Ok K cc RX1 g nL d ret) {v : Int32} {ρ : Type} {o : ρ} {f : St → Option ρ} (hd : decode cc pc = .ok (.putfield 37, 3)) (h : bnd (si σ 13 v) f = some o) (k : ∀ σ2, f σ2 = some o → J K (wX g) nL Q (pc + 3) lv (st) σ2) : J K (wX g) nL Q (pc) lv (.int v :: .ref (g.1 22) :: st) σ := by
  obtain ⟨p, l, e, R, s, m, args, below, meth, c, D, A⟩ := K
  obtain ⟨hx, hb, hml, hown, hts, hK, hA, hSF, hR, hr, hlk⟩ := hC
  exact fun H locs ls hl hP hD hS => va_put (D := D) (ci := 1) (v := .int v) (ty := .int) (C := RX1) (T := TX1) (N := 10) hx hb hts uwX1 tyX1 tyX1_ok nmX1 hown hK hP hD hS 22 rfl rfl 3 (by decide) (hts _ mf_X1_37) (fun _ h9 => h9) rfl (by decide +kernel) rfl rfl (Nat.le_of_ble_eq_true rfl) hd (fun H locs hP hD hS => k _ h H locs ls hl hP hD hS)
theorem mf_X1_40 : Cond.fieldLink RX1 40 "SongHour$Log" "emptyStretches" "I" ∈ GW := memT (i := 212) (by decide +kernel) rfl
theorem get_X1_40 {K : Kx} {cc : ByteArray} {g : Gm} {nL d : Nat} {ret : Option FieldType} {Q : State → Prop} {pc : Nat} {lv : List (Nat × Value)} {st : List Value} {σ : St} (hC : Ok K cc RX1 g nL d ret) (hd : decode cc pc = .ok (.getfield 40, 3)) (k : J K (wX g) nL Q (pc + 3) lv (.int (gi σ 12) :: st) σ) : J K (wX g) nL Q (pc) lv (.ref (g.1 22) :: st) σ := by
  obtain ⟨p, l, e, R, s, m, args, below, meth, c, D, A⟩ := K
  obtain ⟨hx, hb, hml, hown, hts, hK, hA, hSF, hR, hr, hlk⟩ := hC
  exact fun H locs ls hl hP hD hS => va_get (D := D) (ci := 1) (v := .int (gi σ 12)) (C := RX1) (T := TX1) (N := 10) hx hb hts uwX1 hown hK hP 22 rfl rfl 2 (by decide) (hts _ mf_X1_40) (fun _ h9 => h9) rfl hd (k H locs ls hl hP hD hS)
theorem put_X1_40 {K : Kx} {cc : ByteArray} {g : Gm} {nL d : Nat} {ret : Option FieldType} {Q : State → Prop} {pc : Nat} {lv : List (Nat × Value)} {st : List Value} {σ : St} (hC : Ok K cc RX1 g nL d ret) {v : Int32} {ρ : Type} {o : ρ} {f : St → Option ρ} (hd : decode cc pc = .ok (.putfield 40, 3)) (h : bnd (si σ 12 v) f = some o) (k : ∀ σ2, f σ2 = some o → J K (wX g) nL Q (pc + 3) lv (st) σ2) : J K (wX g) nL Q (pc) lv (.int v :: .ref (g.1 22) :: st) σ := by
  obtain ⟨p, l, e, R, s, m, args, below, meth, c, D, A⟩ := K
  obtain ⟨hx, hb, hml, hown, hts, hK, hA, hSF, hR, hr, hlk⟩ := hC
  exact fun H locs ls hl hP hD hS => va_put (D := D) (ci := 1) (v := .int v) (ty := .int) (C := RX1) (T := TX1) (N := 10) hx hb hts uwX1 tyX1 tyX1_ok nmX1 hown hK hP hD hS 22 rfl rfl 2 (by decide) (hts _ mf_X1_40) (fun _ h9 => h9) rfl (by decide +kernel) rfl rfl (Nat.le_of_ble_eq_true rfl) hd (fun H locs hP hD hS => k _ h H locs ls hl hP hD hS)
theorem mf_X2_9 : Cond.fieldLink RX2 9 "SongHour$RowSearch" "best" "[I" ∈ GW := memT (i := 255) (by decide +kernel) rfl
theorem get_X2_9 {K : Kx} {cc : ByteArray} {g : Gm} {nL d : Nat} {ret : Option FieldType} {Q : State → Prop} {pc : Nat} {lv : List (Nat × Value)} {st : List Value} {σ : St} (hC : Ok K cc RX2 g nL d ret) (hd : decode cc pc = .ok (.getfield 9, 3)) (k : J K (wX g) nL Q (pc + 3) lv (.ref (g.1 30) :: st) σ) : J K (wX g) nL Q (pc) lv (.ref (g.1 29) :: st) σ := by
  obtain ⟨p, l, e, R, s, m, args, below, meth, c, D, A⟩ := K
  obtain ⟨hx, hb, hml, hown, hts, hK, hA, hSF, hR, hr, hlk⟩ := hC
  exact fun H locs ls hl hP hD hS => va_get (D := D) (ci := 2) (v := .ref (g.1 30)) (C := RX2) (T := TX2) (N := 20) hx hb hts uwX2 hown hK hP 29 rfl rfl 0 (by decide) (hts _ mf_X2_9) (fun _ h9 => h9) rfl hd (k H locs ls hl hP hD hS)
theorem mf_X2_15 : Cond.fieldLink RX2 15 "SongHour$RowSearch" "row" "[I" ∈ GW := memT (i := 261) (by decide +kernel) rfl
theorem get_X2_15 {K : Kx} {cc : ByteArray} {g : Gm} {nL d : Nat} {ret : Option FieldType} {Q : State → Prop} {pc : Nat} {lv : List (Nat × Value)} {st : List Value} {σ : St} (hC : Ok K cc RX2 g nL d ret) (hd : decode cc pc = .ok (.getfield 15, 3)) (k : J K (wX g) nL Q (pc + 3) lv (.ref (g.1 31) :: st) σ) : J K (wX g) nL Q (pc) lv (.ref (g.1 29) :: st) σ := by
  obtain ⟨p, l, e, R, s, m, args, below, meth, c, D, A⟩ := K
  obtain ⟨hx, hb, hml, hown, hts, hK, hA, hSF, hR, hr, hlk⟩ := hC
  exact fun H locs ls hl hP hD hS => va_get (D := D) (ci := 2) (v := .ref (g.1 31)) (C := RX2) (T := TX2) (N := 20) hx hb hts uwX2 hown hK hP 29 rfl rfl 4 (by decide) (hts _ mf_X2_15) (fun _ h9 => h9) rfl hd (k H locs ls hl hP hD hS)
theorem mf_X2_18 : Cond.fieldLink RX2 18 "SongHour$RowSearch" "heat" "[I" ∈ GW := memT (i := 262) (by decide +kernel) rfl
theorem get_X2_18 {K : Kx} {cc : ByteArray} {g : Gm} {nL d : Nat} {ret : Option FieldType} {Q : State → Prop} {pc : Nat} {lv : List (Nat × Value)} {st : List Value} {σ : St} (hC : Ok K cc RX2 g nL d ret) (hd : decode cc pc = .ok (.getfield 18, 3)) (k : J K (wX g) nL Q (pc + 3) lv (.ref (g.1 32) :: st) σ) : J K (wX g) nL Q (pc) lv (.ref (g.1 29) :: st) σ := by
  obtain ⟨p, l, e, R, s, m, args, below, meth, c, D, A⟩ := K
  obtain ⟨hx, hb, hml, hown, hts, hK, hA, hSF, hR, hr, hlk⟩ := hC
  exact fun H locs ls hl hP hD hS => va_get (D := D) (ci := 2) (v := .ref (g.1 32)) (C := RX2) (T := TX2) (N := 20) hx hb hts uwX2 hown hK hP 29 rfl rfl 5 (by decide) (hts _ mf_X2_18) (fun _ h9 => h9) rfl hd (k H locs ls hl hP hD hS)
theorem mf_X2_21 : Cond.fieldLink RX2 21 "SongHour$RowSearch" "songFree" "[I" ∈ GW := memT (i := 263) (by decide +kernel) rfl
theorem get_X2_21 {K : Kx} {cc : ByteArray} {g : Gm} {nL d : Nat} {ret : Option FieldType} {Q : State → Prop} {pc : Nat} {lv : List (Nat × Value)} {st : List Value} {σ : St} (hC : Ok K cc RX2 g nL d ret) (hd : decode cc pc = .ok (.getfield 21, 3)) (k : J K (wX g) nL Q (pc + 3) lv (.ref (g.1 33) :: st) σ) : J K (wX g) nL Q (pc) lv (.ref (g.1 29) :: st) σ := by
  obtain ⟨p, l, e, R, s, m, args, below, meth, c, D, A⟩ := K
  obtain ⟨hx, hb, hml, hown, hts, hK, hA, hSF, hR, hr, hlk⟩ := hC
  exact fun H locs ls hl hP hD hS => va_get (D := D) (ci := 2) (v := .ref (g.1 33)) (C := RX2) (T := TX2) (N := 20) hx hb hts uwX2 hown hK hP 29 rfl rfl 6 (by decide) (hts _ mf_X2_21) (fun _ h9 => h9) rfl hd (k H locs ls hl hP hD hS)
theorem mf_X2_24 : Cond.fieldLink RX2 24 "SongHour$RowSearch" "artistFree" "[I" ∈ GW := memT (i := 264) (by decide +kernel) rfl
theorem get_X2_24 {K : Kx} {cc : ByteArray} {g : Gm} {nL d : Nat} {ret : Option FieldType} {Q : State → Prop} {pc : Nat} {lv : List (Nat × Value)} {st : List Value} {σ : St} (hC : Ok K cc RX2 g nL d ret) (hd : decode cc pc = .ok (.getfield 24, 3)) (k : J K (wX g) nL Q (pc + 3) lv (.ref (g.1 34) :: st) σ) : J K (wX g) nL Q (pc) lv (.ref (g.1 29) :: st) σ := by
  obtain ⟨p, l, e, R, s, m, args, below, meth, c, D, A⟩ := K
  obtain ⟨hx, hb, hml, hown, hts, hK, hA, hSF, hR, hr, hlk⟩ := hC
  exact fun H locs ls hl hP hD hS => va_get (D := D) (ci := 2) (v := .ref (g.1 34)) (C := RX2) (T := TX2) (N := 20) hx hb hts uwX2 hown hK hP 29 rfl rfl 7 (by decide) (hts _ mf_X2_24) (fun _ h9 => h9) rfl hd (k H locs ls hl hP hD hS)
theorem mf_X2_27 : Cond.fieldLink RX2 27 "SongHour$RowSearch" "pool" "[I" ∈ GW := memT (i := 265) (by decide +kernel) rfl
theorem get_X2_27 {K : Kx} {cc : ByteArray} {g : Gm} {nL d : Nat} {ret : Option FieldType} {Q : State → Prop} {pc : Nat} {lv : List (Nat × Value)} {st : List Value} {σ : St} (hC : Ok K cc RX2 g nL d ret) (hd : decode cc pc = .ok (.getfield 27, 3)) (k : J K (wX g) nL Q (pc + 3) lv (.ref (g.1 35) :: st) σ) : J K (wX g) nL Q (pc) lv (.ref (g.1 29) :: st) σ := by
  obtain ⟨p, l, e, R, s, m, args, below, meth, c, D, A⟩ := K
  obtain ⟨hx, hb, hml, hown, hts, hK, hA, hSF, hR, hr, hlk⟩ := hC
  exact fun H locs ls hl hP hD hS => va_get (D := D) (ci := 2) (v := .ref (g.1 35)) (C := RX2) (T := TX2) (N := 20) hx hb hts uwX2 hown hK hP 29 rfl rfl 8 (by decide) (hts _ mf_X2_27) (fun _ h9 => h9) rfl hd (k H locs ls hl hP hD hS)
theorem mf_X2_30 : Cond.fieldLink RX2 30 "SongHour$RowSearch" "longestFirst" "[I" ∈ GW := memT (i := 266) (by decide +kernel) rfl
theorem get_X2_30 {K : Kx} {cc : ByteArray} {g : Gm} {nL d : Nat} {ret : Option FieldType} {Q : State → Prop} {pc : Nat} {lv : List (Nat × Value)} {st : List Value} {σ : St} (hC : Ok K cc RX2 g nL d ret) (hd : decode cc pc = .ok (.getfield 30, 3)) (k : J K (wX g) nL Q (pc + 3) lv (.ref (g.1 36) :: st) σ) : J K (wX g) nL Q (pc) lv (.ref (g.1 29) :: st) σ := by
  obtain ⟨p, l, e, R, s, m, args, below, meth, c, D, A⟩ := K
  obtain ⟨hx, hb, hml, hown, hts, hK, hA, hSF, hR, hr, hlk⟩ := hC
  exact fun H locs ls hl hP hD hS => va_get (D := D) (ci := 2) (v := .ref (g.1 36)) (C := RX2) (T := TX2) (N := 20) hx hb hts uwX2 hown hK hP 29 rfl rfl 9 (by decide) (hts _ mf_X2_30) (fun _ h9 => h9) rfl hd (k H locs ls hl hP hD hS)
theorem mf_X2_33 : Cond.fieldLink RX2 33 "SongHour$Rulebook" "now" "[I" ∈ GW := memT (i := 83) (by decide +kernel) rfl
theorem get_X2_33 {K : Kx} {cc : ByteArray} {g : Gm} {nL d : Nat} {ret : Option FieldType} {Q : State → Prop} {pc : Nat} {lv : List (Nat × Value)} {st : List Value} {σ : St} (hC : Ok K cc RX2 g nL d ret) (hd : decode cc pc = .ok (.getfield 33, 3)) (k : J K (wX g) nL Q (pc + 3) lv (.ref (g.1 5) :: st) σ) : J K (wX g) nL Q (pc) lv (.ref (g.1 4) :: st) σ := by
  obtain ⟨p, l, e, R, s, m, args, below, meth, c, D, A⟩ := K
  obtain ⟨hx, hb, hml, hown, hts, hK, hA, hSF, hR, hr, hlk⟩ := hC
  exact fun H locs ls hl hP hD hS => va_get (D := D) (ci := 3) (v := .ref (g.1 5)) (C := RX3) (T := TX3) (N := 4) hx hb hts uwX3 hown hK hP 4 rfl rfl 0 (by decide) (hts _ mf_X2_33) (fun _ h9 => h9) rfl hd (k H locs ls hl hP hD hS)
theorem mf_X2_38 : Cond.fieldLink RX2 38 "SongHour$RowSearch" "gap" "I" ∈ GW := memT (i := 270) (by decide +kernel) rfl
theorem get_X2_38 {K : Kx} {cc : ByteArray} {g : Gm} {nL d : Nat} {ret : Option FieldType} {Q : State → Prop} {pc : Nat} {lv : List (Nat × Value)} {st : List Value} {σ : St} (hC : Ok K cc RX2 g nL d ret) (hd : decode cc pc = .ok (.getfield 38, 3)) (k : J K (wX g) nL Q (pc + 3) lv (.int (gi σ 20) :: st) σ) : J K (wX g) nL Q (pc) lv (.ref (g.1 29) :: st) σ := by
  obtain ⟨p, l, e, R, s, m, args, below, meth, c, D, A⟩ := K
  obtain ⟨hx, hb, hml, hown, hts, hK, hA, hSF, hR, hr, hlk⟩ := hC
  exact fun H locs ls hl hP hD hS => va_get (D := D) (ci := 2) (v := .int (gi σ 20)) (C := RX2) (T := TX2) (N := 20) hx hb hts uwX2 hown hK hP 29 rfl rfl 13 (by decide) (hts _ mf_X2_38) (fun _ h9 => h9) rfl hd (k H locs ls hl hP hD hS)
theorem put_X2_38 {K : Kx} {cc : ByteArray} {g : Gm} {nL d : Nat} {ret : Option FieldType} {Q : State → Prop} {pc : Nat} {lv : List (Nat × Value)} {st : List Value} {σ : St} (hC : Ok K cc RX2 g nL d ret) {v : Int32} {ρ : Type} {o : ρ} {f : St → Option ρ} (hd : decode cc pc = .ok (.putfield 38, 3)) (h : bnd (si σ 20 v) f = some o) (k : ∀ σ2, f σ2 = some o → J K (wX g) nL Q (pc + 3) lv (st) σ2) : J K (wX g) nL Q (pc) lv (.int v :: .ref (g.1 29) :: st) σ := by
  obtain ⟨p, l, e, R, s, m, args, below, meth, c, D, A⟩ := K
  obtain ⟨hx, hb, hml, hown, hts, hK, hA, hSF, hR, hr, hlk⟩ := hC
  exact fun H locs ls hl hP hD hS => va_put (D := D) (ci := 2) (v := .int v) (ty := .int) (C := RX2) (T := TX2) (N := 20) hx hb hts uwX2 tyX2 tyX2_ok nmX2 hown hK hP hD hS 29 rfl rfl 13 (by decide) (hts _ mf_X2_38) (fun _ h9 => h9) rfl (by decide +kernel) rfl rfl (Nat.le_of_ble_eq_true rfl) hd (fun H locs hP hD hS => k _ h H locs ls hl hP hD hS)
theorem mf_X2_42 : Cond.fieldLink RX2 42 "SongHour$RowSearch" "artistGap" "I" ∈ GW := memT (i := 271) (by decide +kernel) rfl
theorem get_X2_42 {K : Kx} {cc : ByteArray} {g : Gm} {nL d : Nat} {ret : Option FieldType} {Q : State → Prop} {pc : Nat} {lv : List (Nat × Value)} {st : List Value} {σ : St} (hC : Ok K cc RX2 g nL d ret) (hd : decode cc pc = .ok (.getfield 42, 3)) (k : J K (wX g) nL Q (pc + 3) lv (.int (gi σ 21) :: st) σ) : J K (wX g) nL Q (pc) lv (.ref (g.1 29) :: st) σ := by
  obtain ⟨p, l, e, R, s, m, args, below, meth, c, D, A⟩ := K
  obtain ⟨hx, hb, hml, hown, hts, hK, hA, hSF, hR, hr, hlk⟩ := hC
  exact fun H locs ls hl hP hD hS => va_get (D := D) (ci := 2) (v := .int (gi σ 21)) (C := RX2) (T := TX2) (N := 20) hx hb hts uwX2 hown hK hP 29 rfl rfl 14 (by decide) (hts _ mf_X2_42) (fun _ h9 => h9) rfl hd (k H locs ls hl hP hD hS)
theorem put_X2_42 {K : Kx} {cc : ByteArray} {g : Gm} {nL d : Nat} {ret : Option FieldType} {Q : State → Prop} {pc : Nat} {lv : List (Nat × Value)} {st : List Value} {σ : St} (hC : Ok K cc RX2 g nL d ret) {v : Int32} {ρ : Type} {o : ρ} {f : St → Option ρ} (hd : decode cc pc = .ok (.putfield 42, 3)) (h : bnd (si σ 21 v) f = some o) (k : ∀ σ2, f σ2 = some o → J K (wX g) nL Q (pc + 3) lv (st) σ2) : J K (wX g) nL Q (pc) lv (.int v :: .ref (g.1 29) :: st) σ := by
  obtain ⟨p, l, e, R, s, m, args, below, meth, c, D, A⟩ := K
  obtain ⟨hx, hb, hml, hown, hts, hK, hA, hSF, hR, hr, hlk⟩ := hC
  exact fun H locs ls hl hP hD hS => va_put (D := D) (ci := 2) (v := .int v) (ty := .int) (C := RX2) (T := TX2) (N := 20) hx hb hts uwX2 tyX2 tyX2_ok nmX2 hown hK hP hD hS 29 rfl rfl 14 (by decide) (hts _ mf_X2_42) (fun _ h9 => h9) rfl (by decide +kernel) rfl rfl (Nat.le_of_ble_eq_true rfl) hd (fun H locs hP hD hS => k _ h H locs ls hl hP hD hS)
theorem mf_X2_45 : Cond.fieldLink RX2 45 "SongHour$RowSearch" "steps" "I" ∈ GW := memT (i := 272) (by decide +kernel) rfl
theorem get_X2_45 {K : Kx} {cc : ByteArray} {g : Gm} {nL d : Nat} {ret : Option FieldType} {Q : State → Prop} {pc : Nat} {lv : List (Nat × Value)} {st : List Value} {σ : St} (hC : Ok K cc RX2 g nL d ret) (hd : decode cc pc = .ok (.getfield 45, 3)) (k : J K (wX g) nL Q (pc + 3) lv (.int (gi σ 22) :: st) σ) : J K (wX g) nL Q (pc) lv (.ref (g.1 29) :: st) σ := by
  obtain ⟨p, l, e, R, s, m, args, below, meth, c, D, A⟩ := K
  obtain ⟨hx, hb, hml, hown, hts, hK, hA, hSF, hR, hr, hlk⟩ := hC
  exact fun H locs ls hl hP hD hS => va_get (D := D) (ci := 2) (v := .int (gi σ 22)) (C := RX2) (T := TX2) (N := 20) hx hb hts uwX2 hown hK hP 29 rfl rfl 15 (by decide) (hts _ mf_X2_45) (fun _ h9 => h9) rfl hd (k H locs ls hl hP hD hS)
theorem put_X2_45 {K : Kx} {cc : ByteArray} {g : Gm} {nL d : Nat} {ret : Option FieldType} {Q : State → Prop} {pc : Nat} {lv : List (Nat × Value)} {st : List Value} {σ : St} (hC : Ok K cc RX2 g nL d ret) {v : Int32} {ρ : Type} {o : ρ} {f : St → Option ρ} (hd : decode cc pc = .ok (.putfield 45, 3)) (h : bnd (si σ 22 v) f = some o) (k : ∀ σ2, f σ2 = some o → J K (wX g) nL Q (pc + 3) lv (st) σ2) : J K (wX g) nL Q (pc) lv (.int v :: .ref (g.1 29) :: st) σ := by
  obtain ⟨p, l, e, R, s, m, args, below, meth, c, D, A⟩ := K
  obtain ⟨hx, hb, hml, hown, hts, hK, hA, hSF, hR, hr, hlk⟩ := hC
  exact fun H locs ls hl hP hD hS => va_put (D := D) (ci := 2) (v := .int v) (ty := .int) (C := RX2) (T := TX2) (N := 20) hx hb hts uwX2 tyX2 tyX2_ok nmX2 hown hK hP hD hS 29 rfl rfl 15 (by decide) (hts _ mf_X2_45) (fun _ h9 => h9) rfl (by decide +kernel) rfl rfl (Nat.le_of_ble_eq_true rfl) hd (fun H locs hP hD hS => k _ h H locs ls hl hP hD hS)
theorem mf_X2_48 : Cond.fieldLink RX2 48 "SongHour$RowSearch" "slack" "I" ∈ GW := memT (i := 273) (by decide +kernel) rfl
theorem get_X2_48 {K : Kx} {cc : ByteArray} {g : Gm} {nL d : Nat} {ret : Option FieldType} {Q : State → Prop} {pc : Nat} {lv : List (Nat × Value)} {st : List Value} {σ : St} (hC : Ok K cc RX2 g nL d ret) (hd : decode cc pc = .ok (.getfield 48, 3)) (k : J K (wX g) nL Q (pc + 3) lv (.int (gi σ 23) :: st) σ) : J K (wX g) nL Q (pc) lv (.ref (g.1 29) :: st) σ := by
  obtain ⟨p, l, e, R, s, m, args, below, meth, c, D, A⟩ := K
  obtain ⟨hx, hb, hml, hown, hts, hK, hA, hSF, hR, hr, hlk⟩ := hC
  exact fun H locs ls hl hP hD hS => va_get (D := D) (ci := 2) (v := .int (gi σ 23)) (C := RX2) (T := TX2) (N := 20) hx hb hts uwX2 hown hK hP 29 rfl rfl 16 (by decide) (hts _ mf_X2_48) (fun _ h9 => h9) rfl hd (k H locs ls hl hP hD hS)
theorem put_X2_48 {K : Kx} {cc : ByteArray} {g : Gm} {nL d : Nat} {ret : Option FieldType} {Q : State → Prop} {pc : Nat} {lv : List (Nat × Value)} {st : List Value} {σ : St} (hC : Ok K cc RX2 g nL d ret) {v : Int32} {ρ : Type} {o : ρ} {f : St → Option ρ} (hd : decode cc pc = .ok (.putfield 48, 3)) (h : bnd (si σ 23 v) f = some o) (k : ∀ σ2, f σ2 = some o → J K (wX g) nL Q (pc + 3) lv (st) σ2) : J K (wX g) nL Q (pc) lv (.int v :: .ref (g.1 29) :: st) σ := by
  obtain ⟨p, l, e, R, s, m, args, below, meth, c, D, A⟩ := K
  obtain ⟨hx, hb, hml, hown, hts, hK, hA, hSF, hR, hr, hlk⟩ := hC
  exact fun H locs ls hl hP hD hS => va_put (D := D) (ci := 2) (v := .int v) (ty := .int) (C := RX2) (T := TX2) (N := 20) hx hb hts uwX2 tyX2 tyX2_ok nmX2 hown hK hP hD hS 29 rfl rfl 16 (by decide) (hts _ mf_X2_48) (fun _ h9 => h9) rfl (by decide +kernel) rfl rfl (Nat.le_of_ble_eq_true rfl) hd (fun H locs hP hD hS => k _ h H locs ls hl hP hD hS)
theorem mf_X2_57 : Cond.fieldLink RX2 57 "SongHour$RowSearch" "most" "I" ∈ GW := memT (i := 274) (by decide +kernel) rfl
theorem get_X2_57 {K : Kx} {cc : ByteArray} {g : Gm} {nL d : Nat} {ret : Option FieldType} {Q : State → Prop} {pc : Nat} {lv : List (Nat × Value)} {st : List Value} {σ : St} (hC : Ok K cc RX2 g nL d ret) (hd : decode cc pc = .ok (.getfield 57, 3)) (k : J K (wX g) nL Q (pc + 3) lv (.int (gi σ 24) :: st) σ) : J K (wX g) nL Q (pc) lv (.ref (g.1 29) :: st) σ := by
  obtain ⟨p, l, e, R, s, m, args, below, meth, c, D, A⟩ := K
  obtain ⟨hx, hb, hml, hown, hts, hK, hA, hSF, hR, hr, hlk⟩ := hC
  exact fun H locs ls hl hP hD hS => va_get (D := D) (ci := 2) (v := .int (gi σ 24)) (C := RX2) (T := TX2) (N := 20) hx hb hts uwX2 hown hK hP 29 rfl rfl 17 (by decide) (hts _ mf_X2_57) (fun _ h9 => h9) rfl hd (k H locs ls hl hP hD hS)
theorem put_X2_57 {K : Kx} {cc : ByteArray} {g : Gm} {nL d : Nat} {ret : Option FieldType} {Q : State → Prop} {pc : Nat} {lv : List (Nat × Value)} {st : List Value} {σ : St} (hC : Ok K cc RX2 g nL d ret) {v : Int32} {ρ : Type} {o : ρ} {f : St → Option ρ} (hd : decode cc pc = .ok (.putfield 57, 3)) (h : bnd (si σ 24 v) f = some o) (k : ∀ σ2, f σ2 = some o → J K (wX g) nL Q (pc + 3) lv (st) σ2) : J K (wX g) nL Q (pc) lv (.int v :: .ref (g.1 29) :: st) σ := by
  obtain ⟨p, l, e, R, s, m, args, below, meth, c, D, A⟩ := K
  obtain ⟨hx, hb, hml, hown, hts, hK, hA, hSF, hR, hr, hlk⟩ := hC
  exact fun H locs ls hl hP hD hS => va_put (D := D) (ci := 2) (v := .int v) (ty := .int) (C := RX2) (T := TX2) (N := 20) hx hb hts uwX2 tyX2 tyX2_ok nmX2 hown hK hP hD hS 29 rfl rfl 17 (by decide) (hts _ mf_X2_57) (fun _ h9 => h9) rfl (by decide +kernel) rfl rfl (Nat.le_of_ble_eq_true rfl) hd (fun H locs hP hD hS => k _ h H locs ls hl hP hD hS)
theorem mf_X2_60 : Cond.fieldLink RX2 60 "SongHour$Songs" "size" "I" ∈ GW := memT (i := 144) (by decide +kernel) rfl
theorem get_X2_60 {K : Kx} {cc : ByteArray} {g : Gm} {nL d : Nat} {ret : Option FieldType} {Q : State → Prop} {pc : Nat} {lv : List (Nat × Value)} {st : List Value} {σ : St} (hC : Ok K cc RX2 g nL d ret) (hd : decode cc pc = .ok (.getfield 60, 3)) (k : J K (wX g) nL Q (pc + 3) lv (.int (gi σ 9) :: st) σ) : J K (wX g) nL Q (pc) lv (.ref (g.1 8) :: st) σ := by
  obtain ⟨p, l, e, R, s, m, args, below, meth, c, D, A⟩ := K
  obtain ⟨hx, hb, hml, hown, hts, hK, hA, hSF, hR, hr, hlk⟩ := hC
  exact fun H locs ls hl hP hD hS => va_get (D := D) (ci := 4) (v := .int (gi σ 9)) (C := RX4) (T := TX4) (N := 14) hx hb hts uwX4 hown hK hP 8 rfl rfl 0 (by decide) (hts _ mf_X2_60) (fun _ h9 => h9) rfl hd (k H locs ls hl hP hD hS)
theorem put_X2_60 {K : Kx} {cc : ByteArray} {g : Gm} {nL d : Nat} {ret : Option FieldType} {Q : State → Prop} {pc : Nat} {lv : List (Nat × Value)} {st : List Value} {σ : St} (hC : Ok K cc RX2 g nL d ret) {v : Int32} {ρ : Type} {o : ρ} {f : St → Option ρ} (hd : decode cc pc = .ok (.putfield 60, 3)) (h : bnd (si σ 9 v) f = some o) (k : ∀ σ2, f σ2 = some o → J K (wX g) nL Q (pc + 3) lv (st) σ2) : J K (wX g) nL Q (pc) lv (.int v :: .ref (g.1 8) :: st) σ := by
  obtain ⟨p, l, e, R, s, m, args, below, meth, c, D, A⟩ := K
  obtain ⟨hx, hb, hml, hown, hts, hK, hA, hSF, hR, hr, hlk⟩ := hC
  exact fun H locs ls hl hP hD hS => va_put (D := D) (ci := 4) (v := .int v) (ty := .int) (C := RX4) (T := TX4) (N := 14) hx hb hts uwX4 tyX4 tyX4_ok nmX4 hown hK hP hD hS 8 rfl rfl 0 (by decide) (hts _ mf_X2_60) (fun _ h9 => h9) rfl (by decide +kernel) rfl rfl (Nat.le_of_ble_eq_true rfl) hd (fun H locs hP hD hS => k _ h H locs ls hl hP hD hS)
theorem mf_X2_68 : Cond.fieldLink RX2 68 "SongHour$RowSearch" "finish" "I" ∈ GW := memT (i := 275) (by decide +kernel) rfl
theorem get_X2_68 {K : Kx} {cc : ByteArray} {g : Gm} {nL d : Nat} {ret : Option FieldType} {Q : State → Prop} {pc : Nat} {lv : List (Nat × Value)} {st : List Value} {σ : St} (hC : Ok K cc RX2 g nL d ret) (hd : decode cc pc = .ok (.getfield 68, 3)) (k : J K (wX g) nL Q (pc + 3) lv (.int (gi σ 25) :: st) σ) : J K (wX g) nL Q (pc) lv (.ref (g.1 29) :: st) σ := by
  obtain ⟨p, l, e, R, s, m, args, below, meth, c, D, A⟩ := K
  obtain ⟨hx, hb, hml, hown, hts, hK, hA, hSF, hR, hr, hlk⟩ := hC
  exact fun H locs ls hl hP hD hS => va_get (D := D) (ci := 2) (v := .int (gi σ 25)) (C := RX2) (T := TX2) (N := 20) hx hb hts uwX2 hown hK hP 29 rfl rfl 18 (by decide) (hts _ mf_X2_68) (fun _ h9 => h9) rfl hd (k H locs ls hl hP hD hS)
theorem put_X2_68 {K : Kx} {cc : ByteArray} {g : Gm} {nL d : Nat} {ret : Option FieldType} {Q : State → Prop} {pc : Nat} {lv : List (Nat × Value)} {st : List Value} {σ : St} (hC : Ok K cc RX2 g nL d ret) {v : Int32} {ρ : Type} {o : ρ} {f : St → Option ρ} (hd : decode cc pc = .ok (.putfield 68, 3)) (h : bnd (si σ 25 v) f = some o) (k : ∀ σ2, f σ2 = some o → J K (wX g) nL Q (pc + 3) lv (st) σ2) : J K (wX g) nL Q (pc) lv (.int v :: .ref (g.1 29) :: st) σ := by
  obtain ⟨p, l, e, R, s, m, args, below, meth, c, D, A⟩ := K
  obtain ⟨hx, hb, hml, hown, hts, hK, hA, hSF, hR, hr, hlk⟩ := hC
  exact fun H locs ls hl hP hD hS => va_put (D := D) (ci := 2) (v := .int v) (ty := .int) (C := RX2) (T := TX2) (N := 20) hx hb hts uwX2 tyX2 tyX2_ok nmX2 hown hK hP hD hS 29 rfl rfl 18 (by decide) (hts _ mf_X2_68) (fun _ h9 => h9) rfl (by decide +kernel) rfl rfl (Nat.le_of_ble_eq_true rfl) hd (fun H locs hP hD hS => k _ h H locs ls hl hP hD hS)
theorem mf_X2_71 : Cond.fieldLink RX2 71 "SongHour$RowSearch" "wantedNew" "I" ∈ GW := memT (i := 276) (by decide +kernel) rfl
theorem get_X2_71 {K : Kx} {cc : ByteArray} {g : Gm} {nL d : Nat} {ret : Option FieldType} {Q : State → Prop} {pc : Nat} {lv : List (Nat × Value)} {st : List Value} {σ : St} (hC : Ok K cc RX2 g nL d ret) (hd : decode cc pc = .ok (.getfield 71, 3)) (k : J K (wX g) nL Q (pc + 3) lv (.int (gi σ 26) :: st) σ) : J K (wX g) nL Q (pc) lv (.ref (g.1 29) :: st) σ := by
  obtain ⟨p, l, e, R, s, m, args, below, meth, c, D, A⟩ := K
  obtain ⟨hx, hb, hml, hown, hts, hK, hA, hSF, hR, hr, hlk⟩ := hC
  exact fun H locs ls hl hP hD hS => va_get (D := D) (ci := 2) (v := .int (gi σ 26)) (C := RX2) (T := TX2) (N := 20) hx hb hts uwX2 hown hK hP 29 rfl rfl 19 (by decide) (hts _ mf_X2_71) (fun _ h9 => h9) rfl hd (k H locs ls hl hP hD hS)
theorem put_X2_71 {K : Kx} {cc : ByteArray} {g : Gm} {nL d : Nat} {ret : Option FieldType} {Q : State → Prop} {pc : Nat} {lv : List (Nat × Value)} {st : List Value} {σ : St} (hC : Ok K cc RX2 g nL d ret) {v : Int32} {ρ : Type} {o : ρ} {f : St → Option ρ} (hd : decode cc pc = .ok (.putfield 71, 3)) (h : bnd (si σ 26 v) f = some o) (k : ∀ σ2, f σ2 = some o → J K (wX g) nL Q (pc + 3) lv (st) σ2) : J K (wX g) nL Q (pc) lv (.int v :: .ref (g.1 29) :: st) σ := by
  obtain ⟨p, l, e, R, s, m, args, below, meth, c, D, A⟩ := K
  obtain ⟨hx, hb, hml, hown, hts, hK, hA, hSF, hR, hr, hlk⟩ := hC
  exact fun H locs ls hl hP hD hS => va_put (D := D) (ci := 2) (v := .int v) (ty := .int) (C := RX2) (T := TX2) (N := 20) hx hb hts uwX2 tyX2 tyX2_ok nmX2 hown hK hP hD hS 29 rfl rfl 19 (by decide) (hts _ mf_X2_71) (fun _ h9 => h9) rfl (by decide +kernel) rfl rfl (Nat.le_of_ble_eq_true rfl) hd (fun H locs hP hD hS => k _ h H locs ls hl hP hD hS)
theorem mf_X2_74 : Cond.fieldLink RX2 74 "SongHour$RowSearch" "bestSize" "I" ∈ GW := memT (i := 257) (by decide +kernel) rfl
theorem get_X2_74 {K : Kx} {cc : ByteArray} {g : Gm} {nL d : Nat} {ret : Option FieldType} {Q : State → Prop} {pc : Nat} {lv : List (Nat × Value)} {st : List Value} {σ : St} (hC : Ok K cc RX2 g nL d ret) (hd : decode cc pc = .ok (.getfield 74, 3)) (k : J K (wX g) nL Q (pc + 3) lv (.int (gi σ 14) :: st) σ) : J K (wX g) nL Q (pc) lv (.ref (g.1 29) :: st) σ := by
  obtain ⟨p, l, e, R, s, m, args, below, meth, c, D, A⟩ := K
  obtain ⟨hx, hb, hml, hown, hts, hK, hA, hSF, hR, hr, hlk⟩ := hC
  exact fun H locs ls hl hP hD hS => va_get (D := D) (ci := 2) (v := .int (gi σ 14)) (C := RX2) (T := TX2) (N := 20) hx hb hts uwX2 hown hK hP 29 rfl rfl 1 (by decide) (hts _ mf_X2_74) (fun _ h9 => h9) rfl hd (k H locs ls hl hP hD hS)
theorem put_X2_74 {K : Kx} {cc : ByteArray} {g : Gm} {nL d : Nat} {ret : Option FieldType} {Q : State → Prop} {pc : Nat} {lv : List (Nat × Value)} {st : List Value} {σ : St} (hC : Ok K cc RX2 g nL d ret) {v : Int32} {ρ : Type} {o : ρ} {f : St → Option ρ} (hd : decode cc pc = .ok (.putfield 74, 3)) (h : bnd (si σ 14 v) f = some o) (k : ∀ σ2, f σ2 = some o → J K (wX g) nL Q (pc + 3) lv (st) σ2) : J K (wX g) nL Q (pc) lv (.int v :: .ref (g.1 29) :: st) σ := by
  obtain ⟨p, l, e, R, s, m, args, below, meth, c, D, A⟩ := K
  obtain ⟨hx, hb, hml, hown, hts, hK, hA, hSF, hR, hr, hlk⟩ := hC
  exact fun H locs ls hl hP hD hS => va_put (D := D) (ci := 2) (v := .int v) (ty := .int) (C := RX2) (T := TX2) (N := 20) hx hb hts uwX2 tyX2 tyX2_ok nmX2 hown hK hP hD hS 29 rfl rfl 1 (by decide) (hts _ mf_X2_74) (fun _ h9 => h9) rfl (by decide +kernel) rfl rfl (Nat.le_of_ble_eq_true rfl) hd (fun H locs hP hD hS => k _ h H locs ls hl hP hD hS)
theorem mf_X2_77 : Cond.fieldLink RX2 77 "SongHour$RowSearch" "bestLeft" "I" ∈ GW := memT (i := 259) (by decide +kernel) rfl
theorem get_X2_77 {K : Kx} {cc : ByteArray} {g : Gm} {nL d : Nat} {ret : Option FieldType} {Q : State → Prop} {pc : Nat} {lv : List (Nat × Value)} {st : List Value} {σ : St} (hC : Ok K cc RX2 g nL d ret) (hd : decode cc pc = .ok (.getfield 77, 3)) (k : J K (wX g) nL Q (pc + 3) lv (.int (gi σ 15) :: st) σ) : J K (wX g) nL Q (pc) lv (.ref (g.1 29) :: st) σ := by
  obtain ⟨p, l, e, R, s, m, args, below, meth, c, D, A⟩ := K
  obtain ⟨hx, hb, hml, hown, hts, hK, hA, hSF, hR, hr, hlk⟩ := hC
  exact fun H locs ls hl hP hD hS => va_get (D := D) (ci := 2) (v := .int (gi σ 15)) (C := RX2) (T := TX2) (N := 20) hx hb hts uwX2 hown hK hP 29 rfl rfl 2 (by decide) (hts _ mf_X2_77) (fun _ h9 => h9) rfl hd (k H locs ls hl hP hD hS)
theorem put_X2_77 {K : Kx} {cc : ByteArray} {g : Gm} {nL d : Nat} {ret : Option FieldType} {Q : State → Prop} {pc : Nat} {lv : List (Nat × Value)} {st : List Value} {σ : St} (hC : Ok K cc RX2 g nL d ret) {v : Int32} {ρ : Type} {o : ρ} {f : St → Option ρ} (hd : decode cc pc = .ok (.putfield 77, 3)) (h : bnd (si σ 15 v) f = some o) (k : ∀ σ2, f σ2 = some o → J K (wX g) nL Q (pc + 3) lv (st) σ2) : J K (wX g) nL Q (pc) lv (.int v :: .ref (g.1 29) :: st) σ := by
  obtain ⟨p, l, e, R, s, m, args, below, meth, c, D, A⟩ := K
  obtain ⟨hx, hb, hml, hown, hts, hK, hA, hSF, hR, hr, hlk⟩ := hC
  exact fun H locs ls hl hP hD hS => va_put (D := D) (ci := 2) (v := .int v) (ty := .int) (C := RX2) (T := TX2) (N := 20) hx hb hts uwX2 tyX2 tyX2_ok nmX2 hown hK hP hD hS 29 rfl rfl 2 (by decide) (hts _ mf_X2_77) (fun _ h9 => h9) rfl (by decide +kernel) rfl rfl (Nat.le_of_ble_eq_true rfl) hd (fun H locs hP hD hS => k _ h H locs ls hl hP hD hS)
theorem mf_X2_80 : Cond.fieldLink RX2 80 "SongHour$RowSearch" "bestHeat" "I" ∈ GW := memT (i := 260) (by decide +kernel) rfl
theorem get_X2_80 {K : Kx} {cc : ByteArray} {g : Gm} {nL d : Nat} {ret : Option FieldType} {Q : State → Prop} {pc : Nat} {lv : List (Nat × Value)} {st : List Value} {σ : St} (hC : Ok K cc RX2 g nL d ret) (hd : decode cc pc = .ok (.getfield 80, 3)) (k : J K (wX g) nL Q (pc + 3) lv (.int (gi σ 16) :: st) σ) : J K (wX g) nL Q (pc) lv (.ref (g.1 29) :: st) σ := by
  obtain ⟨p, l, e, R, s, m, args, below, meth, c, D, A⟩ := K
  obtain ⟨hx, hb, hml, hown, hts, hK, hA, hSF, hR, hr, hlk⟩ := hC
  exact fun H locs ls hl hP hD hS => va_get (D := D) (ci := 2) (v := .int (gi σ 16)) (C := RX2) (T := TX2) (N := 20) hx hb hts uwX2 hown hK hP 29 rfl rfl 3 (by decide) (hts _ mf_X2_80) (fun _ h9 => h9) rfl hd (k H locs ls hl hP hD hS)
theorem put_X2_80 {K : Kx} {cc : ByteArray} {g : Gm} {nL d : Nat} {ret : Option FieldType} {Q : State → Prop} {pc : Nat} {lv : List (Nat × Value)} {st : List Value} {σ : St} (hC : Ok K cc RX2 g nL d ret) {v : Int32} {ρ : Type} {o : ρ} {f : St → Option ρ} (hd : decode cc pc = .ok (.putfield 80, 3)) (h : bnd (si σ 16 v) f = some o) (k : ∀ σ2, f σ2 = some o → J K (wX g) nL Q (pc + 3) lv (st) σ2) : J K (wX g) nL Q (pc) lv (.int v :: .ref (g.1 29) :: st) σ := by
  obtain ⟨p, l, e, R, s, m, args, below, meth, c, D, A⟩ := K
  obtain ⟨hx, hb, hml, hown, hts, hK, hA, hSF, hR, hr, hlk⟩ := hC
  exact fun H locs ls hl hP hD hS => va_put (D := D) (ci := 2) (v := .int v) (ty := .int) (C := RX2) (T := TX2) (N := 20) hx hb hts uwX2 tyX2 tyX2_ok nmX2 hown hK hP hD hS 29 rfl rfl 3 (by decide) (hts _ mf_X2_80) (fun _ h9 => h9) rfl (by decide +kernel) rfl rfl (Nat.le_of_ble_eq_true rfl) hd (fun H locs hP hD hS => k _ h H locs ls hl hP hD hS)
theorem mf_X2_83 : Cond.fieldLink RX2 83 "SongHour$Songs" "began" "[I" ∈ GW := memT (i := 166) (by decide +kernel) rfl
theorem get_X2_83 {K : Kx} {cc : ByteArray} {g : Gm} {nL d : Nat} {ret : Option FieldType} {Q : State → Prop} {pc : Nat} {lv : List (Nat × Value)} {st : List Value} {σ : St} (hC : Ok K cc RX2 g nL d ret) (hd : decode cc pc = .ok (.getfield 83, 3)) (k : J K (wX g) nL Q (pc + 3) lv (.ref (g.1 17) :: st) σ) : J K (wX g) nL Q (pc) lv (.ref (g.1 8) :: st) σ := by
  obtain ⟨p, l, e, R, s, m, args, below, meth, c, D, A⟩ := K
  obtain ⟨hx, hb, hml, hown, hts, hK, hA, hSF, hR, hr, hlk⟩ := hC
  exact fun H locs ls hl hP hD hS => va_get (D := D) (ci := 4) (v := .ref (g.1 17)) (C := RX4) (T := TX4) (N := 14) hx hb hts uwX4 hown hK hP 8 rfl rfl 9 (by decide) (hts _ mf_X2_83) (fun _ h9 => h9) rfl hd (k H locs ls hl hP hD hS)
theorem mf_X2_86 : Cond.fieldLink RX2 86 "SongHour$Songs" "artistBegan" "[I" ∈ GW := memT (i := 169) (by decide +kernel) rfl
theorem get_X2_86 {K : Kx} {cc : ByteArray} {g : Gm} {nL d : Nat} {ret : Option FieldType} {Q : State → Prop} {pc : Nat} {lv : List (Nat × Value)} {st : List Value} {σ : St} (hC : Ok K cc RX2 g nL d ret) (hd : decode cc pc = .ok (.getfield 86, 3)) (k : J K (wX g) nL Q (pc + 3) lv (.ref (g.1 18) :: st) σ) : J K (wX g) nL Q (pc) lv (.ref (g.1 8) :: st) σ := by
  obtain ⟨p, l, e, R, s, m, args, below, meth, c, D, A⟩ := K
  obtain ⟨hx, hb, hml, hown, hts, hK, hA, hSF, hR, hr, hlk⟩ := hC
  exact fun H locs ls hl hP hD hS => va_get (D := D) (ci := 4) (v := .ref (g.1 18)) (C := RX4) (T := TX4) (N := 14) hx hb hts uwX4 hown hK hP 8 rfl rfl 10 (by decide) (hts _ mf_X2_86) (fun _ h9 => h9) rfl hd (k H locs ls hl hP hD hS)
theorem mf_X2_97 : Cond.fieldLink RX2 97 "SongHour$RowSearch" "poolSize" "I" ∈ GW := memT (i := 267) (by decide +kernel) rfl
theorem get_X2_97 {K : Kx} {cc : ByteArray} {g : Gm} {nL d : Nat} {ret : Option FieldType} {Q : State → Prop} {pc : Nat} {lv : List (Nat × Value)} {st : List Value} {σ : St} (hC : Ok K cc RX2 g nL d ret) (hd : decode cc pc = .ok (.getfield 97, 3)) (k : J K (wX g) nL Q (pc + 3) lv (.int (gi σ 17) :: st) σ) : J K (wX g) nL Q (pc) lv (.ref (g.1 29) :: st) σ := by
  obtain ⟨p, l, e, R, s, m, args, below, meth, c, D, A⟩ := K
  obtain ⟨hx, hb, hml, hown, hts, hK, hA, hSF, hR, hr, hlk⟩ := hC
  exact fun H locs ls hl hP hD hS => va_get (D := D) (ci := 2) (v := .int (gi σ 17)) (C := RX2) (T := TX2) (N := 20) hx hb hts uwX2 hown hK hP 29 rfl rfl 10 (by decide) (hts _ mf_X2_97) (fun _ h9 => h9) rfl hd (k H locs ls hl hP hD hS)
theorem put_X2_97 {K : Kx} {cc : ByteArray} {g : Gm} {nL d : Nat} {ret : Option FieldType} {Q : State → Prop} {pc : Nat} {lv : List (Nat × Value)} {st : List Value} {σ : St} (hC : Ok K cc RX2 g nL d ret) {v : Int32} {ρ : Type} {o : ρ} {f : St → Option ρ} (hd : decode cc pc = .ok (.putfield 97, 3)) (h : bnd (si σ 17 v) f = some o) (k : ∀ σ2, f σ2 = some o → J K (wX g) nL Q (pc + 3) lv (st) σ2) : J K (wX g) nL Q (pc) lv (.int v :: .ref (g.1 29) :: st) σ := by
  obtain ⟨p, l, e, R, s, m, args, below, meth, c, D, A⟩ := K
  obtain ⟨hx, hb, hml, hown, hts, hK, hA, hSF, hR, hr, hlk⟩ := hC
  exact fun H locs ls hl hP hD hS => va_put (D := D) (ci := 2) (v := .int v) (ty := .int) (C := RX2) (T := TX2) (N := 20) hx hb hts uwX2 tyX2 tyX2_ok nmX2 hown hK hP hD hS 29 rfl rfl 10 (by decide) (hts _ mf_X2_97) (fun _ h9 => h9) rfl (by decide +kernel) rfl rfl (Nat.le_of_ble_eq_true rfl) hd (fun H locs hP hD hS => k _ h H locs ls hl hP hD hS)
theorem mf_X2_100 : Cond.fieldLink RX2 100 "SongHour$RowSearch" "longest" "I" ∈ GW := memT (i := 268) (by decide +kernel) rfl
theorem get_X2_100 {K : Kx} {cc : ByteArray} {g : Gm} {nL d : Nat} {ret : Option FieldType} {Q : State → Prop} {pc : Nat} {lv : List (Nat × Value)} {st : List Value} {σ : St} (hC : Ok K cc RX2 g nL d ret) (hd : decode cc pc = .ok (.getfield 100, 3)) (k : J K (wX g) nL Q (pc + 3) lv (.int (gi σ 18) :: st) σ) : J K (wX g) nL Q (pc) lv (.ref (g.1 29) :: st) σ := by
  obtain ⟨p, l, e, R, s, m, args, below, meth, c, D, A⟩ := K
  obtain ⟨hx, hb, hml, hown, hts, hK, hA, hSF, hR, hr, hlk⟩ := hC
  exact fun H locs ls hl hP hD hS => va_get (D := D) (ci := 2) (v := .int (gi σ 18)) (C := RX2) (T := TX2) (N := 20) hx hb hts uwX2 hown hK hP 29 rfl rfl 11 (by decide) (hts _ mf_X2_100) (fun _ h9 => h9) rfl hd (k H locs ls hl hP hD hS)
theorem put_X2_100 {K : Kx} {cc : ByteArray} {g : Gm} {nL d : Nat} {ret : Option FieldType} {Q : State → Prop} {pc : Nat} {lv : List (Nat × Value)} {st : List Value} {σ : St} (hC : Ok K cc RX2 g nL d ret) {v : Int32} {ρ : Type} {o : ρ} {f : St → Option ρ} (hd : decode cc pc = .ok (.putfield 100, 3)) (h : bnd (si σ 18 v) f = some o) (k : ∀ σ2, f σ2 = some o → J K (wX g) nL Q (pc + 3) lv (st) σ2) : J K (wX g) nL Q (pc) lv (.int v :: .ref (g.1 29) :: st) σ := by
  obtain ⟨p, l, e, R, s, m, args, below, meth, c, D, A⟩ := K
  obtain ⟨hx, hb, hml, hown, hts, hK, hA, hSF, hR, hr, hlk⟩ := hC
  exact fun H locs ls hl hP hD hS => va_put (D := D) (ci := 2) (v := .int v) (ty := .int) (C := RX2) (T := TX2) (N := 20) hx hb hts uwX2 tyX2 tyX2_ok nmX2 hown hK hP hD hS 29 rfl rfl 11 (by decide) (hts _ mf_X2_100) (fun _ h9 => h9) rfl (by decide +kernel) rfl rfl (Nat.le_of_ble_eq_true rfl) hd (fun H locs hP hD hS => k _ h H locs ls hl hP hD hS)
theorem mf_X2_103 : Cond.fieldLink RX2 103 "SongHour$RowSearch" "hottest" "I" ∈ GW := memT (i := 269) (by decide +kernel) rfl
theorem get_X2_103 {K : Kx} {cc : ByteArray} {g : Gm} {nL d : Nat} {ret : Option FieldType} {Q : State → Prop} {pc : Nat} {lv : List (Nat × Value)} {st : List Value} {σ : St} (hC : Ok K cc RX2 g nL d ret) (hd : decode cc pc = .ok (.getfield 103, 3)) (k : J K (wX g) nL Q (pc + 3) lv (.int (gi σ 19) :: st) σ) : J K (wX g) nL Q (pc) lv (.ref (g.1 29) :: st) σ := by
  obtain ⟨p, l, e, R, s, m, args, below, meth, c, D, A⟩ := K
  obtain ⟨hx, hb, hml, hown, hts, hK, hA, hSF, hR, hr, hlk⟩ := hC
  exact fun H locs ls hl hP hD hS => va_get (D := D) (ci := 2) (v := .int (gi σ 19)) (C := RX2) (T := TX2) (N := 20) hx hb hts uwX2 hown hK hP 29 rfl rfl 12 (by decide) (hts _ mf_X2_103) (fun _ h9 => h9) rfl hd (k H locs ls hl hP hD hS)
theorem put_X2_103 {K : Kx} {cc : ByteArray} {g : Gm} {nL d : Nat} {ret : Option FieldType} {Q : State → Prop} {pc : Nat} {lv : List (Nat × Value)} {st : List Value} {σ : St} (hC : Ok K cc RX2 g nL d ret) {v : Int32} {ρ : Type} {o : ρ} {f : St → Option ρ} (hd : decode cc pc = .ok (.putfield 103, 3)) (h : bnd (si σ 19 v) f = some o) (k : ∀ σ2, f σ2 = some o → J K (wX g) nL Q (pc + 3) lv (st) σ2) : J K (wX g) nL Q (pc) lv (.int v :: .ref (g.1 29) :: st) σ := by
  obtain ⟨p, l, e, R, s, m, args, below, meth, c, D, A⟩ := K
  obtain ⟨hx, hb, hml, hown, hts, hK, hA, hSF, hR, hr, hlk⟩ := hC
  exact fun H locs ls hl hP hD hS => va_put (D := D) (ci := 2) (v := .int v) (ty := .int) (C := RX2) (T := TX2) (N := 20) hx hb hts uwX2 tyX2 tyX2_ok nmX2 hown hK hP hD hS 29 rfl rfl 12 (by decide) (hts _ mf_X2_103) (fun _ h9 => h9) rfl (by decide +kernel) rfl rfl (Nat.le_of_ble_eq_true rfl) hd (fun H locs hP hD hS => k _ h H locs ls hl hP hD hS)
theorem mf_X2_106 : Cond.fieldLink RX2 106 "SongHour$Songs" "mood" "[I" ∈ GW := memT (i := 156) (by decide +kernel) rfl
theorem get_X2_106 {K : Kx} {cc : ByteArray} {g : Gm} {nL d : Nat} {ret : Option FieldType} {Q : State → Prop} {pc : Nat} {lv : List (Nat × Value)} {st : List Value} {σ : St} (hC : Ok K cc RX2 g nL d ret) (hd : decode cc pc = .ok (.getfield 106, 3)) (k : J K (wX g) nL Q (pc + 3) lv (.ref (g.1 12) :: st) σ) : J K (wX g) nL Q (pc) lv (.ref (g.1 8) :: st) σ := by
  obtain ⟨p, l, e, R, s, m, args, below, meth, c, D, A⟩ := K
  obtain ⟨hx, hb, hml, hown, hts, hK, hA, hSF, hR, hr, hlk⟩ := hC
  exact fun H locs ls hl hP hD hS => va_get (D := D) (ci := 4) (v := .ref (g.1 12)) (C := RX4) (T := TX4) (N := 14) hx hb hts uwX4 hown hK hP 8 rfl rfl 4 (by decide) (hts _ mf_X2_106) (fun _ h9 => h9) rfl hd (k H locs ls hl hP hD hS)
theorem mf_X2_116 : Cond.fieldLink RX2 116 "SongHour$Songs" "seconds" "[I" ∈ GW := memT (i := 147) (by decide +kernel) rfl
theorem get_X2_116 {K : Kx} {cc : ByteArray} {g : Gm} {nL d : Nat} {ret : Option FieldType} {Q : State → Prop} {pc : Nat} {lv : List (Nat × Value)} {st : List Value} {σ : St} (hC : Ok K cc RX2 g nL d ret) (hd : decode cc pc = .ok (.getfield 116, 3)) (k : J K (wX g) nL Q (pc + 3) lv (.ref (g.1 9) :: st) σ) : J K (wX g) nL Q (pc) lv (.ref (g.1 8) :: st) σ := by
  obtain ⟨p, l, e, R, s, m, args, below, meth, c, D, A⟩ := K
  obtain ⟨hx, hb, hml, hown, hts, hK, hA, hSF, hR, hr, hlk⟩ := hC
  exact fun H locs ls hl hP hD hS => va_get (D := D) (ci := 4) (v := .ref (g.1 9)) (C := RX4) (T := TX4) (N := 14) hx hb hts uwX4 hown hK hP 8 rfl rfl 1 (by decide) (hts _ mf_X2_116) (fun _ h9 => h9) rfl hd (k H locs ls hl hP hD hS)
theorem mf_X2_122 : Cond.fieldLink RX2 122 "SongHour$Songs" "newness" "[I" ∈ GW := memT (i := 158) (by decide +kernel) rfl
theorem get_X2_122 {K : Kx} {cc : ByteArray} {g : Gm} {nL d : Nat} {ret : Option FieldType} {Q : State → Prop} {pc : Nat} {lv : List (Nat × Value)} {st : List Value} {σ : St} (hC : Ok K cc RX2 g nL d ret) (hd : decode cc pc = .ok (.getfield 122, 3)) (k : J K (wX g) nL Q (pc + 3) lv (.ref (g.1 13) :: st) σ) : J K (wX g) nL Q (pc) lv (.ref (g.1 8) :: st) σ := by
  obtain ⟨p, l, e, R, s, m, args, below, meth, c, D, A⟩ := K
  obtain ⟨hx, hb, hml, hown, hts, hK, hA, hSF, hR, hr, hlk⟩ := hC
  exact fun H locs ls hl hP hD hS => va_get (D := D) (ci := 4) (v := .ref (g.1 13)) (C := RX4) (T := TX4) (N := 14) hx hb hts uwX4 hown hK hP 8 rfl rfl 5 (by decide) (hts _ mf_X2_122) (fun _ h9 => h9) rfl hd (k H locs ls hl hP hD hS)
theorem mf_X2_125 : Cond.fieldLink RX2 125 "SongHour$Songs" "artist" "[I" ∈ GW := memT (i := 150) (by decide +kernel) rfl
theorem get_X2_125 {K : Kx} {cc : ByteArray} {g : Gm} {nL d : Nat} {ret : Option FieldType} {Q : State → Prop} {pc : Nat} {lv : List (Nat × Value)} {st : List Value} {σ : St} (hC : Ok K cc RX2 g nL d ret) (hd : decode cc pc = .ok (.getfield 125, 3)) (k : J K (wX g) nL Q (pc + 3) lv (.ref (g.1 10) :: st) σ) : J K (wX g) nL Q (pc) lv (.ref (g.1 8) :: st) σ := by
  obtain ⟨p, l, e, R, s, m, args, below, meth, c, D, A⟩ := K
  obtain ⟨hx, hb, hml, hown, hts, hK, hA, hSF, hR, hr, hlk⟩ := hC
  exact fun H locs ls hl hP hD hS => va_get (D := D) (ci := 4) (v := .ref (g.1 10)) (C := RX4) (T := TX4) (N := 14) hx hb hts uwX4 hown hK hP 8 rfl rfl 2 (by decide) (hts _ mf_X2_125) (fun _ h9 => h9) rfl hd (k H locs ls hl hP hD hS)
theorem mf_X2_146 : Cond.fieldLink RX2 146 "SongHour$Songs" "key" "[I" ∈ GW := memT (i := 153) (by decide +kernel) rfl
theorem get_X2_146 {K : Kx} {cc : ByteArray} {g : Gm} {nL d : Nat} {ret : Option FieldType} {Q : State → Prop} {pc : Nat} {lv : List (Nat × Value)} {st : List Value} {σ : St} (hC : Ok K cc RX2 g nL d ret) (hd : decode cc pc = .ok (.getfield 146, 3)) (k : J K (wX g) nL Q (pc + 3) lv (.ref (g.1 11) :: st) σ) : J K (wX g) nL Q (pc) lv (.ref (g.1 8) :: st) σ := by
  obtain ⟨p, l, e, R, s, m, args, below, meth, c, D, A⟩ := K
  obtain ⟨hx, hb, hml, hown, hts, hK, hA, hSF, hR, hr, hlk⟩ := hC
  exact fun H locs ls hl hP hD hS => va_get (D := D) (ci := 4) (v := .ref (g.1 11)) (C := RX4) (T := TX4) (N := 14) hx hb hts uwX4 hown hK hP 8 rfl rfl 3 (by decide) (hts _ mf_X2_146) (fun _ h9 => h9) rfl hd (k H locs ls hl hP hD hS)
theorem mf_X3_11 : Cond.fieldLink RX3 11 "SongHour$Rulebook" "now" "[I" ∈ GW := memT (i := 82) (by decide +kernel) rfl
theorem get_X3_11 {K : Kx} {cc : ByteArray} {g : Gm} {nL d : Nat} {ret : Option FieldType} {Q : State → Prop} {pc : Nat} {lv : List (Nat × Value)} {st : List Value} {σ : St} (hC : Ok K cc RX3 g nL d ret) (hd : decode cc pc = .ok (.getfield 11, 3)) (k : J K (wX g) nL Q (pc + 3) lv (.ref (g.1 5) :: st) σ) : J K (wX g) nL Q (pc) lv (.ref (g.1 4) :: st) σ := by
  obtain ⟨p, l, e, R, s, m, args, below, meth, c, D, A⟩ := K
  obtain ⟨hx, hb, hml, hown, hts, hK, hA, hSF, hR, hr, hlk⟩ := hC
  exact fun H locs ls hl hP hD hS => va_get (D := D) (ci := 3) (v := .ref (g.1 5)) (C := RX3) (T := TX3) (N := 4) hx hb hts uwX3 hown hK hP 4 rfl rfl 0 (by decide) (hts _ mf_X3_11) (fun _ h9 => h9) rfl hd (k H locs ls hl hP hD hS)
theorem mf_X3_15 : Cond.fieldLink RX3 15 "SongHour$Rulebook" "next" "[I" ∈ GW := memT (i := 85) (by decide +kernel) rfl
theorem get_X3_15 {K : Kx} {cc : ByteArray} {g : Gm} {nL d : Nat} {ret : Option FieldType} {Q : State → Prop} {pc : Nat} {lv : List (Nat × Value)} {st : List Value} {σ : St} (hC : Ok K cc RX3 g nL d ret) (hd : decode cc pc = .ok (.getfield 15, 3)) (k : J K (wX g) nL Q (pc + 3) lv (.ref (g.1 6) :: st) σ) : J K (wX g) nL Q (pc) lv (.ref (g.1 4) :: st) σ := by
  obtain ⟨p, l, e, R, s, m, args, below, meth, c, D, A⟩ := K
  obtain ⟨hx, hb, hml, hown, hts, hK, hA, hSF, hR, hr, hlk⟩ := hC
  exact fun H locs ls hl hP hD hS => va_get (D := D) (ci := 3) (v := .ref (g.1 6)) (C := RX3) (T := TX3) (N := 4) hx hb hts uwX3 hown hK hP 4 rfl rfl 1 (by decide) (hts _ mf_X3_15) (fun _ h9 => h9) rfl hd (k H locs ls hl hP hD hS)
theorem mf_X3_18 : Cond.fieldLink RX3 18 "SongHour$Rulebook" "isTold" "[Z" ∈ GW := memT (i := 86) (by decide +kernel) rfl
theorem get_X3_18 {K : Kx} {cc : ByteArray} {g : Gm} {nL d : Nat} {ret : Option FieldType} {Q : State → Prop} {pc : Nat} {lv : List (Nat × Value)} {st : List Value} {σ : St} (hC : Ok K cc RX3 g nL d ret) (hd : decode cc pc = .ok (.getfield 18, 3)) (k : J K (wX g) nL Q (pc + 3) lv (.ref (g.1 7) :: st) σ) : J K (wX g) nL Q (pc) lv (.ref (g.1 4) :: st) σ := by
  obtain ⟨p, l, e, R, s, m, args, below, meth, c, D, A⟩ := K
  obtain ⟨hx, hb, hml, hown, hts, hK, hA, hSF, hR, hr, hlk⟩ := hC
  exact fun H locs ls hl hP hD hS => va_get (D := D) (ci := 3) (v := .ref (g.1 7)) (C := RX3) (T := TX3) (N := 4) hx hb hts uwX3 hown hK hP 4 rfl rfl 2 (by decide) (hts _ mf_X3_18) (fun _ h9 => h9) rfl hd (k H locs ls hl hP hD hS)
theorem mf_X3_40 : Cond.fieldLink RX3 40 "SongHour$Text" "token" "I" ∈ GW := memT (i := 42) (by decide +kernel) rfl
theorem get_X3_40 {K : Kx} {cc : ByteArray} {g : Gm} {nL d : Nat} {ret : Option FieldType} {Q : State → Prop} {pc : Nat} {lv : List (Nat × Value)} {st : List Value} {σ : St} (hC : Ok K cc RX3 g nL d ret) (hd : decode cc pc = .ok (.getfield 40, 3)) (k : J K (wX g) nL Q (pc + 3) lv (.int (gi σ 3) :: st) σ) : J K (wX g) nL Q (pc) lv (.ref (g.1 2) :: st) σ := by
  obtain ⟨p, l, e, R, s, m, args, below, meth, c, D, A⟩ := K
  obtain ⟨hx, hb, hml, hown, hts, hK, hA, hSF, hR, hr, hlk⟩ := hC
  exact fun H locs ls hl hP hD hS => va_get (D := D) (ci := 5) (v := .int (gi σ 3)) (C := RX5) (T := TX5) (N := 9) hx hb hts uwX5 hown hK hP 2 rfl rfl 4 (by decide) (hts _ mf_X3_40) (fun _ h9 => h9) rfl hd (k H locs ls hl hP hD hS)
theorem put_X3_40 {K : Kx} {cc : ByteArray} {g : Gm} {nL d : Nat} {ret : Option FieldType} {Q : State → Prop} {pc : Nat} {lv : List (Nat × Value)} {st : List Value} {σ : St} (hC : Ok K cc RX3 g nL d ret) {v : Int32} {ρ : Type} {o : ρ} {f : St → Option ρ} (hd : decode cc pc = .ok (.putfield 40, 3)) (h : bnd (si σ 3 v) f = some o) (k : ∀ σ2, f σ2 = some o → J K (wX g) nL Q (pc + 3) lv (st) σ2) : J K (wX g) nL Q (pc) lv (.int v :: .ref (g.1 2) :: st) σ := by
  obtain ⟨p, l, e, R, s, m, args, below, meth, c, D, A⟩ := K
  obtain ⟨hx, hb, hml, hown, hts, hK, hA, hSF, hR, hr, hlk⟩ := hC
  exact fun H locs ls hl hP hD hS => va_put (D := D) (ci := 5) (v := .int v) (ty := .int) (C := RX5) (T := TX5) (N := 9) hx hb hts uwX5 tyX5 tyX5_ok nmX5 hown hK hP hD hS 2 rfl rfl 4 (by decide) (hts _ mf_X3_40) (fun _ h9 => h9) rfl (by decide +kernel) rfl rfl (Nat.le_of_ble_eq_true rfl) hd (fun H locs hP hD hS => k _ h H locs ls hl hP hD hS)
theorem mf_X3_48 : Cond.fieldLink RX3 48 "SongHour$Rulebook" "howMany" "I" ∈ GW := memT (i := 87) (by decide +kernel) rfl
theorem get_X3_48 {K : Kx} {cc : ByteArray} {g : Gm} {nL d : Nat} {ret : Option FieldType} {Q : State → Prop} {pc : Nat} {lv : List (Nat × Value)} {st : List Value} {σ : St} (hC : Ok K cc RX3 g nL d ret) (hd : decode cc pc = .ok (.getfield 48, 3)) (k : J K (wX g) nL Q (pc + 3) lv (.int (gi σ 8) :: st) σ) : J K (wX g) nL Q (pc) lv (.ref (g.1 4) :: st) σ := by
  obtain ⟨p, l, e, R, s, m, args, below, meth, c, D, A⟩ := K
  obtain ⟨hx, hb, hml, hown, hts, hK, hA, hSF, hR, hr, hlk⟩ := hC
  exact fun H locs ls hl hP hD hS => va_get (D := D) (ci := 3) (v := .int (gi σ 8)) (C := RX3) (T := TX3) (N := 4) hx hb hts uwX3 hown hK hP 4 rfl rfl 3 (by decide) (hts _ mf_X3_48) (fun _ h9 => h9) rfl hd (k H locs ls hl hP hD hS)
theorem put_X3_48 {K : Kx} {cc : ByteArray} {g : Gm} {nL d : Nat} {ret : Option FieldType} {Q : State → Prop} {pc : Nat} {lv : List (Nat × Value)} {st : List Value} {σ : St} (hC : Ok K cc RX3 g nL d ret) {v : Int32} {ρ : Type} {o : ρ} {f : St → Option ρ} (hd : decode cc pc = .ok (.putfield 48, 3)) (h : bnd (si σ 8 v) f = some o) (k : ∀ σ2, f σ2 = some o → J K (wX g) nL Q (pc + 3) lv (st) σ2) : J K (wX g) nL Q (pc) lv (.int v :: .ref (g.1 4) :: st) σ := by
  obtain ⟨p, l, e, R, s, m, args, below, meth, c, D, A⟩ := K
  obtain ⟨hx, hb, hml, hown, hts, hK, hA, hSF, hR, hr, hlk⟩ := hC
  exact fun H locs ls hl hP hD hS => va_put (D := D) (ci := 3) (v := .int v) (ty := .int) (C := RX3) (T := TX3) (N := 4) hx hb hts uwX3 tyX3 tyX3_ok nmX3 hown hK hP hD hS 4 rfl rfl 3 (by decide) (hts _ mf_X3_48) (fun _ h9 => h9) rfl (by decide +kernel) rfl rfl (Nat.le_of_ble_eq_true rfl) hd (fun H locs hP hD hS => k _ h H locs ls hl hP hD hS)
theorem mf_X3_69 : Cond.fieldLink RX3 69 "SongHour$Text" "value" "I" ∈ GW := memT (i := 45) (by decide +kernel) rfl
theorem get_X3_69 {K : Kx} {cc : ByteArray} {g : Gm} {nL d : Nat} {ret : Option FieldType} {Q : State → Prop} {pc : Nat} {lv : List (Nat × Value)} {st : List Value} {σ : St} (hC : Ok K cc RX3 g nL d ret) (hd : decode cc pc = .ok (.getfield 69, 3)) (k : J K (wX g) nL Q (pc + 3) lv (.int (gi σ 4) :: st) σ) : J K (wX g) nL Q (pc) lv (.ref (g.1 2) :: st) σ := by
  obtain ⟨p, l, e, R, s, m, args, below, meth, c, D, A⟩ := K
  obtain ⟨hx, hb, hml, hown, hts, hK, hA, hSF, hR, hr, hlk⟩ := hC
  exact fun H locs ls hl hP hD hS => va_get (D := D) (ci := 5) (v := .int (gi σ 4)) (C := RX5) (T := TX5) (N := 9) hx hb hts uwX5 hown hK hP 2 rfl rfl 5 (by decide) (hts _ mf_X3_69) (fun _ h9 => h9) rfl hd (k H locs ls hl hP hD hS)
theorem put_X3_69 {K : Kx} {cc : ByteArray} {g : Gm} {nL d : Nat} {ret : Option FieldType} {Q : State → Prop} {pc : Nat} {lv : List (Nat × Value)} {st : List Value} {σ : St} (hC : Ok K cc RX3 g nL d ret) {v : Int32} {ρ : Type} {o : ρ} {f : St → Option ρ} (hd : decode cc pc = .ok (.putfield 69, 3)) (h : bnd (si σ 4 v) f = some o) (k : ∀ σ2, f σ2 = some o → J K (wX g) nL Q (pc + 3) lv (st) σ2) : J K (wX g) nL Q (pc) lv (.int v :: .ref (g.1 2) :: st) σ := by
  obtain ⟨p, l, e, R, s, m, args, below, meth, c, D, A⟩ := K
  obtain ⟨hx, hb, hml, hown, hts, hK, hA, hSF, hR, hr, hlk⟩ := hC
  exact fun H locs ls hl hP hD hS => va_put (D := D) (ci := 5) (v := .int v) (ty := .int) (C := RX5) (T := TX5) (N := 9) hx hb hts uwX5 tyX5 tyX5_ok nmX5 hown hK hP hD hS 2 rfl rfl 5 (by decide) (hts _ mf_X3_69) (fun _ h9 => h9) rfl (by decide +kernel) rfl rfl (Nat.le_of_ble_eq_true rfl) hd (fun H locs hP hD hS => k _ h H locs ls hl hP hD hS)
theorem mf_X4_9 : Cond.fieldLink RX4 9 "SongHour$Songs" "seconds" "[I" ∈ GW := memT (i := 146) (by decide +kernel) rfl
theorem get_X4_9 {K : Kx} {cc : ByteArray} {g : Gm} {nL d : Nat} {ret : Option FieldType} {Q : State → Prop} {pc : Nat} {lv : List (Nat × Value)} {st : List Value} {σ : St} (hC : Ok K cc RX4 g nL d ret) (hd : decode cc pc = .ok (.getfield 9, 3)) (k : J K (wX g) nL Q (pc + 3) lv (.ref (g.1 9) :: st) σ) : J K (wX g) nL Q (pc) lv (.ref (g.1 8) :: st) σ := by
  obtain ⟨p, l, e, R, s, m, args, below, meth, c, D, A⟩ := K
  obtain ⟨hx, hb, hml, hown, hts, hK, hA, hSF, hR, hr, hlk⟩ := hC
  exact fun H locs ls hl hP hD hS => va_get (D := D) (ci := 4) (v := .ref (g.1 9)) (C := RX4) (T := TX4) (N := 14) hx hb hts uwX4 hown hK hP 8 rfl rfl 1 (by decide) (hts _ mf_X4_9) (fun _ h9 => h9) rfl hd (k H locs ls hl hP hD hS)
theorem mf_X4_15 : Cond.fieldLink RX4 15 "SongHour$Songs" "artist" "[I" ∈ GW := memT (i := 149) (by decide +kernel) rfl
theorem get_X4_15 {K : Kx} {cc : ByteArray} {g : Gm} {nL d : Nat} {ret : Option FieldType} {Q : State → Prop} {pc : Nat} {lv : List (Nat × Value)} {st : List Value} {σ : St} (hC : Ok K cc RX4 g nL d ret) (hd : decode cc pc = .ok (.getfield 15, 3)) (k : J K (wX g) nL Q (pc + 3) lv (.ref (g.1 10) :: st) σ) : J K (wX g) nL Q (pc) lv (.ref (g.1 8) :: st) σ := by
  obtain ⟨p, l, e, R, s, m, args, below, meth, c, D, A⟩ := K
  obtain ⟨hx, hb, hml, hown, hts, hK, hA, hSF, hR, hr, hlk⟩ := hC
  exact fun H locs ls hl hP hD hS => va_get (D := D) (ci := 4) (v := .ref (g.1 10)) (C := RX4) (T := TX4) (N := 14) hx hb hts uwX4 hown hK hP 8 rfl rfl 2 (by decide) (hts _ mf_X4_15) (fun _ h9 => h9) rfl hd (k H locs ls hl hP hD hS)
theorem mf_X4_18 : Cond.fieldLink RX4 18 "SongHour$Songs" "key" "[I" ∈ GW := memT (i := 152) (by decide +kernel) rfl
theorem get_X4_18 {K : Kx} {cc : ByteArray} {g : Gm} {nL d : Nat} {ret : Option FieldType} {Q : State → Prop} {pc : Nat} {lv : List (Nat × Value)} {st : List Value} {σ : St} (hC : Ok K cc RX4 g nL d ret) (hd : decode cc pc = .ok (.getfield 18, 3)) (k : J K (wX g) nL Q (pc + 3) lv (.ref (g.1 11) :: st) σ) : J K (wX g) nL Q (pc) lv (.ref (g.1 8) :: st) σ := by
  obtain ⟨p, l, e, R, s, m, args, below, meth, c, D, A⟩ := K
  obtain ⟨hx, hb, hml, hown, hts, hK, hA, hSF, hR, hr, hlk⟩ := hC
  exact fun H locs ls hl hP hD hS => va_get (D := D) (ci := 4) (v := .ref (g.1 11)) (C := RX4) (T := TX4) (N := 14) hx hb hts uwX4 hown hK hP 8 rfl rfl 3 (by decide) (hts _ mf_X4_18) (fun _ h9 => h9) rfl hd (k H locs ls hl hP hD hS)
theorem mf_X4_21 : Cond.fieldLink RX4 21 "SongHour$Songs" "mood" "[I" ∈ GW := memT (i := 155) (by decide +kernel) rfl
theorem get_X4_21 {K : Kx} {cc : ByteArray} {g : Gm} {nL d : Nat} {ret : Option FieldType} {Q : State → Prop} {pc : Nat} {lv : List (Nat × Value)} {st : List Value} {σ : St} (hC : Ok K cc RX4 g nL d ret) (hd : decode cc pc = .ok (.getfield 21, 3)) (k : J K (wX g) nL Q (pc + 3) lv (.ref (g.1 12) :: st) σ) : J K (wX g) nL Q (pc) lv (.ref (g.1 8) :: st) σ := by
  obtain ⟨p, l, e, R, s, m, args, below, meth, c, D, A⟩ := K
  obtain ⟨hx, hb, hml, hown, hts, hK, hA, hSF, hR, hr, hlk⟩ := hC
  exact fun H locs ls hl hP hD hS => va_get (D := D) (ci := 4) (v := .ref (g.1 12)) (C := RX4) (T := TX4) (N := 14) hx hb hts uwX4 hown hK hP 8 rfl rfl 4 (by decide) (hts _ mf_X4_21) (fun _ h9 => h9) rfl hd (k H locs ls hl hP hD hS)
theorem mf_X4_24 : Cond.fieldLink RX4 24 "SongHour$Songs" "newness" "[I" ∈ GW := memT (i := 157) (by decide +kernel) rfl
theorem get_X4_24 {K : Kx} {cc : ByteArray} {g : Gm} {nL d : Nat} {ret : Option FieldType} {Q : State → Prop} {pc : Nat} {lv : List (Nat × Value)} {st : List Value} {σ : St} (hC : Ok K cc RX4 g nL d ret) (hd : decode cc pc = .ok (.getfield 24, 3)) (k : J K (wX g) nL Q (pc + 3) lv (.ref (g.1 13) :: st) σ) : J K (wX g) nL Q (pc) lv (.ref (g.1 8) :: st) σ := by
  obtain ⟨p, l, e, R, s, m, args, below, meth, c, D, A⟩ := K
  obtain ⟨hx, hb, hml, hown, hts, hK, hA, hSF, hR, hr, hlk⟩ := hC
  exact fun H locs ls hl hP hD hS => va_get (D := D) (ci := 4) (v := .ref (g.1 13)) (C := RX4) (T := TX4) (N := 14) hx hb hts uwX4 hown hK hP 8 rfl rfl 5 (by decide) (hts _ mf_X4_24) (fun _ h9 => h9) rfl hd (k H locs ls hl hP hD hS)
theorem mf_X4_27 : Cond.fieldLink RX4 27 "SongHour$Songs" "asksOpen" "[I" ∈ GW := memT (i := 159) (by decide +kernel) rfl
theorem get_X4_27 {K : Kx} {cc : ByteArray} {g : Gm} {nL d : Nat} {ret : Option FieldType} {Q : State → Prop} {pc : Nat} {lv : List (Nat × Value)} {st : List Value} {σ : St} (hC : Ok K cc RX4 g nL d ret) (hd : decode cc pc = .ok (.getfield 27, 3)) (k : J K (wX g) nL Q (pc + 3) lv (.ref (g.1 14) :: st) σ) : J K (wX g) nL Q (pc) lv (.ref (g.1 8) :: st) σ := by
  obtain ⟨p, l, e, R, s, m, args, below, meth, c, D, A⟩ := K
  obtain ⟨hx, hb, hml, hown, hts, hK, hA, hSF, hR, hr, hlk⟩ := hC
  exact fun H locs ls hl hP hD hS => va_get (D := D) (ci := 4) (v := .ref (g.1 14)) (C := RX4) (T := TX4) (N := 14) hx hb hts uwX4 hown hK hP 8 rfl rfl 6 (by decide) (hts _ mf_X4_27) (fun _ h9 => h9) rfl hd (k H locs ls hl hP hD hS)
theorem mf_X4_30 : Cond.fieldLink RX4 30 "SongHour$Songs" "asksDone" "[I" ∈ GW := memT (i := 161) (by decide +kernel) rfl
theorem get_X4_30 {K : Kx} {cc : ByteArray} {g : Gm} {nL d : Nat} {ret : Option FieldType} {Q : State → Prop} {pc : Nat} {lv : List (Nat × Value)} {st : List Value} {σ : St} (hC : Ok K cc RX4 g nL d ret) (hd : decode cc pc = .ok (.getfield 30, 3)) (k : J K (wX g) nL Q (pc + 3) lv (.ref (g.1 15) :: st) σ) : J K (wX g) nL Q (pc) lv (.ref (g.1 8) :: st) σ := by
  obtain ⟨p, l, e, R, s, m, args, below, meth, c, D, A⟩ := K
  obtain ⟨hx, hb, hml, hown, hts, hK, hA, hSF, hR, hr, hlk⟩ := hC
  exact fun H locs ls hl hP hD hS => va_get (D := D) (ci := 4) (v := .ref (g.1 15)) (C := RX4) (T := TX4) (N := 14) hx hb hts uwX4 hown hK hP 8 rfl rfl 7 (by decide) (hts _ mf_X4_30) (fun _ h9 => h9) rfl hd (k H locs ls hl hP hD hS)
theorem mf_X4_33 : Cond.fieldLink RX4 33 "SongHour$Songs" "played" "[I" ∈ GW := memT (i := 163) (by decide +kernel) rfl
theorem get_X4_33 {K : Kx} {cc : ByteArray} {g : Gm} {nL d : Nat} {ret : Option FieldType} {Q : State → Prop} {pc : Nat} {lv : List (Nat × Value)} {st : List Value} {σ : St} (hC : Ok K cc RX4 g nL d ret) (hd : decode cc pc = .ok (.getfield 33, 3)) (k : J K (wX g) nL Q (pc + 3) lv (.ref (g.1 16) :: st) σ) : J K (wX g) nL Q (pc) lv (.ref (g.1 8) :: st) σ := by
  obtain ⟨p, l, e, R, s, m, args, below, meth, c, D, A⟩ := K
  obtain ⟨hx, hb, hml, hown, hts, hK, hA, hSF, hR, hr, hlk⟩ := hC
  exact fun H locs ls hl hP hD hS => va_get (D := D) (ci := 4) (v := .ref (g.1 16)) (C := RX4) (T := TX4) (N := 14) hx hb hts uwX4 hown hK hP 8 rfl rfl 8 (by decide) (hts _ mf_X4_33) (fun _ h9 => h9) rfl hd (k H locs ls hl hP hD hS)
theorem mf_X4_36 : Cond.fieldLink RX4 36 "SongHour$Songs" "began" "[I" ∈ GW := memT (i := 165) (by decide +kernel) rfl
theorem get_X4_36 {K : Kx} {cc : ByteArray} {g : Gm} {nL d : Nat} {ret : Option FieldType} {Q : State → Prop} {pc : Nat} {lv : List (Nat × Value)} {st : List Value} {σ : St} (hC : Ok K cc RX4 g nL d ret) (hd : decode cc pc = .ok (.getfield 36, 3)) (k : J K (wX g) nL Q (pc + 3) lv (.ref (g.1 17) :: st) σ) : J K (wX g) nL Q (pc) lv (.ref (g.1 8) :: st) σ := by
  obtain ⟨p, l, e, R, s, m, args, below, meth, c, D, A⟩ := K
  obtain ⟨hx, hb, hml, hown, hts, hK, hA, hSF, hR, hr, hlk⟩ := hC
  exact fun H locs ls hl hP hD hS => va_get (D := D) (ci := 4) (v := .ref (g.1 17)) (C := RX4) (T := TX4) (N := 14) hx hb hts uwX4 hown hK hP 8 rfl rfl 9 (by decide) (hts _ mf_X4_36) (fun _ h9 => h9) rfl hd (k H locs ls hl hP hD hS)
theorem mf_X4_39 : Cond.fieldLink RX4 39 "SongHour$Songs" "artistBegan" "[I" ∈ GW := memT (i := 168) (by decide +kernel) rfl
theorem get_X4_39 {K : Kx} {cc : ByteArray} {g : Gm} {nL d : Nat} {ret : Option FieldType} {Q : State → Prop} {pc : Nat} {lv : List (Nat × Value)} {st : List Value} {σ : St} (hC : Ok K cc RX4 g nL d ret) (hd : decode cc pc = .ok (.getfield 39, 3)) (k : J K (wX g) nL Q (pc + 3) lv (.ref (g.1 18) :: st) σ) : J K (wX g) nL Q (pc) lv (.ref (g.1 8) :: st) σ := by
  obtain ⟨p, l, e, R, s, m, args, below, meth, c, D, A⟩ := K
  obtain ⟨hx, hb, hml, hown, hts, hK, hA, hSF, hR, hr, hlk⟩ := hC
  exact fun H locs ls hl hP hD hS => va_get (D := D) (ci := 4) (v := .ref (g.1 18)) (C := RX4) (T := TX4) (N := 14) hx hb hts uwX4 hown hK hP 8 rfl rfl 10 (by decide) (hts _ mf_X4_39) (fun _ h9 => h9) rfl hd (k H locs ls hl hP hD hS)
theorem mf_X4_42 : Cond.fieldLink RX4 42 "SongHour$Songs" "voteSum" "[I" ∈ GW := memT (i := 170) (by decide +kernel) rfl
theorem get_X4_42 {K : Kx} {cc : ByteArray} {g : Gm} {nL d : Nat} {ret : Option FieldType} {Q : State → Prop} {pc : Nat} {lv : List (Nat × Value)} {st : List Value} {σ : St} (hC : Ok K cc RX4 g nL d ret) (hd : decode cc pc = .ok (.getfield 42, 3)) (k : J K (wX g) nL Q (pc + 3) lv (.ref (g.1 19) :: st) σ) : J K (wX g) nL Q (pc) lv (.ref (g.1 8) :: st) σ := by
  obtain ⟨p, l, e, R, s, m, args, below, meth, c, D, A⟩ := K
  obtain ⟨hx, hb, hml, hown, hts, hK, hA, hSF, hR, hr, hlk⟩ := hC
  exact fun H locs ls hl hP hD hS => va_get (D := D) (ci := 4) (v := .ref (g.1 19)) (C := RX4) (T := TX4) (N := 14) hx hb hts uwX4 hown hK hP 8 rfl rfl 11 (by decide) (hts _ mf_X4_42) (fun _ h9 => h9) rfl hd (k H locs ls hl hP hD hS)
theorem mf_X4_45 : Cond.fieldLink RX4 45 "SongHour$Songs" "oldestVote" "[I" ∈ GW := memT (i := 171) (by decide +kernel) rfl
theorem get_X4_45 {K : Kx} {cc : ByteArray} {g : Gm} {nL d : Nat} {ret : Option FieldType} {Q : State → Prop} {pc : Nat} {lv : List (Nat × Value)} {st : List Value} {σ : St} (hC : Ok K cc RX4 g nL d ret) (hd : decode cc pc = .ok (.getfield 45, 3)) (k : J K (wX g) nL Q (pc + 3) lv (.ref (g.1 20) :: st) σ) : J K (wX g) nL Q (pc) lv (.ref (g.1 8) :: st) σ := by
  obtain ⟨p, l, e, R, s, m, args, below, meth, c, D, A⟩ := K
  obtain ⟨hx, hb, hml, hown, hts, hK, hA, hSF, hR, hr, hlk⟩ := hC
  exact fun H locs ls hl hP hD hS => va_get (D := D) (ci := 4) (v := .ref (g.1 20)) (C := RX4) (T := TX4) (N := 14) hx hb hts uwX4 hown hK hP 8 rfl rfl 12 (by decide) (hts _ mf_X4_45) (fun _ h9 => h9) rfl hd (k H locs ls hl hP hD hS)
theorem mf_X4_48 : Cond.fieldLink RX4 48 "SongHour$Songs" "votes" "[B" ∈ GW := memT (i := 172) (by decide +kernel) rfl
theorem get_X4_48 {K : Kx} {cc : ByteArray} {g : Gm} {nL d : Nat} {ret : Option FieldType} {Q : State → Prop} {pc : Nat} {lv : List (Nat × Value)} {st : List Value} {σ : St} (hC : Ok K cc RX4 g nL d ret) (hd : decode cc pc = .ok (.getfield 48, 3)) (k : J K (wX g) nL Q (pc + 3) lv (.ref (g.1 21) :: st) σ) : J K (wX g) nL Q (pc) lv (.ref (g.1 8) :: st) σ := by
  obtain ⟨p, l, e, R, s, m, args, below, meth, c, D, A⟩ := K
  obtain ⟨hx, hb, hml, hown, hts, hK, hA, hSF, hR, hr, hlk⟩ := hC
  exact fun H locs ls hl hP hD hS => va_get (D := D) (ci := 4) (v := .ref (g.1 21)) (C := RX4) (T := TX4) (N := 14) hx hb hts uwX4 hown hK hP 8 rfl rfl 13 (by decide) (hts _ mf_X4_48) (fun _ h9 => h9) rfl hd (k H locs ls hl hP hD hS)
theorem mf_X4_58 : Cond.fieldLink RX4 58 "SongHour$Songs" "size" "I" ∈ GW := memT (i := 143) (by decide +kernel) rfl
theorem get_X4_58 {K : Kx} {cc : ByteArray} {g : Gm} {nL d : Nat} {ret : Option FieldType} {Q : State → Prop} {pc : Nat} {lv : List (Nat × Value)} {st : List Value} {σ : St} (hC : Ok K cc RX4 g nL d ret) (hd : decode cc pc = .ok (.getfield 58, 3)) (k : J K (wX g) nL Q (pc + 3) lv (.int (gi σ 9) :: st) σ) : J K (wX g) nL Q (pc) lv (.ref (g.1 8) :: st) σ := by
  obtain ⟨p, l, e, R, s, m, args, below, meth, c, D, A⟩ := K
  obtain ⟨hx, hb, hml, hown, hts, hK, hA, hSF, hR, hr, hlk⟩ := hC
  exact fun H locs ls hl hP hD hS => va_get (D := D) (ci := 4) (v := .int (gi σ 9)) (C := RX4) (T := TX4) (N := 14) hx hb hts uwX4 hown hK hP 8 rfl rfl 0 (by decide) (hts _ mf_X4_58) (fun _ h9 => h9) rfl hd (k H locs ls hl hP hD hS)
theorem put_X4_58 {K : Kx} {cc : ByteArray} {g : Gm} {nL d : Nat} {ret : Option FieldType} {Q : State → Prop} {pc : Nat} {lv : List (Nat × Value)} {st : List Value} {σ : St} (hC : Ok K cc RX4 g nL d ret) {v : Int32} {ρ : Type} {o : ρ} {f : St → Option ρ} (hd : decode cc pc = .ok (.putfield 58, 3)) (h : bnd (si σ 9 v) f = some o) (k : ∀ σ2, f σ2 = some o → J K (wX g) nL Q (pc + 3) lv (st) σ2) : J K (wX g) nL Q (pc) lv (.int v :: .ref (g.1 8) :: st) σ := by
  obtain ⟨p, l, e, R, s, m, args, below, meth, c, D, A⟩ := K
  obtain ⟨hx, hb, hml, hown, hts, hK, hA, hSF, hR, hr, hlk⟩ := hC
  exact fun H locs ls hl hP hD hS => va_put (D := D) (ci := 4) (v := .int v) (ty := .int) (C := RX4) (T := TX4) (N := 14) hx hb hts uwX4 tyX4 tyX4_ok nmX4 hown hK hP hD hS 8 rfl rfl 0 (by decide) (hts _ mf_X4_58) (fun _ h9 => h9) rfl (by decide +kernel) rfl rfl (Nat.le_of_ble_eq_true rfl) hd (fun H locs hP hD hS => k _ h H locs ls hl hP hD hS)
theorem mf_X5_9 : Cond.fieldLink RX5 9 "SongHour$Text" "bytes" "[B" ∈ GW := memT (i := 35) (by decide +kernel) rfl
theorem get_X5_9 {K : Kx} {cc : ByteArray} {g : Gm} {nL d : Nat} {ret : Option FieldType} {Q : State → Prop} {pc : Nat} {lv : List (Nat × Value)} {st : List Value} {σ : St} (hC : Ok K cc RX5 g nL d ret) (hd : decode cc pc = .ok (.getfield 9, 3)) (k : J K (wX g) nL Q (pc + 3) lv (.ref (g.1 3) :: st) σ) : J K (wX g) nL Q (pc) lv (.ref (g.1 2) :: st) σ := by
  obtain ⟨p, l, e, R, s, m, args, below, meth, c, D, A⟩ := K
  obtain ⟨hx, hb, hml, hown, hts, hK, hA, hSF, hR, hr, hlk⟩ := hC
  exact fun H locs ls hl hP hD hS => va_get (D := D) (ci := 5) (v := .ref (g.1 3)) (C := RX5) (T := TX5) (N := 9) hx hb hts uwX5 hown hK hP 2 rfl rfl 0 (by decide) (hts _ mf_X5_9) (fun _ h9 => h9) rfl hd (k H locs ls hl hP hD hS)
theorem mf_X5_13 : Cond.fieldLink RX5 13 "SongHour$Text" "size" "I" ∈ GW := memT (i := 36) (by decide +kernel) rfl
theorem get_X5_13 {K : Kx} {cc : ByteArray} {g : Gm} {nL d : Nat} {ret : Option FieldType} {Q : State → Prop} {pc : Nat} {lv : List (Nat × Value)} {st : List Value} {σ : St} (hC : Ok K cc RX5 g nL d ret) (hd : decode cc pc = .ok (.getfield 13, 3)) (k : J K (wX g) nL Q (pc + 3) lv (.int (gi σ 0) :: st) σ) : J K (wX g) nL Q (pc) lv (.ref (g.1 2) :: st) σ := by
  obtain ⟨p, l, e, R, s, m, args, below, meth, c, D, A⟩ := K
  obtain ⟨hx, hb, hml, hown, hts, hK, hA, hSF, hR, hr, hlk⟩ := hC
  exact fun H locs ls hl hP hD hS => va_get (D := D) (ci := 5) (v := .int (gi σ 0)) (C := RX5) (T := TX5) (N := 9) hx hb hts uwX5 hown hK hP 2 rfl rfl 1 (by decide) (hts _ mf_X5_13) (fun _ h9 => h9) rfl hd (k H locs ls hl hP hD hS)
theorem put_X5_13 {K : Kx} {cc : ByteArray} {g : Gm} {nL d : Nat} {ret : Option FieldType} {Q : State → Prop} {pc : Nat} {lv : List (Nat × Value)} {st : List Value} {σ : St} (hC : Ok K cc RX5 g nL d ret) {v : Int32} {ρ : Type} {o : ρ} {f : St → Option ρ} (hd : decode cc pc = .ok (.putfield 13, 3)) (h : bnd (si σ 0 v) f = some o) (k : ∀ σ2, f σ2 = some o → J K (wX g) nL Q (pc + 3) lv (st) σ2) : J K (wX g) nL Q (pc) lv (.int v :: .ref (g.1 2) :: st) σ := by
  obtain ⟨p, l, e, R, s, m, args, below, meth, c, D, A⟩ := K
  obtain ⟨hx, hb, hml, hown, hts, hK, hA, hSF, hR, hr, hlk⟩ := hC
  exact fun H locs ls hl hP hD hS => va_put (D := D) (ci := 5) (v := .int v) (ty := .int) (C := RX5) (T := TX5) (N := 9) hx hb hts uwX5 tyX5 tyX5_ok nmX5 hown hK hP hD hS 2 rfl rfl 1 (by decide) (hts _ mf_X5_13) (fun _ h9 => h9) rfl (by decide +kernel) rfl rfl (Nat.le_of_ble_eq_true rfl) hd (fun H locs hP hD hS => k _ h H locs ls hl hP hD hS)
theorem mf_X5_17 : Cond.fieldLink RX5 17 "SongHour$Text" "limit" "I" ∈ GW := memT (i := 48) (by decide +kernel) rfl
theorem get_X5_17 {K : Kx} {cc : ByteArray} {g : Gm} {nL d : Nat} {ret : Option FieldType} {Q : State → Prop} {pc : Nat} {lv : List (Nat × Value)} {st : List Value} {σ : St} (hC : Ok K cc RX5 g nL d ret) (hd : decode cc pc = .ok (.getfield 17, 3)) (k : J K (wX g) nL Q (pc + 3) lv (.int (gi σ 5) :: st) σ) : J K (wX g) nL Q (pc) lv (.ref (g.1 2) :: st) σ := by
  obtain ⟨p, l, e, R, s, m, args, below, meth, c, D, A⟩ := K
  obtain ⟨hx, hb, hml, hown, hts, hK, hA, hSF, hR, hr, hlk⟩ := hC
  exact fun H locs ls hl hP hD hS => va_get (D := D) (ci := 5) (v := .int (gi σ 5)) (C := RX5) (T := TX5) (N := 9) hx hb hts uwX5 hown hK hP 2 rfl rfl 6 (by decide) (hts _ mf_X5_17) (fun _ h9 => h9) rfl hd (k H locs ls hl hP hD hS)
theorem put_X5_17 {K : Kx} {cc : ByteArray} {g : Gm} {nL d : Nat} {ret : Option FieldType} {Q : State → Prop} {pc : Nat} {lv : List (Nat × Value)} {st : List Value} {σ : St} (hC : Ok K cc RX5 g nL d ret) {v : Int32} {ρ : Type} {o : ρ} {f : St → Option ρ} (hd : decode cc pc = .ok (.putfield 17, 3)) (h : bnd (si σ 5 v) f = some o) (k : ∀ σ2, f σ2 = some o → J K (wX g) nL Q (pc + 3) lv (st) σ2) : J K (wX g) nL Q (pc) lv (.int v :: .ref (g.1 2) :: st) σ := by
  obtain ⟨p, l, e, R, s, m, args, below, meth, c, D, A⟩ := K
  obtain ⟨hx, hb, hml, hown, hts, hK, hA, hSF, hR, hr, hlk⟩ := hC
  exact fun H locs ls hl hP hD hS => va_put (D := D) (ci := 5) (v := .int v) (ty := .int) (C := RX5) (T := TX5) (N := 9) hx hb hts uwX5 tyX5 tyX5_ok nmX5 hown hK hP hD hS 2 rfl rfl 6 (by decide) (hts _ mf_X5_17) (fun _ h9 => h9) rfl (by decide +kernel) rfl rfl (Nat.le_of_ble_eq_true rfl) hd (fun H locs hP hD hS => k _ h H locs ls hl hP hD hS)
theorem mf_X5_20 : Cond.fieldLink RX5 20 "SongHour$Text" "faultKind" "I" ∈ GW := memT (i := 38) (by decide +kernel) rfl
theorem get_X5_20 {K : Kx} {cc : ByteArray} {g : Gm} {nL d : Nat} {ret : Option FieldType} {Q : State → Prop} {pc : Nat} {lv : List (Nat × Value)} {st : List Value} {σ : St} (hC : Ok K cc RX5 g nL d ret) (hd : decode cc pc = .ok (.getfield 20, 3)) (k : J K (wX g) nL Q (pc + 3) lv (.int (gi σ 1) :: st) σ) : J K (wX g) nL Q (pc) lv (.ref (g.1 2) :: st) σ := by
  obtain ⟨p, l, e, R, s, m, args, below, meth, c, D, A⟩ := K
  obtain ⟨hx, hb, hml, hown, hts, hK, hA, hSF, hR, hr, hlk⟩ := hC
  exact fun H locs ls hl hP hD hS => va_get (D := D) (ci := 5) (v := .int (gi σ 1)) (C := RX5) (T := TX5) (N := 9) hx hb hts uwX5 hown hK hP 2 rfl rfl 2 (by decide) (hts _ mf_X5_20) (fun _ h9 => h9) rfl hd (k H locs ls hl hP hD hS)
theorem put_X5_20 {K : Kx} {cc : ByteArray} {g : Gm} {nL d : Nat} {ret : Option FieldType} {Q : State → Prop} {pc : Nat} {lv : List (Nat × Value)} {st : List Value} {σ : St} (hC : Ok K cc RX5 g nL d ret) {v : Int32} {ρ : Type} {o : ρ} {f : St → Option ρ} (hd : decode cc pc = .ok (.putfield 20, 3)) (h : bnd (si σ 1 v) f = some o) (k : ∀ σ2, f σ2 = some o → J K (wX g) nL Q (pc + 3) lv (st) σ2) : J K (wX g) nL Q (pc) lv (.int v :: .ref (g.1 2) :: st) σ := by
  obtain ⟨p, l, e, R, s, m, args, below, meth, c, D, A⟩ := K
  obtain ⟨hx, hb, hml, hown, hts, hK, hA, hSF, hR, hr, hlk⟩ := hC
  exact fun H locs ls hl hP hD hS => va_put (D := D) (ci := 5) (v := .int v) (ty := .int) (C := RX5) (T := TX5) (N := 9) hx hb hts uwX5 tyX5 tyX5_ok nmX5 hown hK hP hD hS 2 rfl rfl 2 (by decide) (hts _ mf_X5_20) (fun _ h9 => h9) rfl (by decide +kernel) rfl rfl (Nat.le_of_ble_eq_true rfl) hd (fun H locs hP hD hS => k _ h H locs ls hl hP hD hS)
theorem mf_X5_23 : Cond.fieldLink RX5 23 "SongHour$Text" "faultPlace" "I" ∈ GW := memT (i := 40) (by decide +kernel) rfl
theorem get_X5_23 {K : Kx} {cc : ByteArray} {g : Gm} {nL d : Nat} {ret : Option FieldType} {Q : State → Prop} {pc : Nat} {lv : List (Nat × Value)} {st : List Value} {σ : St} (hC : Ok K cc RX5 g nL d ret) (hd : decode cc pc = .ok (.getfield 23, 3)) (k : J K (wX g) nL Q (pc + 3) lv (.int (gi σ 2) :: st) σ) : J K (wX g) nL Q (pc) lv (.ref (g.1 2) :: st) σ := by
  obtain ⟨p, l, e, R, s, m, args, below, meth, c, D, A⟩ := K
  obtain ⟨hx, hb, hml, hown, hts, hK, hA, hSF, hR, hr, hlk⟩ := hC
  exact fun H locs ls hl hP hD hS => va_get (D := D) (ci := 5) (v := .int (gi σ 2)) (C := RX5) (T := TX5) (N := 9) hx hb hts uwX5 hown hK hP 2 rfl rfl 3 (by decide) (hts _ mf_X5_23) (fun _ h9 => h9) rfl hd (k H locs ls hl hP hD hS)
theorem put_X5_23 {K : Kx} {cc : ByteArray} {g : Gm} {nL d : Nat} {ret : Option FieldType} {Q : State → Prop} {pc : Nat} {lv : List (Nat × Value)} {st : List Value} {σ : St} (hC : Ok K cc RX5 g nL d ret) {v : Int32} {ρ : Type} {o : ρ} {f : St → Option ρ} (hd : decode cc pc = .ok (.putfield 23, 3)) (h : bnd (si σ 2 v) f = some o) (k : ∀ σ2, f σ2 = some o → J K (wX g) nL Q (pc + 3) lv (st) σ2) : J K (wX g) nL Q (pc) lv (.int v :: .ref (g.1 2) :: st) σ := by
  obtain ⟨p, l, e, R, s, m, args, below, meth, c, D, A⟩ := K
  obtain ⟨hx, hb, hml, hown, hts, hK, hA, hSF, hR, hr, hlk⟩ := hC
  exact fun H locs ls hl hP hD hS => va_put (D := D) (ci := 5) (v := .int v) (ty := .int) (C := RX5) (T := TX5) (N := 9) hx hb hts uwX5 tyX5 tyX5_ok nmX5 hown hK hP hD hS 2 rfl rfl 3 (by decide) (hts _ mf_X5_23) (fun _ h9 => h9) rfl (by decide +kernel) rfl rfl (Nat.le_of_ble_eq_true rfl) hd (fun H locs hP hD hS => k _ h H locs ls hl hP hD hS)
theorem mf_X5_26 : Cond.fieldLink RX5 26 "SongHour$Text" "to" "I" ∈ GW := memT (i := 50) (by decide +kernel) rfl
theorem get_X5_26 {K : Kx} {cc : ByteArray} {g : Gm} {nL d : Nat} {ret : Option FieldType} {Q : State → Prop} {pc : Nat} {lv : List (Nat × Value)} {st : List Value} {σ : St} (hC : Ok K cc RX5 g nL d ret) (hd : decode cc pc = .ok (.getfield 26, 3)) (k : J K (wX g) nL Q (pc + 3) lv (.int (gi σ 7) :: st) σ) : J K (wX g) nL Q (pc) lv (.ref (g.1 2) :: st) σ := by
  obtain ⟨p, l, e, R, s, m, args, below, meth, c, D, A⟩ := K
  obtain ⟨hx, hb, hml, hown, hts, hK, hA, hSF, hR, hr, hlk⟩ := hC
  exact fun H locs ls hl hP hD hS => va_get (D := D) (ci := 5) (v := .int (gi σ 7)) (C := RX5) (T := TX5) (N := 9) hx hb hts uwX5 hown hK hP 2 rfl rfl 8 (by decide) (hts _ mf_X5_26) (fun _ h9 => h9) rfl hd (k H locs ls hl hP hD hS)
theorem put_X5_26 {K : Kx} {cc : ByteArray} {g : Gm} {nL d : Nat} {ret : Option FieldType} {Q : State → Prop} {pc : Nat} {lv : List (Nat × Value)} {st : List Value} {σ : St} (hC : Ok K cc RX5 g nL d ret) {v : Int32} {ρ : Type} {o : ρ} {f : St → Option ρ} (hd : decode cc pc = .ok (.putfield 26, 3)) (h : bnd (si σ 7 v) f = some o) (k : ∀ σ2, f σ2 = some o → J K (wX g) nL Q (pc + 3) lv (st) σ2) : J K (wX g) nL Q (pc) lv (.int v :: .ref (g.1 2) :: st) σ := by
  obtain ⟨p, l, e, R, s, m, args, below, meth, c, D, A⟩ := K
  obtain ⟨hx, hb, hml, hown, hts, hK, hA, hSF, hR, hr, hlk⟩ := hC
  exact fun H locs ls hl hP hD hS => va_put (D := D) (ci := 5) (v := .int v) (ty := .int) (C := RX5) (T := TX5) (N := 9) hx hb hts uwX5 tyX5 tyX5_ok nmX5 hown hK hP hD hS 2 rfl rfl 8 (by decide) (hts _ mf_X5_26) (fun _ h9 => h9) rfl (by decide +kernel) rfl rfl (Nat.le_of_ble_eq_true rfl) hd (fun H locs hP hD hS => k _ h H locs ls hl hP hD hS)
theorem mf_X5_40 : Cond.fieldLink RX5 40 "SongHour$Text" "token" "I" ∈ GW := memT (i := 44) (by decide +kernel) rfl
theorem get_X5_40 {K : Kx} {cc : ByteArray} {g : Gm} {nL d : Nat} {ret : Option FieldType} {Q : State → Prop} {pc : Nat} {lv : List (Nat × Value)} {st : List Value} {σ : St} (hC : Ok K cc RX5 g nL d ret) (hd : decode cc pc = .ok (.getfield 40, 3)) (k : J K (wX g) nL Q (pc + 3) lv (.int (gi σ 3) :: st) σ) : J K (wX g) nL Q (pc) lv (.ref (g.1 2) :: st) σ := by
  obtain ⟨p, l, e, R, s, m, args, below, meth, c, D, A⟩ := K
  obtain ⟨hx, hb, hml, hown, hts, hK, hA, hSF, hR, hr, hlk⟩ := hC
  exact fun H locs ls hl hP hD hS => va_get (D := D) (ci := 5) (v := .int (gi σ 3)) (C := RX5) (T := TX5) (N := 9) hx hb hts uwX5 hown hK hP 2 rfl rfl 4 (by decide) (hts _ mf_X5_40) (fun _ h9 => h9) rfl hd (k H locs ls hl hP hD hS)
theorem put_X5_40 {K : Kx} {cc : ByteArray} {g : Gm} {nL d : Nat} {ret : Option FieldType} {Q : State → Prop} {pc : Nat} {lv : List (Nat × Value)} {st : List Value} {σ : St} (hC : Ok K cc RX5 g nL d ret) {v : Int32} {ρ : Type} {o : ρ} {f : St → Option ρ} (hd : decode cc pc = .ok (.putfield 40, 3)) (h : bnd (si σ 3 v) f = some o) (k : ∀ σ2, f σ2 = some o → J K (wX g) nL Q (pc + 3) lv (st) σ2) : J K (wX g) nL Q (pc) lv (.int v :: .ref (g.1 2) :: st) σ := by
  obtain ⟨p, l, e, R, s, m, args, below, meth, c, D, A⟩ := K
  obtain ⟨hx, hb, hml, hown, hts, hK, hA, hSF, hR, hr, hlk⟩ := hC
  exact fun H locs ls hl hP hD hS => va_put (D := D) (ci := 5) (v := .int v) (ty := .int) (C := RX5) (T := TX5) (N := 9) hx hb hts uwX5 tyX5 tyX5_ok nmX5 hown hK hP hD hS 2 rfl rfl 4 (by decide) (hts _ mf_X5_40) (fun _ h9 => h9) rfl (by decide +kernel) rfl rfl (Nat.le_of_ble_eq_true rfl) hd (fun H locs hP hD hS => k _ h H locs ls hl hP hD hS)
theorem mf_X5_49 : Cond.fieldLink RX5 49 "SongHour$Text" "from" "I" ∈ GW := memT (i := 49) (by decide +kernel) rfl
theorem get_X5_49 {K : Kx} {cc : ByteArray} {g : Gm} {nL d : Nat} {ret : Option FieldType} {Q : State → Prop} {pc : Nat} {lv : List (Nat × Value)} {st : List Value} {σ : St} (hC : Ok K cc RX5 g nL d ret) (hd : decode cc pc = .ok (.getfield 49, 3)) (k : J K (wX g) nL Q (pc + 3) lv (.int (gi σ 6) :: st) σ) : J K (wX g) nL Q (pc) lv (.ref (g.1 2) :: st) σ := by
  obtain ⟨p, l, e, R, s, m, args, below, meth, c, D, A⟩ := K
  obtain ⟨hx, hb, hml, hown, hts, hK, hA, hSF, hR, hr, hlk⟩ := hC
  exact fun H locs ls hl hP hD hS => va_get (D := D) (ci := 5) (v := .int (gi σ 6)) (C := RX5) (T := TX5) (N := 9) hx hb hts uwX5 hown hK hP 2 rfl rfl 7 (by decide) (hts _ mf_X5_49) (fun _ h9 => h9) rfl hd (k H locs ls hl hP hD hS)
theorem put_X5_49 {K : Kx} {cc : ByteArray} {g : Gm} {nL d : Nat} {ret : Option FieldType} {Q : State → Prop} {pc : Nat} {lv : List (Nat × Value)} {st : List Value} {σ : St} (hC : Ok K cc RX5 g nL d ret) {v : Int32} {ρ : Type} {o : ρ} {f : St → Option ρ} (hd : decode cc pc = .ok (.putfield 49, 3)) (h : bnd (si σ 6 v) f = some o) (k : ∀ σ2, f σ2 = some o → J K (wX g) nL Q (pc + 3) lv (st) σ2) : J K (wX g) nL Q (pc) lv (.int v :: .ref (g.1 2) :: st) σ := by
  obtain ⟨p, l, e, R, s, m, args, below, meth, c, D, A⟩ := K
  obtain ⟨hx, hb, hml, hown, hts, hK, hA, hSF, hR, hr, hlk⟩ := hC
  exact fun H locs ls hl hP hD hS => va_put (D := D) (ci := 5) (v := .int v) (ty := .int) (C := RX5) (T := TX5) (N := 9) hx hb hts uwX5 tyX5 tyX5_ok nmX5 hown hK hP hD hS 2 rfl rfl 7 (by decide) (hts _ mf_X5_49) (fun _ h9 => h9) rfl (by decide +kernel) rfl rfl (Nat.le_of_ble_eq_true rfl) hd (fun H locs hP hD hS => k _ h H locs ls hl hP hD hS)
theorem mf_X5_58 : Cond.fieldLink RX5 58 "SongHour$Text" "value" "I" ∈ GW := memT (i := 47) (by decide +kernel) rfl
theorem get_X5_58 {K : Kx} {cc : ByteArray} {g : Gm} {nL d : Nat} {ret : Option FieldType} {Q : State → Prop} {pc : Nat} {lv : List (Nat × Value)} {st : List Value} {σ : St} (hC : Ok K cc RX5 g nL d ret) (hd : decode cc pc = .ok (.getfield 58, 3)) (k : J K (wX g) nL Q (pc + 3) lv (.int (gi σ 4) :: st) σ) : J K (wX g) nL Q (pc) lv (.ref (g.1 2) :: st) σ := by
  obtain ⟨p, l, e, R, s, m, args, below, meth, c, D, A⟩ := K
  obtain ⟨hx, hb, hml, hown, hts, hK, hA, hSF, hR, hr, hlk⟩ := hC
  exact fun H locs ls hl hP hD hS => va_get (D := D) (ci := 5) (v := .int (gi σ 4)) (C := RX5) (T := TX5) (N := 9) hx hb hts uwX5 hown hK hP 2 rfl rfl 5 (by decide) (hts _ mf_X5_58) (fun _ h9 => h9) rfl hd (k H locs ls hl hP hD hS)
theorem put_X5_58 {K : Kx} {cc : ByteArray} {g : Gm} {nL d : Nat} {ret : Option FieldType} {Q : State → Prop} {pc : Nat} {lv : List (Nat × Value)} {st : List Value} {σ : St} (hC : Ok K cc RX5 g nL d ret) {v : Int32} {ρ : Type} {o : ρ} {f : St → Option ρ} (hd : decode cc pc = .ok (.putfield 58, 3)) (h : bnd (si σ 4 v) f = some o) (k : ∀ σ2, f σ2 = some o → J K (wX g) nL Q (pc + 3) lv (st) σ2) : J K (wX g) nL Q (pc) lv (.int v :: .ref (g.1 2) :: st) σ := by
  obtain ⟨p, l, e, R, s, m, args, below, meth, c, D, A⟩ := K
  obtain ⟨hx, hb, hml, hown, hts, hK, hA, hSF, hR, hr, hlk⟩ := hC
  exact fun H locs ls hl hP hD hS => va_put (D := D) (ci := 5) (v := .int v) (ty := .int) (C := RX5) (T := TX5) (N := 9) hx hb hts uwX5 tyX5 tyX5_ok nmX5 hown hK hP hD hS 2 rfl rfl 5 (by decide) (hts _ mf_X5_58) (fun _ h9 => h9) rfl (by decide +kernel) rfl rfl (Nat.le_of_ble_eq_true rfl) hd (fun H locs hP hD hS => k _ h H locs ls hl hP hD hS)
theorem mf_X7_7 : Cond.fieldLink RX7 7 "SongHourModel" "tape" "[I" ∈ GW := memT (i := 803) (by decide +kernel) rfl
theorem get_X7_7 {K : Kx} {cc : ByteArray} {g : Gm} {nL d : Nat} {ret : Option FieldType} {Q : State → Prop} {pc : Nat} {lv : List (Nat × Value)} {st : List Value} {σ : St} (hC : Ok K cc RX7 g nL d ret) (hd : decode cc pc = .ok (.getfield 7, 3)) (k : J K (wM g) nL Q (pc + 3) lv (.ref (g.1 1) :: st) σ) : J K (wM g) nL Q (pc) lv (.ref (g.1 0) :: st) σ := by
  obtain ⟨p, l, e, R, s, m, args, below, meth, c, D, A⟩ := K
  obtain ⟨hx, hb, hml, hown, hts, hK, hA, hSF, hR, hr, hlk⟩ := hC
  exact fun H locs ls hl hP hD hS => va_get (D := D) (ci := 7) (v := .ref (g.1 1)) (C := RX7) (T := TX7) (N := 54) hx hb hts uwX7 hown hK hP 0 rfl rfl 1 (by decide) (hts _ mf_X7_7) (fun _ h9 => h9) rfl hd (k H locs ls hl hP hD hS)
theorem mf_X7_13 : Cond.fieldLink RX7 13 "SongHourModel" "rule" "[I" ∈ GW := memT (i := 815) (by decide +kernel) rfl
theorem get_X7_13 {K : Kx} {cc : ByteArray} {g : Gm} {nL d : Nat} {ret : Option FieldType} {Q : State → Prop} {pc : Nat} {lv : List (Nat × Value)} {st : List Value} {σ : St} (hC : Ok K cc RX7 g nL d ret) (hd : decode cc pc = .ok (.getfield 13, 3)) (k : J K (wM g) nL Q (pc + 3) lv (.ref (g.1 2) :: st) σ) : J K (wM g) nL Q (pc) lv (.ref (g.1 0) :: st) σ := by
  obtain ⟨p, l, e, R, s, m, args, below, meth, c, D, A⟩ := K
  obtain ⟨hx, hb, hml, hown, hts, hK, hA, hSF, hR, hr, hlk⟩ := hC
  exact fun H locs ls hl hP hD hS => va_get (D := D) (ci := 7) (v := .ref (g.1 2)) (C := RX7) (T := TX7) (N := 54) hx hb hts uwX7 hown hK hP 0 rfl rfl 13 (by decide) (hts _ mf_X7_13) (fun _ h9 => h9) rfl hd (k H locs ls hl hP hD hS)
theorem mf_X7_16 : Cond.fieldLink RX7 16 "SongHourModel" "usual" "[I" ∈ GW := memT (i := 816) (by decide +kernel) rfl
theorem get_X7_16 {K : Kx} {cc : ByteArray} {g : Gm} {nL d : Nat} {ret : Option FieldType} {Q : State → Prop} {pc : Nat} {lv : List (Nat × Value)} {st : List Value} {σ : St} (hC : Ok K cc RX7 g nL d ret) (hd : decode cc pc = .ok (.getfield 16, 3)) (k : J K (wM g) nL Q (pc + 3) lv (.ref (g.1 3) :: st) σ) : J K (wM g) nL Q (pc) lv (.ref (g.1 0) :: st) σ := by
  obtain ⟨p, l, e, R, s, m, args, below, meth, c, D, A⟩ := K
  obtain ⟨hx, hb, hml, hown, hts, hK, hA, hSF, hR, hr, hlk⟩ := hC
  exact fun H locs ls hl hP hD hS => va_get (D := D) (ci := 7) (v := .ref (g.1 3)) (C := RX7) (T := TX7) (N := 54) hx hb hts uwX7 hown hK hP 0 rfl rfl 14 (by decide) (hts _ mf_X7_16) (fun _ h9 => h9) rfl hd (k H locs ls hl hP hD hS)
theorem mf_X7_19 : Cond.fieldLink RX7 19 "SongHourModel" "fresh" "[I" ∈ GW := memT (i := 817) (by decide +kernel) rfl
theorem get_X7_19 {K : Kx} {cc : ByteArray} {g : Gm} {nL d : Nat} {ret : Option FieldType} {Q : State → Prop} {pc : Nat} {lv : List (Nat × Value)} {st : List Value} {σ : St} (hC : Ok K cc RX7 g nL d ret) (hd : decode cc pc = .ok (.getfield 19, 3)) (k : J K (wM g) nL Q (pc + 3) lv (.ref (g.1 4) :: st) σ) : J K (wM g) nL Q (pc) lv (.ref (g.1 0) :: st) σ := by
  obtain ⟨p, l, e, R, s, m, args, below, meth, c, D, A⟩ := K
  obtain ⟨hx, hb, hml, hown, hts, hK, hA, hSF, hR, hr, hlk⟩ := hC
  exact fun H locs ls hl hP hD hS => va_get (D := D) (ci := 7) (v := .ref (g.1 4)) (C := RX7) (T := TX7) (N := 54) hx hb hts uwX7 hown hK hP 0 rfl rfl 15 (by decide) (hts _ mf_X7_19) (fun _ h9 => h9) rfl hd (k H locs ls hl hP hD hS)
theorem mf_X7_22 : Cond.fieldLink RX7 22 "SongHourModel" "low" "[I" ∈ GW := memT (i := 818) (by decide +kernel) rfl
theorem get_X7_22 {K : Kx} {cc : ByteArray} {g : Gm} {nL d : Nat} {ret : Option FieldType} {Q : State → Prop} {pc : Nat} {lv : List (Nat × Value)} {st : List Value} {σ : St} (hC : Ok K cc RX7 g nL d ret) (hd : decode cc pc = .ok (.getfield 22, 3)) (k : J K (wM g) nL Q (pc + 3) lv (.ref (g.1 5) :: st) σ) : J K (wM g) nL Q (pc) lv (.ref (g.1 0) :: st) σ := by
  obtain ⟨p, l, e, R, s, m, args, below, meth, c, D, A⟩ := K
  obtain ⟨hx, hb, hml, hown, hts, hK, hA, hSF, hR, hr, hlk⟩ := hC
  exact fun H locs ls hl hP hD hS => va_get (D := D) (ci := 7) (v := .ref (g.1 5)) (C := RX7) (T := TX7) (N := 54) hx hb hts uwX7 hown hK hP 0 rfl rfl 16 (by decide) (hts _ mf_X7_22) (fun _ h9 => h9) rfl hd (k H locs ls hl hP hD hS)
theorem mf_X7_25 : Cond.fieldLink RX7 25 "SongHourModel" "high" "[I" ∈ GW := memT (i := 819) (by decide +kernel) rfl
theorem get_X7_25 {K : Kx} {cc : ByteArray} {g : Gm} {nL d : Nat} {ret : Option FieldType} {Q : State → Prop} {pc : Nat} {lv : List (Nat × Value)} {st : List Value} {σ : St} (hC : Ok K cc RX7 g nL d ret) (hd : decode cc pc = .ok (.getfield 25, 3)) (k : J K (wM g) nL Q (pc + 3) lv (.ref (g.1 6) :: st) σ) : J K (wM g) nL Q (pc) lv (.ref (g.1 0) :: st) σ := by
  obtain ⟨p, l, e, R, s, m, args, below, meth, c, D, A⟩ := K
  obtain ⟨hx, hb, hml, hown, hts, hK, hA, hSF, hR, hr, hlk⟩ := hC
  exact fun H locs ls hl hP hD hS => va_get (D := D) (ci := 7) (v := .ref (g.1 6)) (C := RX7) (T := TX7) (N := 54) hx hb hts uwX7 hown hK hP 0 rfl rfl 17 (by decide) (hts _ mf_X7_25) (fun _ h9 => h9) rfl hd (k H locs ls hl hP hD hS)
theorem mf_X7_28 : Cond.fieldLink RX7 28 "SongHourModel" "many" "[I" ∈ GW := memT (i := 820) (by decide +kernel) rfl
theorem get_X7_28 {K : Kx} {cc : ByteArray} {g : Gm} {nL d : Nat} {ret : Option FieldType} {Q : State → Prop} {pc : Nat} {lv : List (Nat × Value)} {st : List Value} {σ : St} (hC : Ok K cc RX7 g nL d ret) (hd : decode cc pc = .ok (.getfield 28, 3)) (k : J K (wM g) nL Q (pc + 3) lv (.ref (g.1 7) :: st) σ) : J K (wM g) nL Q (pc) lv (.ref (g.1 0) :: st) σ := by
  obtain ⟨p, l, e, R, s, m, args, below, meth, c, D, A⟩ := K
  obtain ⟨hx, hb, hml, hown, hts, hK, hA, hSF, hR, hr, hlk⟩ := hC
  exact fun H locs ls hl hP hD hS => va_get (D := D) (ci := 7) (v := .ref (g.1 7)) (C := RX7) (T := TX7) (N := 54) hx hb hts uwX7 hown hK hP 0 rfl rfl 18 (by decide) (hts _ mf_X7_28) (fun _ h9 => h9) rfl hd (k H locs ls hl hP hD hS)
theorem mf_X7_31 : Cond.fieldLink RX7 31 "SongHourModel" "seconds" "[I" ∈ GW := memT (i := 821) (by decide +kernel) rfl
theorem get_X7_31 {K : Kx} {cc : ByteArray} {g : Gm} {nL d : Nat} {ret : Option FieldType} {Q : State → Prop} {pc : Nat} {lv : List (Nat × Value)} {st : List Value} {σ : St} (hC : Ok K cc RX7 g nL d ret) (hd : decode cc pc = .ok (.getfield 31, 3)) (k : J K (wM g) nL Q (pc + 3) lv (.ref (g.1 8) :: st) σ) : J K (wM g) nL Q (pc) lv (.ref (g.1 0) :: st) σ := by
  obtain ⟨p, l, e, R, s, m, args, below, meth, c, D, A⟩ := K
  obtain ⟨hx, hb, hml, hown, hts, hK, hA, hSF, hR, hr, hlk⟩ := hC
  exact fun H locs ls hl hP hD hS => va_get (D := D) (ci := 7) (v := .ref (g.1 8)) (C := RX7) (T := TX7) (N := 54) hx hb hts uwX7 hown hK hP 0 rfl rfl 19 (by decide) (hts _ mf_X7_31) (fun _ h9 => h9) rfl hd (k H locs ls hl hP hD hS)
theorem mf_X7_34 : Cond.fieldLink RX7 34 "SongHourModel" "mood" "[I" ∈ GW := memT (i := 822) (by decide +kernel) rfl
theorem get_X7_34 {K : Kx} {cc : ByteArray} {g : Gm} {nL d : Nat} {ret : Option FieldType} {Q : State → Prop} {pc : Nat} {lv : List (Nat × Value)} {st : List Value} {σ : St} (hC : Ok K cc RX7 g nL d ret) (hd : decode cc pc = .ok (.getfield 34, 3)) (k : J K (wM g) nL Q (pc + 3) lv (.ref (g.1 9) :: st) σ) : J K (wM g) nL Q (pc) lv (.ref (g.1 0) :: st) σ := by
  obtain ⟨p, l, e, R, s, m, args, below, meth, c, D, A⟩ := K
  obtain ⟨hx, hb, hml, hown, hts, hK, hA, hSF, hR, hr, hlk⟩ := hC
  exact fun H locs ls hl hP hD hS => va_get (D := D) (ci := 7) (v := .ref (g.1 9)) (C := RX7) (T := TX7) (N := 54) hx hb hts uwX7 hown hK hP 0 rfl rfl 20 (by decide) (hts _ mf_X7_34) (fun _ h9 => h9) rfl hd (k H locs ls hl hP hD hS)
theorem mf_X7_37 : Cond.fieldLink RX7 37 "SongHourModel" "fresh0" "[I" ∈ GW := memT (i := 823) (by decide +kernel) rfl
theorem get_X7_37 {K : Kx} {cc : ByteArray} {g : Gm} {nL d : Nat} {ret : Option FieldType} {Q : State → Prop} {pc : Nat} {lv : List (Nat × Value)} {st : List Value} {σ : St} (hC : Ok K cc RX7 g nL d ret) (hd : decode cc pc = .ok (.getfield 37, 3)) (k : J K (wM g) nL Q (pc + 3) lv (.ref (g.1 10) :: st) σ) : J K (wM g) nL Q (pc) lv (.ref (g.1 0) :: st) σ := by
  obtain ⟨p, l, e, R, s, m, args, below, meth, c, D, A⟩ := K
  obtain ⟨hx, hb, hml, hown, hts, hK, hA, hSF, hR, hr, hlk⟩ := hC
  exact fun H locs ls hl hP hD hS => va_get (D := D) (ci := 7) (v := .ref (g.1 10)) (C := RX7) (T := TX7) (N := 54) hx hb hts uwX7 hown hK hP 0 rfl rfl 21 (by decide) (hts _ mf_X7_37) (fun _ h9 => h9) rfl hd (k H locs ls hl hP hD hS)
theorem mf_X7_40 : Cond.fieldLink RX7 40 "SongHourModel" "lasts" "[I" ∈ GW := memT (i := 825) (by decide +kernel) rfl
theorem get_X7_40 {K : Kx} {cc : ByteArray} {g : Gm} {nL d : Nat} {ret : Option FieldType} {Q : State → Prop} {pc : Nat} {lv : List (Nat × Value)} {st : List Value} {σ : St} (hC : Ok K cc RX7 g nL d ret) (hd : decode cc pc = .ok (.getfield 40, 3)) (k : J K (wM g) nL Q (pc + 3) lv (.ref (g.1 11) :: st) σ) : J K (wM g) nL Q (pc) lv (.ref (g.1 0) :: st) σ := by
  obtain ⟨p, l, e, R, s, m, args, below, meth, c, D, A⟩ := K
  obtain ⟨hx, hb, hml, hown, hts, hK, hA, hSF, hR, hr, hlk⟩ := hC
  exact fun H locs ls hl hP hD hS => va_get (D := D) (ci := 7) (v := .ref (g.1 11)) (C := RX7) (T := TX7) (N := 54) hx hb hts uwX7 hown hK hP 0 rfl rfl 23 (by decide) (hts _ mf_X7_40) (fun _ h9 => h9) rfl hd (k H locs ls hl hP hD hS)
theorem mf_X7_43 : Cond.fieldLink RX7 43 "SongHourModel" "artist" "[I" ∈ GW := memT (i := 826) (by decide +kernel) rfl
theorem get_X7_43 {K : Kx} {cc : ByteArray} {g : Gm} {nL d : Nat} {ret : Option FieldType} {Q : State → Prop} {pc : Nat} {lv : List (Nat × Value)} {st : List Value} {σ : St} (hC : Ok K cc RX7 g nL d ret) (hd : decode cc pc = .ok (.getfield 43, 3)) (k : J K (wM g) nL Q (pc + 3) lv (.ref (g.1 12) :: st) σ) : J K (wM g) nL Q (pc) lv (.ref (g.1 0) :: st) σ := by
  obtain ⟨p, l, e, R, s, m, args, below, meth, c, D, A⟩ := K
  obtain ⟨hx, hb, hml, hown, hts, hK, hA, hSF, hR, hr, hlk⟩ := hC
  exact fun H locs ls hl hP hD hS => va_get (D := D) (ci := 7) (v := .ref (g.1 12)) (C := RX7) (T := TX7) (N := 54) hx hb hts uwX7 hown hK hP 0 rfl rfl 24 (by decide) (hts _ mf_X7_43) (fun _ h9 => h9) rfl hd (k H locs ls hl hP hD hS)
theorem mf_X7_46 : Cond.fieldLink RX7 46 "SongHourModel" "key" "[I" ∈ GW := memT (i := 827) (by decide +kernel) rfl
theorem get_X7_46 {K : Kx} {cc : ByteArray} {g : Gm} {nL d : Nat} {ret : Option FieldType} {Q : State → Prop} {pc : Nat} {lv : List (Nat × Value)} {st : List Value} {σ : St} (hC : Ok K cc RX7 g nL d ret) (hd : decode cc pc = .ok (.getfield 46, 3)) (k : J K (wM g) nL Q (pc + 3) lv (.ref (g.1 13) :: st) σ) : J K (wM g) nL Q (pc) lv (.ref (g.1 0) :: st) σ := by
  obtain ⟨p, l, e, R, s, m, args, below, meth, c, D, A⟩ := K
  obtain ⟨hx, hb, hml, hown, hts, hK, hA, hSF, hR, hr, hlk⟩ := hC
  exact fun H locs ls hl hP hD hS => va_get (D := D) (ci := 7) (v := .ref (g.1 13)) (C := RX7) (T := TX7) (N := 54) hx hb hts uwX7 hown hK hP 0 rfl rfl 25 (by decide) (hts _ mf_X7_46) (fun _ h9 => h9) rfl hd (k H locs ls hl hP hD hS)
theorem mf_X7_49 : Cond.fieldLink RX7 49 "SongHourModel" "songMood" "[I" ∈ GW := memT (i := 828) (by decide +kernel) rfl
theorem get_X7_49 {K : Kx} {cc : ByteArray} {g : Gm} {nL d : Nat} {ret : Option FieldType} {Q : State → Prop} {pc : Nat} {lv : List (Nat × Value)} {st : List Value} {σ : St} (hC : Ok K cc RX7 g nL d ret) (hd : decode cc pc = .ok (.getfield 49, 3)) (k : J K (wM g) nL Q (pc + 3) lv (.ref (g.1 14) :: st) σ) : J K (wM g) nL Q (pc) lv (.ref (g.1 0) :: st) σ := by
  obtain ⟨p, l, e, R, s, m, args, below, meth, c, D, A⟩ := K
  obtain ⟨hx, hb, hml, hown, hts, hK, hA, hSF, hR, hr, hlk⟩ := hC
  exact fun H locs ls hl hP hD hS => va_get (D := D) (ci := 7) (v := .ref (g.1 14)) (C := RX7) (T := TX7) (N := 54) hx hb hts uwX7 hown hK hP 0 rfl rfl 26 (by decide) (hts _ mf_X7_49) (fun _ h9 => h9) rfl hd (k H locs ls hl hP hD hS)
theorem mf_X7_52 : Cond.fieldLink RX7 52 "SongHourModel" "votes" "[I" ∈ GW := memT (i := 829) (by decide +kernel) rfl
theorem get_X7_52 {K : Kx} {cc : ByteArray} {g : Gm} {nL d : Nat} {ret : Option FieldType} {Q : State → Prop} {pc : Nat} {lv : List (Nat × Value)} {st : List Value} {σ : St} (hC : Ok K cc RX7 g nL d ret) (hd : decode cc pc = .ok (.getfield 52, 3)) (k : J K (wM g) nL Q (pc + 3) lv (.ref (g.1 15) :: st) σ) : J K (wM g) nL Q (pc) lv (.ref (g.1 0) :: st) σ := by
  obtain ⟨p, l, e, R, s, m, args, below, meth, c, D, A⟩ := K
  obtain ⟨hx, hb, hml, hown, hts, hK, hA, hSF, hR, hr, hlk⟩ := hC
  exact fun H locs ls hl hP hD hS => va_get (D := D) (ci := 7) (v := .ref (g.1 15)) (C := RX7) (T := TX7) (N := 54) hx hb hts uwX7 hown hK hP 0 rfl rfl 27 (by decide) (hts _ mf_X7_52) (fun _ h9 => h9) rfl hd (k H locs ls hl hP hD hS)
theorem mf_X7_55 : Cond.fieldLink RX7 55 "SongHourModel" "open" "[I" ∈ GW := memT (i := 830) (by decide +kernel) rfl
theorem get_X7_55 {K : Kx} {cc : ByteArray} {g : Gm} {nL d : Nat} {ret : Option FieldType} {Q : State → Prop} {pc : Nat} {lv : List (Nat × Value)} {st : List Value} {σ : St} (hC : Ok K cc RX7 g nL d ret) (hd : decode cc pc = .ok (.getfield 55, 3)) (k : J K (wM g) nL Q (pc + 3) lv (.ref (g.1 16) :: st) σ) : J K (wM g) nL Q (pc) lv (.ref (g.1 0) :: st) σ := by
  obtain ⟨p, l, e, R, s, m, args, below, meth, c, D, A⟩ := K
  obtain ⟨hx, hb, hml, hown, hts, hK, hA, hSF, hR, hr, hlk⟩ := hC
  exact fun H locs ls hl hP hD hS => va_get (D := D) (ci := 7) (v := .ref (g.1 16)) (C := RX7) (T := TX7) (N := 54) hx hb hts uwX7 hown hK hP 0 rfl rfl 28 (by decide) (hts _ mf_X7_55) (fun _ h9 => h9) rfl hd (k H locs ls hl hP hD hS)
theorem mf_X7_58 : Cond.fieldLink RX7 58 "SongHourModel" "done" "[I" ∈ GW := memT (i := 831) (by decide +kernel) rfl
theorem get_X7_58 {K : Kx} {cc : ByteArray} {g : Gm} {nL d : Nat} {ret : Option FieldType} {Q : State → Prop} {pc : Nat} {lv : List (Nat × Value)} {st : List Value} {σ : St} (hC : Ok K cc RX7 g nL d ret) (hd : decode cc pc = .ok (.getfield 58, 3)) (k : J K (wM g) nL Q (pc + 3) lv (.ref (g.1 17) :: st) σ) : J K (wM g) nL Q (pc) lv (.ref (g.1 0) :: st) σ := by
  obtain ⟨p, l, e, R, s, m, args, below, meth, c, D, A⟩ := K
  obtain ⟨hx, hb, hml, hown, hts, hK, hA, hSF, hR, hr, hlk⟩ := hC
  exact fun H locs ls hl hP hD hS => va_get (D := D) (ci := 7) (v := .ref (g.1 17)) (C := RX7) (T := TX7) (N := 54) hx hb hts uwX7 hown hK hP 0 rfl rfl 29 (by decide) (hts _ mf_X7_58) (fun _ h9 => h9) rfl hd (k H locs ls hl hP hD hS)
theorem mf_X7_61 : Cond.fieldLink RX7 61 "SongHourModel" "vote" "[I" ∈ GW := memT (i := 832) (by decide +kernel) rfl
theorem get_X7_61 {K : Kx} {cc : ByteArray} {g : Gm} {nL d : Nat} {ret : Option FieldType} {Q : State → Prop} {pc : Nat} {lv : List (Nat × Value)} {st : List Value} {σ : St} (hC : Ok K cc RX7 g nL d ret) (hd : decode cc pc = .ok (.getfield 61, 3)) (k : J K (wM g) nL Q (pc + 3) lv (.ref (g.1 18) :: st) σ) : J K (wM g) nL Q (pc) lv (.ref (g.1 0) :: st) σ := by
  obtain ⟨p, l, e, R, s, m, args, below, meth, c, D, A⟩ := K
  obtain ⟨hx, hb, hml, hown, hts, hK, hA, hSF, hR, hr, hlk⟩ := hC
  exact fun H locs ls hl hP hD hS => va_get (D := D) (ci := 7) (v := .ref (g.1 18)) (C := RX7) (T := TX7) (N := 54) hx hb hts uwX7 hown hK hP 0 rfl rfl 30 (by decide) (hts _ mf_X7_61) (fun _ h9 => h9) rfl hd (k H locs ls hl hP hD hS)
theorem mf_X7_64 : Cond.fieldLink RX7 64 "SongHourModel" "heat" "[I" ∈ GW := memT (i := 833) (by decide +kernel) rfl
theorem get_X7_64 {K : Kx} {cc : ByteArray} {g : Gm} {nL d : Nat} {ret : Option FieldType} {Q : State → Prop} {pc : Nat} {lv : List (Nat × Value)} {st : List Value} {σ : St} (hC : Ok K cc RX7 g nL d ret) (hd : decode cc pc = .ok (.getfield 64, 3)) (k : J K (wM g) nL Q (pc + 3) lv (.ref (g.1 19) :: st) σ) : J K (wM g) nL Q (pc) lv (.ref (g.1 0) :: st) σ := by
  obtain ⟨p, l, e, R, s, m, args, below, meth, c, D, A⟩ := K
  obtain ⟨hx, hb, hml, hown, hts, hK, hA, hSF, hR, hr, hlk⟩ := hC
  exact fun H locs ls hl hP hD hS => va_get (D := D) (ci := 7) (v := .ref (g.1 19)) (C := RX7) (T := TX7) (N := 54) hx hb hts uwX7 hown hK hP 0 rfl rfl 31 (by decide) (hts _ mf_X7_64) (fun _ h9 => h9) rfl hd (k H locs ls hl hP hD hS)
theorem mf_X7_67 : Cond.fieldLink RX7 67 "SongHourModel" "isNew" "[Z" ∈ GW := memT (i := 834) (by decide +kernel) rfl
theorem get_X7_67 {K : Kx} {cc : ByteArray} {g : Gm} {nL d : Nat} {ret : Option FieldType} {Q : State → Prop} {pc : Nat} {lv : List (Nat × Value)} {st : List Value} {σ : St} (hC : Ok K cc RX7 g nL d ret) (hd : decode cc pc = .ok (.getfield 67, 3)) (k : J K (wM g) nL Q (pc + 3) lv (.ref (g.1 20) :: st) σ) : J K (wM g) nL Q (pc) lv (.ref (g.1 0) :: st) σ := by
  obtain ⟨p, l, e, R, s, m, args, below, meth, c, D, A⟩ := K
  obtain ⟨hx, hb, hml, hown, hts, hK, hA, hSF, hR, hr, hlk⟩ := hC
  exact fun H locs ls hl hP hD hS => va_get (D := D) (ci := 7) (v := .ref (g.1 20)) (C := RX7) (T := TX7) (N := 54) hx hb hts uwX7 hown hK hP 0 rfl rfl 32 (by decide) (hts _ mf_X7_67) (fun _ h9 => h9) rfl hd (k H locs ls hl hP hD hS)
theorem mf_X7_71 : Cond.fieldLink RX7 71 "SongHourModel" "played" "[I" ∈ GW := memT (i := 836) (by decide +kernel) rfl
theorem get_X7_71 {K : Kx} {cc : ByteArray} {g : Gm} {nL d : Nat} {ret : Option FieldType} {Q : State → Prop} {pc : Nat} {lv : List (Nat × Value)} {st : List Value} {σ : St} (hC : Ok K cc RX7 g nL d ret) (hd : decode cc pc = .ok (.getfield 71, 3)) (k : J K (wM g) nL Q (pc + 3) lv (.ref (g.1 21) :: st) σ) : J K (wM g) nL Q (pc) lv (.ref (g.1 0) :: st) σ := by
  obtain ⟨p, l, e, R, s, m, args, below, meth, c, D, A⟩ := K
  obtain ⟨hx, hb, hml, hown, hts, hK, hA, hSF, hR, hr, hlk⟩ := hC
  exact fun H locs ls hl hP hD hS => va_get (D := D) (ci := 7) (v := .ref (g.1 21)) (C := RX7) (T := TX7) (N := 54) hx hb hts uwX7 hown hK hP 0 rfl rfl 34 (by decide) (hts _ mf_X7_71) (fun _ h9 => h9) rfl hd (k H locs ls hl hP hD hS)
theorem mf_X7_74 : Cond.fieldLink RX7 74 "SongHourModel" "began" "[I" ∈ GW := memT (i := 837) (by decide +kernel) rfl
theorem get_X7_74 {K : Kx} {cc : ByteArray} {g : Gm} {nL d : Nat} {ret : Option FieldType} {Q : State → Prop} {pc : Nat} {lv : List (Nat × Value)} {st : List Value} {σ : St} (hC : Ok K cc RX7 g nL d ret) (hd : decode cc pc = .ok (.getfield 74, 3)) (k : J K (wM g) nL Q (pc + 3) lv (.ref (g.1 22) :: st) σ) : J K (wM g) nL Q (pc) lv (.ref (g.1 0) :: st) σ := by
  obtain ⟨p, l, e, R, s, m, args, below, meth, c, D, A⟩ := K
  obtain ⟨hx, hb, hml, hown, hts, hK, hA, hSF, hR, hr, hlk⟩ := hC
  exact fun H locs ls hl hP hD hS => va_get (D := D) (ci := 7) (v := .ref (g.1 22)) (C := RX7) (T := TX7) (N := 54) hx hb hts uwX7 hown hK hP 0 rfl rfl 35 (by decide) (hts _ mf_X7_74) (fun _ h9 => h9) rfl hd (k H locs ls hl hP hD hS)
theorem mf_X7_77 : Cond.fieldLink RX7 77 "SongHourModel" "inItem" "[I" ∈ GW := memT (i := 838) (by decide +kernel) rfl
theorem get_X7_77 {K : Kx} {cc : ByteArray} {g : Gm} {nL d : Nat} {ret : Option FieldType} {Q : State → Prop} {pc : Nat} {lv : List (Nat × Value)} {st : List Value} {σ : St} (hC : Ok K cc RX7 g nL d ret) (hd : decode cc pc = .ok (.getfield 77, 3)) (k : J K (wM g) nL Q (pc + 3) lv (.ref (g.1 23) :: st) σ) : J K (wM g) nL Q (pc) lv (.ref (g.1 0) :: st) σ := by
  obtain ⟨p, l, e, R, s, m, args, below, meth, c, D, A⟩ := K
  obtain ⟨hx, hb, hml, hown, hts, hK, hA, hSF, hR, hr, hlk⟩ := hC
  exact fun H locs ls hl hP hD hS => va_get (D := D) (ci := 7) (v := .ref (g.1 23)) (C := RX7) (T := TX7) (N := 54) hx hb hts uwX7 hown hK hP 0 rfl rfl 36 (by decide) (hts _ mf_X7_77) (fun _ h9 => h9) rfl hd (k H locs ls hl hP hD hS)
theorem mf_X7_80 : Cond.fieldLink RX7 80 "SongHourModel" "left" "[I" ∈ GW := memT (i := 839) (by decide +kernel) rfl
theorem get_X7_80 {K : Kx} {cc : ByteArray} {g : Gm} {nL d : Nat} {ret : Option FieldType} {Q : State → Prop} {pc : Nat} {lv : List (Nat × Value)} {st : List Value} {σ : St} (hC : Ok K cc RX7 g nL d ret) (hd : decode cc pc = .ok (.getfield 80, 3)) (k : J K (wM g) nL Q (pc + 3) lv (.ref (g.1 24) :: st) σ) : J K (wM g) nL Q (pc) lv (.ref (g.1 0) :: st) σ := by
  obtain ⟨p, l, e, R, s, m, args, below, meth, c, D, A⟩ := K
  obtain ⟨hx, hb, hml, hown, hts, hK, hA, hSF, hR, hr, hlk⟩ := hC
  exact fun H locs ls hl hP hD hS => va_get (D := D) (ci := 7) (v := .ref (g.1 24)) (C := RX7) (T := TX7) (N := 54) hx hb hts uwX7 hown hK hP 0 rfl rfl 37 (by decide) (hts _ mf_X7_80) (fun _ h9 => h9) rfl hd (k H locs ls hl hP hD hS)
theorem mf_X7_83 : Cond.fieldLink RX7 83 "SongHourModel" "soonest" "[I" ∈ GW := memT (i := 844) (by decide +kernel) rfl
theorem get_X7_83 {K : Kx} {cc : ByteArray} {g : Gm} {nL d : Nat} {ret : Option FieldType} {Q : State → Prop} {pc : Nat} {lv : List (Nat × Value)} {st : List Value} {σ : St} (hC : Ok K cc RX7 g nL d ret) (hd : decode cc pc = .ok (.getfield 83, 3)) (k : J K (wM g) nL Q (pc + 3) lv (.ref (g.1 25) :: st) σ) : J K (wM g) nL Q (pc) lv (.ref (g.1 0) :: st) σ := by
  obtain ⟨p, l, e, R, s, m, args, below, meth, c, D, A⟩ := K
  obtain ⟨hx, hb, hml, hown, hts, hK, hA, hSF, hR, hr, hlk⟩ := hC
  exact fun H locs ls hl hP hD hS => va_get (D := D) (ci := 7) (v := .ref (g.1 25)) (C := RX7) (T := TX7) (N := 54) hx hb hts uwX7 hown hK hP 0 rfl rfl 42 (by decide) (hts _ mf_X7_83) (fun _ h9 => h9) rfl hd (k H locs ls hl hP hD hS)
theorem mf_X7_87 : Cond.fieldLink RX7 87 "SongHourModel" "rows" "[I" ∈ GW := memT (i := 845) (by decide +kernel) rfl
theorem get_X7_87 {K : Kx} {cc : ByteArray} {g : Gm} {nL d : Nat} {ret : Option FieldType} {Q : State → Prop} {pc : Nat} {lv : List (Nat × Value)} {st : List Value} {σ : St} (hC : Ok K cc RX7 g nL d ret) (hd : decode cc pc = .ok (.getfield 87, 3)) (k : J K (wM g) nL Q (pc + 3) lv (.ref (g.1 26) :: st) σ) : J K (wM g) nL Q (pc) lv (.ref (g.1 0) :: st) σ := by
  obtain ⟨p, l, e, R, s, m, args, below, meth, c, D, A⟩ := K
  obtain ⟨hx, hb, hml, hown, hts, hK, hA, hSF, hR, hr, hlk⟩ := hC
  exact fun H locs ls hl hP hD hS => va_get (D := D) (ci := 7) (v := .ref (g.1 26)) (C := RX7) (T := TX7) (N := 54) hx hb hts uwX7 hown hK hP 0 rfl rfl 43 (by decide) (hts _ mf_X7_87) (fun _ h9 => h9) rfl hd (k H locs ls hl hP hD hS)
theorem mf_X7_90 : Cond.fieldLink RX7 90 "SongHourModel" "next" "[I" ∈ GW := memT (i := 846) (by decide +kernel) rfl
theorem get_X7_90 {K : Kx} {cc : ByteArray} {g : Gm} {nL d : Nat} {ret : Option FieldType} {Q : State → Prop} {pc : Nat} {lv : List (Nat × Value)} {st : List Value} {σ : St} (hC : Ok K cc RX7 g nL d ret) (hd : decode cc pc = .ok (.getfield 90, 3)) (k : J K (wM g) nL Q (pc + 3) lv (.ref (g.1 27) :: st) σ) : J K (wM g) nL Q (pc) lv (.ref (g.1 0) :: st) σ := by
  obtain ⟨p, l, e, R, s, m, args, below, meth, c, D, A⟩ := K
  obtain ⟨hx, hb, hml, hown, hts, hK, hA, hSF, hR, hr, hlk⟩ := hC
  exact fun H locs ls hl hP hD hS => va_get (D := D) (ci := 7) (v := .ref (g.1 27)) (C := RX7) (T := TX7) (N := 54) hx hb hts uwX7 hown hK hP 0 rfl rfl 44 (by decide) (hts _ mf_X7_90) (fun _ h9 => h9) rfl hd (k H locs ls hl hP hD hS)
theorem mf_X7_93 : Cond.fieldLink RX7 93 "SongHourModel" "taken" "[I" ∈ GW := memT (i := 847) (by decide +kernel) rfl
theorem get_X7_93 {K : Kx} {cc : ByteArray} {g : Gm} {nL d : Nat} {ret : Option FieldType} {Q : State → Prop} {pc : Nat} {lv : List (Nat × Value)} {st : List Value} {σ : St} (hC : Ok K cc RX7 g nL d ret) (hd : decode cc pc = .ok (.getfield 93, 3)) (k : J K (wM g) nL Q (pc + 3) lv (.ref (g.1 28) :: st) σ) : J K (wM g) nL Q (pc) lv (.ref (g.1 0) :: st) σ := by
  obtain ⟨p, l, e, R, s, m, args, below, meth, c, D, A⟩ := K
  obtain ⟨hx, hb, hml, hown, hts, hK, hA, hSF, hR, hr, hlk⟩ := hC
  exact fun H locs ls hl hP hD hS => va_get (D := D) (ci := 7) (v := .ref (g.1 28)) (C := RX7) (T := TX7) (N := 54) hx hb hts uwX7 hown hK hP 0 rfl rfl 45 (by decide) (hts _ mf_X7_93) (fun _ h9 => h9) rfl hd (k H locs ls hl hP hD hS)
theorem mf_X7_96 : Cond.fieldLink RX7 96 "SongHourModel" "nextTaken" "[I" ∈ GW := memT (i := 848) (by decide +kernel) rfl
theorem get_X7_96 {K : Kx} {cc : ByteArray} {g : Gm} {nL d : Nat} {ret : Option FieldType} {Q : State → Prop} {pc : Nat} {lv : List (Nat × Value)} {st : List Value} {σ : St} (hC : Ok K cc RX7 g nL d ret) (hd : decode cc pc = .ok (.getfield 96, 3)) (k : J K (wM g) nL Q (pc + 3) lv (.ref (g.1 29) :: st) σ) : J K (wM g) nL Q (pc) lv (.ref (g.1 0) :: st) σ := by
  obtain ⟨p, l, e, R, s, m, args, below, meth, c, D, A⟩ := K
  obtain ⟨hx, hb, hml, hown, hts, hK, hA, hSF, hR, hr, hlk⟩ := hC
  exact fun H locs ls hl hP hD hS => va_get (D := D) (ci := 7) (v := .ref (g.1 29)) (C := RX7) (T := TX7) (N := 54) hx hb hts uwX7 hown hK hP 0 rfl rfl 46 (by decide) (hts _ mf_X7_96) (fun _ h9 => h9) rfl hd (k H locs ls hl hP hD hS)
theorem mf_X7_99 : Cond.fieldLink RX7 99 "SongHourModel" "best" "[I" ∈ GW := memT (i := 849) (by decide +kernel) rfl
theorem get_X7_99 {K : Kx} {cc : ByteArray} {g : Gm} {nL d : Nat} {ret : Option FieldType} {Q : State → Prop} {pc : Nat} {lv : List (Nat × Value)} {st : List Value} {σ : St} (hC : Ok K cc RX7 g nL d ret) (hd : decode cc pc = .ok (.getfield 99, 3)) (k : J K (wM g) nL Q (pc + 3) lv (.ref (g.1 30) :: st) σ) : J K (wM g) nL Q (pc) lv (.ref (g.1 0) :: st) σ := by
  obtain ⟨p, l, e, R, s, m, args, below, meth, c, D, A⟩ := K
  obtain ⟨hx, hb, hml, hown, hts, hK, hA, hSF, hR, hr, hlk⟩ := hC
  exact fun H locs ls hl hP hD hS => va_get (D := D) (ci := 7) (v := .ref (g.1 30)) (C := RX7) (T := TX7) (N := 54) hx hb hts uwX7 hown hK hP 0 rfl rfl 47 (by decide) (hts _ mf_X7_99) (fun _ h9 => h9) rfl hd (k H locs ls hl hP hD hS)
theorem mf_X7_102 : Cond.fieldLink RX7 102 "SongHourModel" "itemsOf" "[I" ∈ GW := memT (i := 855) (by decide +kernel) rfl
theorem get_X7_102 {K : Kx} {cc : ByteArray} {g : Gm} {nL d : Nat} {ret : Option FieldType} {Q : State → Prop} {pc : Nat} {lv : List (Nat × Value)} {st : List Value} {σ : St} (hC : Ok K cc RX7 g nL d ret) (hd : decode cc pc = .ok (.getfield 102, 3)) (k : J K (wM g) nL Q (pc + 3) lv (.ref (g.1 31) :: st) σ) : J K (wM g) nL Q (pc) lv (.ref (g.1 0) :: st) σ := by
  obtain ⟨p, l, e, R, s, m, args, below, meth, c, D, A⟩ := K
  obtain ⟨hx, hb, hml, hown, hts, hK, hA, hSF, hR, hr, hlk⟩ := hC
  exact fun H locs ls hl hP hD hS => va_get (D := D) (ci := 7) (v := .ref (g.1 31)) (C := RX7) (T := TX7) (N := 54) hx hb hts uwX7 hown hK hP 0 rfl rfl 53 (by decide) (hts _ mf_X7_102) (fun _ h9 => h9) rfl hd (k H locs ls hl hP hD hS)
theorem mf_X7_105 : Cond.fieldLink RX7 105 "SongHourModel" "thrown" "I" ∈ GW := memT (i := 802) (by decide +kernel) rfl
theorem get_X7_105 {K : Kx} {cc : ByteArray} {g : Gm} {nL d : Nat} {ret : Option FieldType} {Q : State → Prop} {pc : Nat} {lv : List (Nat × Value)} {st : List Value} {σ : St} (hC : Ok K cc RX7 g nL d ret) (hd : decode cc pc = .ok (.getfield 105, 3)) (k : J K (wM g) nL Q (pc + 3) lv (.int (gi σ 0) :: st) σ) : J K (wM g) nL Q (pc) lv (.ref (g.1 0) :: st) σ := by
  obtain ⟨p, l, e, R, s, m, args, below, meth, c, D, A⟩ := K
  obtain ⟨hx, hb, hml, hown, hts, hK, hA, hSF, hR, hr, hlk⟩ := hC
  exact fun H locs ls hl hP hD hS => va_get (D := D) (ci := 7) (v := .int (gi σ 0)) (C := RX7) (T := TX7) (N := 54) hx hb hts uwX7 hown hK hP 0 rfl rfl 0 (by decide) (hts _ mf_X7_105) (fun _ h9 => h9) rfl hd (k H locs ls hl hP hD hS)
theorem put_X7_105 {K : Kx} {cc : ByteArray} {g : Gm} {nL d : Nat} {ret : Option FieldType} {Q : State → Prop} {pc : Nat} {lv : List (Nat × Value)} {st : List Value} {σ : St} (hC : Ok K cc RX7 g nL d ret) {v : Int32} {ρ : Type} {o : ρ} {f : St → Option ρ} (hd : decode cc pc = .ok (.putfield 105, 3)) (h : bnd (si σ 0 v) f = some o) (k : ∀ σ2, f σ2 = some o → J K (wM g) nL Q (pc + 3) lv (st) σ2) : J K (wM g) nL Q (pc) lv (.int v :: .ref (g.1 0) :: st) σ := by
  obtain ⟨p, l, e, R, s, m, args, below, meth, c, D, A⟩ := K
  obtain ⟨hx, hb, hml, hown, hts, hK, hA, hSF, hR, hr, hlk⟩ := hC
  exact fun H locs ls hl hP hD hS => va_put (D := D) (ci := 7) (v := .int v) (ty := .int) (C := RX7) (T := TX7) (N := 54) hx hb hts uwX7 tyX7 tyX7_ok nmX7 hown hK hP hD hS 0 rfl rfl 0 (by decide) (hts _ mf_X7_105) (fun _ h9 => h9) rfl (by decide +kernel) rfl rfl (Nat.le_of_ble_eq_true rfl) hd (fun H locs hP hD hS => k _ h H locs ls hl hP hD hS)
theorem mf_X7_109 : Cond.fieldLink RX7 109 "SongHourModel" "taped" "I" ∈ GW := memT (i := 804) (by decide +kernel) rfl
theorem get_X7_109 {K : Kx} {cc : ByteArray} {g : Gm} {nL d : Nat} {ret : Option FieldType} {Q : State → Prop} {pc : Nat} {lv : List (Nat × Value)} {st : List Value} {σ : St} (hC : Ok K cc RX7 g nL d ret) (hd : decode cc pc = .ok (.getfield 109, 3)) (k : J K (wM g) nL Q (pc + 3) lv (.int (gi σ 1) :: st) σ) : J K (wM g) nL Q (pc) lv (.ref (g.1 0) :: st) σ := by
  obtain ⟨p, l, e, R, s, m, args, below, meth, c, D, A⟩ := K
  obtain ⟨hx, hb, hml, hown, hts, hK, hA, hSF, hR, hr, hlk⟩ := hC
  exact fun H locs ls hl hP hD hS => va_get (D := D) (ci := 7) (v := .int (gi σ 1)) (C := RX7) (T := TX7) (N := 54) hx hb hts uwX7 hown hK hP 0 rfl rfl 2 (by decide) (hts _ mf_X7_109) (fun _ h9 => h9) rfl hd (k H locs ls hl hP hD hS)
theorem put_X7_109 {K : Kx} {cc : ByteArray} {g : Gm} {nL d : Nat} {ret : Option FieldType} {Q : State → Prop} {pc : Nat} {lv : List (Nat × Value)} {st : List Value} {σ : St} (hC : Ok K cc RX7 g nL d ret) {v : Int32} {ρ : Type} {o : ρ} {f : St → Option ρ} (hd : decode cc pc = .ok (.putfield 109, 3)) (h : bnd (si σ 1 v) f = some o) (k : ∀ σ2, f σ2 = some o → J K (wM g) nL Q (pc + 3) lv (st) σ2) : J K (wM g) nL Q (pc) lv (.int v :: .ref (g.1 0) :: st) σ := by
  obtain ⟨p, l, e, R, s, m, args, below, meth, c, D, A⟩ := K
  obtain ⟨hx, hb, hml, hown, hts, hK, hA, hSF, hR, hr, hlk⟩ := hC
  exact fun H locs ls hl hP hD hS => va_put (D := D) (ci := 7) (v := .int v) (ty := .int) (C := RX7) (T := TX7) (N := 54) hx hb hts uwX7 tyX7 tyX7_ok nmX7 hown hK hP hD hS 0 rfl rfl 2 (by decide) (hts _ mf_X7_109) (fun _ h9 => h9) rfl (by decide +kernel) rfl rfl (Nat.le_of_ble_eq_true rfl) hd (fun H locs hP hD hS => k _ h H locs ls hl hP hD hS)
theorem mf_X7_116 : Cond.fieldLink RX7 116 "SongHourModel" "size" "I" ∈ GW := memT (i := 805) (by decide +kernel) rfl
theorem get_X7_116 {K : Kx} {cc : ByteArray} {g : Gm} {nL d : Nat} {ret : Option FieldType} {Q : State → Prop} {pc : Nat} {lv : List (Nat × Value)} {st : List Value} {σ : St} (hC : Ok K cc RX7 g nL d ret) (hd : decode cc pc = .ok (.getfield 116, 3)) (k : J K (wM g) nL Q (pc + 3) lv (.int (gi σ 2) :: st) σ) : J K (wM g) nL Q (pc) lv (.ref (g.1 0) :: st) σ := by
  obtain ⟨p, l, e, R, s, m, args, below, meth, c, D, A⟩ := K
  obtain ⟨hx, hb, hml, hown, hts, hK, hA, hSF, hR, hr, hlk⟩ := hC
  exact fun H locs ls hl hP hD hS => va_get (D := D) (ci := 7) (v := .int (gi σ 2)) (C := RX7) (T := TX7) (N := 54) hx hb hts uwX7 hown hK hP 0 rfl rfl 3 (by decide) (hts _ mf_X7_116) (fun _ h9 => h9) rfl hd (k H locs ls hl hP hD hS)
theorem put_X7_116 {K : Kx} {cc : ByteArray} {g : Gm} {nL d : Nat} {ret : Option FieldType} {Q : State → Prop} {pc : Nat} {lv : List (Nat × Value)} {st : List Value} {σ : St} (hC : Ok K cc RX7 g nL d ret) {v : Int32} {ρ : Type} {o : ρ} {f : St → Option ρ} (hd : decode cc pc = .ok (.putfield 116, 3)) (h : bnd (si σ 2 v) f = some o) (k : ∀ σ2, f σ2 = some o → J K (wM g) nL Q (pc + 3) lv (st) σ2) : J K (wM g) nL Q (pc) lv (.int v :: .ref (g.1 0) :: st) σ := by
  obtain ⟨p, l, e, R, s, m, args, below, meth, c, D, A⟩ := K
  obtain ⟨hx, hb, hml, hown, hts, hK, hA, hSF, hR, hr, hlk⟩ := hC
  exact fun H locs ls hl hP hD hS => va_put (D := D) (ci := 7) (v := .int v) (ty := .int) (C := RX7) (T := TX7) (N := 54) hx hb hts uwX7 tyX7 tyX7_ok nmX7 hown hK hP hD hS 0 rfl rfl 3 (by decide) (hts _ mf_X7_116) (fun _ h9 => h9) rfl (by decide +kernel) rfl rfl (Nat.le_of_ble_eq_true rfl) hd (fun H locs hP hD hS => k _ h H locs ls hl hP hD hS)
theorem mf_X7_119 : Cond.fieldLink RX7 119 "SongHourModel" "to" "I" ∈ GW := memT (i := 807) (by decide +kernel) rfl
theorem get_X7_119 {K : Kx} {cc : ByteArray} {g : Gm} {nL d : Nat} {ret : Option FieldType} {Q : State → Prop} {pc : Nat} {lv : List (Nat × Value)} {st : List Value} {σ : St} (hC : Ok K cc RX7 g nL d ret) (hd : decode cc pc = .ok (.getfield 119, 3)) (k : J K (wM g) nL Q (pc + 3) lv (.int (gi σ 4) :: st) σ) : J K (wM g) nL Q (pc) lv (.ref (g.1 0) :: st) σ := by
  obtain ⟨p, l, e, R, s, m, args, below, meth, c, D, A⟩ := K
  obtain ⟨hx, hb, hml, hown, hts, hK, hA, hSF, hR, hr, hlk⟩ := hC
  exact fun H locs ls hl hP hD hS => va_get (D := D) (ci := 7) (v := .int (gi σ 4)) (C := RX7) (T := TX7) (N := 54) hx hb hts uwX7 hown hK hP 0 rfl rfl 5 (by decide) (hts _ mf_X7_119) (fun _ h9 => h9) rfl hd (k H locs ls hl hP hD hS)
theorem put_X7_119 {K : Kx} {cc : ByteArray} {g : Gm} {nL d : Nat} {ret : Option FieldType} {Q : State → Prop} {pc : Nat} {lv : List (Nat × Value)} {st : List Value} {σ : St} (hC : Ok K cc RX7 g nL d ret) {v : Int32} {ρ : Type} {o : ρ} {f : St → Option ρ} (hd : decode cc pc = .ok (.putfield 119, 3)) (h : bnd (si σ 4 v) f = some o) (k : ∀ σ2, f σ2 = some o → J K (wM g) nL Q (pc + 3) lv (st) σ2) : J K (wM g) nL Q (pc) lv (.int v :: .ref (g.1 0) :: st) σ := by
  obtain ⟨p, l, e, R, s, m, args, below, meth, c, D, A⟩ := K
  obtain ⟨hx, hb, hml, hown, hts, hK, hA, hSF, hR, hr, hlk⟩ := hC
  exact fun H locs ls hl hP hD hS => va_put (D := D) (ci := 7) (v := .int v) (ty := .int) (C := RX7) (T := TX7) (N := 54) hx hb hts uwX7 tyX7 tyX7_ok nmX7 hown hK hP hD hS 0 rfl rfl 5 (by decide) (hts _ mf_X7_119) (fun _ h9 => h9) rfl (by decide +kernel) rfl rfl (Nat.le_of_ble_eq_true rfl) hd (fun H locs hP hD hS => k _ h H locs ls hl hP hD hS)
theorem mf_X7_122 : Cond.fieldLink RX7 122 "SongHourModel" "from" "I" ∈ GW := memT (i := 808) (by decide +kernel) rfl
theorem get_X7_122 {K : Kx} {cc : ByteArray} {g : Gm} {nL d : Nat} {ret : Option FieldType} {Q : State → Prop} {pc : Nat} {lv : List (Nat × Value)} {st : List Value} {σ : St} (hC : Ok K cc RX7 g nL d ret) (hd : decode cc pc = .ok (.getfield 122, 3)) (k : J K (wM g) nL Q (pc + 3) lv (.int (gi σ 5) :: st) σ) : J K (wM g) nL Q (pc) lv (.ref (g.1 0) :: st) σ := by
  obtain ⟨p, l, e, R, s, m, args, below, meth, c, D, A⟩ := K
  obtain ⟨hx, hb, hml, hown, hts, hK, hA, hSF, hR, hr, hlk⟩ := hC
  exact fun H locs ls hl hP hD hS => va_get (D := D) (ci := 7) (v := .int (gi σ 5)) (C := RX7) (T := TX7) (N := 54) hx hb hts uwX7 hown hK hP 0 rfl rfl 6 (by decide) (hts _ mf_X7_122) (fun _ h9 => h9) rfl hd (k H locs ls hl hP hD hS)
theorem put_X7_122 {K : Kx} {cc : ByteArray} {g : Gm} {nL d : Nat} {ret : Option FieldType} {Q : State → Prop} {pc : Nat} {lv : List (Nat × Value)} {st : List Value} {σ : St} (hC : Ok K cc RX7 g nL d ret) {v : Int32} {ρ : Type} {o : ρ} {f : St → Option ρ} (hd : decode cc pc = .ok (.putfield 122, 3)) (h : bnd (si σ 5 v) f = some o) (k : ∀ σ2, f σ2 = some o → J K (wM g) nL Q (pc + 3) lv (st) σ2) : J K (wM g) nL Q (pc) lv (.int v :: .ref (g.1 0) :: st) σ := by
  obtain ⟨p, l, e, R, s, m, args, below, meth, c, D, A⟩ := K
  obtain ⟨hx, hb, hml, hown, hts, hK, hA, hSF, hR, hr, hlk⟩ := hC
  exact fun H locs ls hl hP hD hS => va_put (D := D) (ci := 7) (v := .int v) (ty := .int) (C := RX7) (T := TX7) (N := 54) hx hb hts uwX7 tyX7 tyX7_ok nmX7 hown hK hP hD hS 0 rfl rfl 6 (by decide) (hts _ mf_X7_122) (fun _ h9 => h9) rfl (by decide +kernel) rfl rfl (Nat.le_of_ble_eq_true rfl) hd (fun H locs hP hD hS => k _ h H locs ls hl hP hD hS)
theorem mf_X7_125 : Cond.fieldLink RX7 125 "SongHourModel" "most" "I" ∈ GW := memT (i := 806) (by decide +kernel) rfl
theorem get_X7_125 {K : Kx} {cc : ByteArray} {g : Gm} {nL d : Nat} {ret : Option FieldType} {Q : State → Prop} {pc : Nat} {lv : List (Nat × Value)} {st : List Value} {σ : St} (hC : Ok K cc RX7 g nL d ret) (hd : decode cc pc = .ok (.getfield 125, 3)) (k : J K (wM g) nL Q (pc + 3) lv (.int (gi σ 3) :: st) σ) : J K (wM g) nL Q (pc) lv (.ref (g.1 0) :: st) σ := by
  obtain ⟨p, l, e, R, s, m, args, below, meth, c, D, A⟩ := K
  obtain ⟨hx, hb, hml, hown, hts, hK, hA, hSF, hR, hr, hlk⟩ := hC
  exact fun H locs ls hl hP hD hS => va_get (D := D) (ci := 7) (v := .int (gi σ 3)) (C := RX7) (T := TX7) (N := 54) hx hb hts uwX7 hown hK hP 0 rfl rfl 4 (by decide) (hts _ mf_X7_125) (fun _ h9 => h9) rfl hd (k H locs ls hl hP hD hS)
theorem put_X7_125 {K : Kx} {cc : ByteArray} {g : Gm} {nL d : Nat} {ret : Option FieldType} {Q : State → Prop} {pc : Nat} {lv : List (Nat × Value)} {st : List Value} {σ : St} (hC : Ok K cc RX7 g nL d ret) {v : Int32} {ρ : Type} {o : ρ} {f : St → Option ρ} (hd : decode cc pc = .ok (.putfield 125, 3)) (h : bnd (si σ 3 v) f = some o) (k : ∀ σ2, f σ2 = some o → J K (wM g) nL Q (pc + 3) lv (st) σ2) : J K (wM g) nL Q (pc) lv (.int v :: .ref (g.1 0) :: st) σ := by
  obtain ⟨p, l, e, R, s, m, args, below, meth, c, D, A⟩ := K
  obtain ⟨hx, hb, hml, hown, hts, hK, hA, hSF, hR, hr, hlk⟩ := hC
  exact fun H locs ls hl hP hD hS => va_put (D := D) (ci := 7) (v := .int v) (ty := .int) (C := RX7) (T := TX7) (N := 54) hx hb hts uwX7 tyX7 tyX7_ok nmX7 hown hK hP hD hS 0 rfl rfl 4 (by decide) (hts _ mf_X7_125) (fun _ h9 => h9) rfl (by decide +kernel) rfl rfl (Nat.le_of_ble_eq_true rfl) hd (fun H locs hP hD hS => k _ h H locs ls hl hP hD hS)
theorem mf_X7_128 : Cond.fieldLink RX7 128 "SongHourModel" "kind" "I" ∈ GW := memT (i := 809) (by decide +kernel) rfl
theorem get_X7_128 {K : Kx} {cc : ByteArray} {g : Gm} {nL d : Nat} {ret : Option FieldType} {Q : State → Prop} {pc : Nat} {lv : List (Nat × Value)} {st : List Value} {σ : St} (hC : Ok K cc RX7 g nL d ret) (hd : decode cc pc = .ok (.getfield 128, 3)) (k : J K (wM g) nL Q (pc + 3) lv (.int (gi σ 6) :: st) σ) : J K (wM g) nL Q (pc) lv (.ref (g.1 0) :: st) σ := by
  obtain ⟨p, l, e, R, s, m, args, below, meth, c, D, A⟩ := K
  obtain ⟨hx, hb, hml, hown, hts, hK, hA, hSF, hR, hr, hlk⟩ := hC
  exact fun H locs ls hl hP hD hS => va_get (D := D) (ci := 7) (v := .int (gi σ 6)) (C := RX7) (T := TX7) (N := 54) hx hb hts uwX7 hown hK hP 0 rfl rfl 7 (by decide) (hts _ mf_X7_128) (fun _ h9 => h9) rfl hd (k H locs ls hl hP hD hS)
theorem put_X7_128 {K : Kx} {cc : ByteArray} {g : Gm} {nL d : Nat} {ret : Option FieldType} {Q : State → Prop} {pc : Nat} {lv : List (Nat × Value)} {st : List Value} {σ : St} (hC : Ok K cc RX7 g nL d ret) {v : Int32} {ρ : Type} {o : ρ} {f : St → Option ρ} (hd : decode cc pc = .ok (.putfield 128, 3)) (h : bnd (si σ 6 v) f = some o) (k : ∀ σ2, f σ2 = some o → J K (wM g) nL Q (pc + 3) lv (st) σ2) : J K (wM g) nL Q (pc) lv (.int v :: .ref (g.1 0) :: st) σ := by
  obtain ⟨p, l, e, R, s, m, args, below, meth, c, D, A⟩ := K
  obtain ⟨hx, hb, hml, hown, hts, hK, hA, hSF, hR, hr, hlk⟩ := hC
  exact fun H locs ls hl hP hD hS => va_put (D := D) (ci := 7) (v := .int v) (ty := .int) (C := RX7) (T := TX7) (N := 54) hx hb hts uwX7 tyX7 tyX7_ok nmX7 hown hK hP hD hS 0 rfl rfl 7 (by decide) (hts _ mf_X7_128) (fun _ h9 => h9) rfl (by decide +kernel) rfl rfl (Nat.le_of_ble_eq_true rfl) hd (fun H locs hP hD hS => k _ h H locs ls hl hP hD hS)
theorem mf_X7_138 : Cond.fieldLink RX7 138 "SongHourModel" "word" "J" ∈ GW := memT (i := 814) (by decide +kernel) rfl
theorem get_X7_138 {K : Kx} {cc : ByteArray} {g : Gm} {nL d : Nat} {ret : Option FieldType} {Q : State → Prop} {pc : Nat} {lv : List (Nat × Value)} {st : List Value} {σ : St} (hC : Ok K cc RX7 g nL d ret) (hd : decode cc pc = .ok (.getfield 138, 3)) (k : J K (wM g) nL Q (pc + 3) lv (.long (gl σ) :: st) σ) : J K (wM g) nL Q (pc) lv (.ref (g.1 0) :: st) σ := by
  obtain ⟨p, l, e, R, s, m, args, below, meth, c, D, A⟩ := K
  obtain ⟨hx, hb, hml, hown, hts, hK, hA, hSF, hR, hr, hlk⟩ := hC
  exact fun H locs ls hl hP hD hS => va_get (D := D) (ci := 7) (v := .long (gl σ)) (C := RX7) (T := TX7) (N := 54) hx hb hts uwX7 hown hK hP 0 rfl rfl 12 (by decide) (hts _ mf_X7_138) (fun _ h9 => h9) rfl hd (k H locs ls hl hP hD hS)
theorem put_X7_138 {K : Kx} {cc : ByteArray} {g : Gm} {nL d : Nat} {ret : Option FieldType} {Q : State → Prop} {pc : Nat} {lv : List (Nat × Value)} {st : List Value} {σ : St} (hC : Ok K cc RX7 g nL d ret) {v : Int64} {ρ : Type} {o : ρ} {f : St → Option ρ} (hd : decode cc pc = .ok (.putfield 138, 3)) (h : bnd (sl σ v) f = some o) (k : ∀ σ2, f σ2 = some o → J K (wM g) nL Q (pc + 3) lv (st) σ2) : J K (wM g) nL Q (pc) lv (.long v :: .ref (g.1 0) :: st) σ := by
  obtain ⟨p, l, e, R, s, m, args, below, meth, c, D, A⟩ := K
  obtain ⟨hx, hb, hml, hown, hts, hK, hA, hSF, hR, hr, hlk⟩ := hC
  exact fun H locs ls hl hP hD hS => va_put (D := D) (ci := 7) (v := .long v) (ty := .long) (C := RX7) (T := TX7) (N := 54) hx hb hts uwX7 tyX7 tyX7_ok nmX7 hown hK hP hD hS 0 rfl rfl 12 (by decide) (hts _ mf_X7_138) (fun _ h9 => h9) rfl (by decide +kernel) rfl rfl (Nat.le_of_ble_eq_true rfl) hd (fun H locs hP hD hS => k _ h H locs ls hl hP hD hS)
theorem mf_X7_142 : Cond.fieldLink RX7 142 "SongHourModel" "number" "I" ∈ GW := memT (i := 810) (by decide +kernel) rfl
theorem get_X7_142 {K : Kx} {cc : ByteArray} {g : Gm} {nL d : Nat} {ret : Option FieldType} {Q : State → Prop} {pc : Nat} {lv : List (Nat × Value)} {st : List Value} {σ : St} (hC : Ok K cc RX7 g nL d ret) (hd : decode cc pc = .ok (.getfield 142, 3)) (k : J K (wM g) nL Q (pc + 3) lv (.int (gi σ 7) :: st) σ) : J K (wM g) nL Q (pc) lv (.ref (g.1 0) :: st) σ := by
  obtain ⟨p, l, e, R, s, m, args, below, meth, c, D, A⟩ := K
  obtain ⟨hx, hb, hml, hown, hts, hK, hA, hSF, hR, hr, hlk⟩ := hC
  exact fun H locs ls hl hP hD hS => va_get (D := D) (ci := 7) (v := .int (gi σ 7)) (C := RX7) (T := TX7) (N := 54) hx hb hts uwX7 hown hK hP 0 rfl rfl 8 (by decide) (hts _ mf_X7_142) (fun _ h9 => h9) rfl hd (k H locs ls hl hP hD hS)
theorem put_X7_142 {K : Kx} {cc : ByteArray} {g : Gm} {nL d : Nat} {ret : Option FieldType} {Q : State → Prop} {pc : Nat} {lv : List (Nat × Value)} {st : List Value} {σ : St} (hC : Ok K cc RX7 g nL d ret) {v : Int32} {ρ : Type} {o : ρ} {f : St → Option ρ} (hd : decode cc pc = .ok (.putfield 142, 3)) (h : bnd (si σ 7 v) f = some o) (k : ∀ σ2, f σ2 = some o → J K (wM g) nL Q (pc + 3) lv (st) σ2) : J K (wM g) nL Q (pc) lv (.int v :: .ref (g.1 0) :: st) σ := by
  obtain ⟨p, l, e, R, s, m, args, below, meth, c, D, A⟩ := K
  obtain ⟨hx, hb, hml, hown, hts, hK, hA, hSF, hR, hr, hlk⟩ := hC
  exact fun H locs ls hl hP hD hS => va_put (D := D) (ci := 7) (v := .int v) (ty := .int) (C := RX7) (T := TX7) (N := 54) hx hb hts uwX7 tyX7 tyX7_ok nmX7 hown hK hP hD hS 0 rfl rfl 8 (by decide) (hts _ mf_X7_142) (fun _ h9 => h9) rfl (by decide +kernel) rfl rfl (Nat.le_of_ble_eq_true rfl) hd (fun H locs hP hD hS => k _ h H locs ls hl hP hD hS)
theorem mf_X7_155 : Cond.fieldLink RX7 155 "SongHourModel" "fault" "I" ∈ GW := memT (i := 811) (by decide +kernel) rfl
theorem get_X7_155 {K : Kx} {cc : ByteArray} {g : Gm} {nL d : Nat} {ret : Option FieldType} {Q : State → Prop} {pc : Nat} {lv : List (Nat × Value)} {st : List Value} {σ : St} (hC : Ok K cc RX7 g nL d ret) (hd : decode cc pc = .ok (.getfield 155, 3)) (k : J K (wM g) nL Q (pc + 3) lv (.int (gi σ 8) :: st) σ) : J K (wM g) nL Q (pc) lv (.ref (g.1 0) :: st) σ := by
  obtain ⟨p, l, e, R, s, m, args, below, meth, c, D, A⟩ := K
  obtain ⟨hx, hb, hml, hown, hts, hK, hA, hSF, hR, hr, hlk⟩ := hC
  exact fun H locs ls hl hP hD hS => va_get (D := D) (ci := 7) (v := .int (gi σ 8)) (C := RX7) (T := TX7) (N := 54) hx hb hts uwX7 hown hK hP 0 rfl rfl 9 (by decide) (hts _ mf_X7_155) (fun _ h9 => h9) rfl hd (k H locs ls hl hP hD hS)
theorem put_X7_155 {K : Kx} {cc : ByteArray} {g : Gm} {nL d : Nat} {ret : Option FieldType} {Q : State → Prop} {pc : Nat} {lv : List (Nat × Value)} {st : List Value} {σ : St} (hC : Ok K cc RX7 g nL d ret) {v : Int32} {ρ : Type} {o : ρ} {f : St → Option ρ} (hd : decode cc pc = .ok (.putfield 155, 3)) (h : bnd (si σ 8 v) f = some o) (k : ∀ σ2, f σ2 = some o → J K (wM g) nL Q (pc + 3) lv (st) σ2) : J K (wM g) nL Q (pc) lv (.int v :: .ref (g.1 0) :: st) σ := by
  obtain ⟨p, l, e, R, s, m, args, below, meth, c, D, A⟩ := K
  obtain ⟨hx, hb, hml, hown, hts, hK, hA, hSF, hR, hr, hlk⟩ := hC
  exact fun H locs ls hl hP hD hS => va_put (D := D) (ci := 7) (v := .int v) (ty := .int) (C := RX7) (T := TX7) (N := 54) hx hb hts uwX7 tyX7 tyX7_ok nmX7 hown hK hP hD hS 0 rfl rfl 9 (by decide) (hts _ mf_X7_155) (fun _ h9 => h9) rfl (by decide +kernel) rfl rfl (Nat.le_of_ble_eq_true rfl) hd (fun H locs hP hD hS => k _ h H locs ls hl hP hD hS)
theorem mf_X7_158 : Cond.fieldLink RX7 158 "SongHourModel" "place" "I" ∈ GW := memT (i := 812) (by decide +kernel) rfl
theorem get_X7_158 {K : Kx} {cc : ByteArray} {g : Gm} {nL d : Nat} {ret : Option FieldType} {Q : State → Prop} {pc : Nat} {lv : List (Nat × Value)} {st : List Value} {σ : St} (hC : Ok K cc RX7 g nL d ret) (hd : decode cc pc = .ok (.getfield 158, 3)) (k : J K (wM g) nL Q (pc + 3) lv (.int (gi σ 9) :: st) σ) : J K (wM g) nL Q (pc) lv (.ref (g.1 0) :: st) σ := by
  obtain ⟨p, l, e, R, s, m, args, below, meth, c, D, A⟩ := K
  obtain ⟨hx, hb, hml, hown, hts, hK, hA, hSF, hR, hr, hlk⟩ := hC
  exact fun H locs ls hl hP hD hS => va_get (D := D) (ci := 7) (v := .int (gi σ 9)) (C := RX7) (T := TX7) (N := 54) hx hb hts uwX7 hown hK hP 0 rfl rfl 10 (by decide) (hts _ mf_X7_158) (fun _ h9 => h9) rfl hd (k H locs ls hl hP hD hS)
theorem put_X7_158 {K : Kx} {cc : ByteArray} {g : Gm} {nL d : Nat} {ret : Option FieldType} {Q : State → Prop} {pc : Nat} {lv : List (Nat × Value)} {st : List Value} {σ : St} (hC : Ok K cc RX7 g nL d ret) {v : Int32} {ρ : Type} {o : ρ} {f : St → Option ρ} (hd : decode cc pc = .ok (.putfield 158, 3)) (h : bnd (si σ 9 v) f = some o) (k : ∀ σ2, f σ2 = some o → J K (wM g) nL Q (pc + 3) lv (st) σ2) : J K (wM g) nL Q (pc) lv (.int v :: .ref (g.1 0) :: st) σ := by
  obtain ⟨p, l, e, R, s, m, args, below, meth, c, D, A⟩ := K
  obtain ⟨hx, hb, hml, hown, hts, hK, hA, hSF, hR, hr, hlk⟩ := hC
  exact fun H locs ls hl hP hD hS => va_put (D := D) (ci := 7) (v := .int v) (ty := .int) (C := RX7) (T := TX7) (N := 54) hx hb hts uwX7 tyX7 tyX7_ok nmX7 hown hK hP hD hS 0 rfl rfl 10 (by decide) (hts _ mf_X7_158) (fun _ h9 => h9) rfl (by decide +kernel) rfl rfl (Nat.le_of_ble_eq_true rfl) hd (fun H locs hP hD hS => k _ h H locs ls hl hP hD hS)
theorem mf_X7_161 : Cond.fieldLink RX7 161 "SongHourModel" "told" "I" ∈ GW := memT (i := 813) (by decide +kernel) rfl
theorem get_X7_161 {K : Kx} {cc : ByteArray} {g : Gm} {nL d : Nat} {ret : Option FieldType} {Q : State → Prop} {pc : Nat} {lv : List (Nat × Value)} {st : List Value} {σ : St} (hC : Ok K cc RX7 g nL d ret) (hd : decode cc pc = .ok (.getfield 161, 3)) (k : J K (wM g) nL Q (pc + 3) lv (.int (gi σ 10) :: st) σ) : J K (wM g) nL Q (pc) lv (.ref (g.1 0) :: st) σ := by
  obtain ⟨p, l, e, R, s, m, args, below, meth, c, D, A⟩ := K
  obtain ⟨hx, hb, hml, hown, hts, hK, hA, hSF, hR, hr, hlk⟩ := hC
  exact fun H locs ls hl hP hD hS => va_get (D := D) (ci := 7) (v := .int (gi σ 10)) (C := RX7) (T := TX7) (N := 54) hx hb hts uwX7 hown hK hP 0 rfl rfl 11 (by decide) (hts _ mf_X7_161) (fun _ h9 => h9) rfl hd (k H locs ls hl hP hD hS)
theorem put_X7_161 {K : Kx} {cc : ByteArray} {g : Gm} {nL d : Nat} {ret : Option FieldType} {Q : State → Prop} {pc : Nat} {lv : List (Nat × Value)} {st : List Value} {σ : St} (hC : Ok K cc RX7 g nL d ret) {v : Int32} {ρ : Type} {o : ρ} {f : St → Option ρ} (hd : decode cc pc = .ok (.putfield 161, 3)) (h : bnd (si σ 10 v) f = some o) (k : ∀ σ2, f σ2 = some o → J K (wM g) nL Q (pc + 3) lv (st) σ2) : J K (wM g) nL Q (pc) lv (.int v :: .ref (g.1 0) :: st) σ := by
  obtain ⟨p, l, e, R, s, m, args, below, meth, c, D, A⟩ := K
  obtain ⟨hx, hb, hml, hown, hts, hK, hA, hSF, hR, hr, hlk⟩ := hC
  exact fun H locs ls hl hP hD hS => va_put (D := D) (ci := 7) (v := .int v) (ty := .int) (C := RX7) (T := TX7) (N := 54) hx hb hts uwX7 tyX7 tyX7_ok nmX7 hown hK hP hD hS 0 rfl rfl 11 (by decide) (hts _ mf_X7_161) (fun _ h9 => h9) rfl (by decide +kernel) rfl rfl (Nat.le_of_ble_eq_true rfl) hd (fun H locs hP hD hS => k _ h H locs ls hl hP hD hS)
theorem mf_X7_193 : Cond.fieldLink RX7 193 "SongHourModel" "sum" "I" ∈ GW := memT (i := 824) (by decide +kernel) rfl
theorem get_X7_193 {K : Kx} {cc : ByteArray} {g : Gm} {nL d : Nat} {ret : Option FieldType} {Q : State → Prop} {pc : Nat} {lv : List (Nat × Value)} {st : List Value} {σ : St} (hC : Ok K cc RX7 g nL d ret) (hd : decode cc pc = .ok (.getfield 193, 3)) (k : J K (wM g) nL Q (pc + 3) lv (.int (gi σ 11) :: st) σ) : J K (wM g) nL Q (pc) lv (.ref (g.1 0) :: st) σ := by
  obtain ⟨p, l, e, R, s, m, args, below, meth, c, D, A⟩ := K
  obtain ⟨hx, hb, hml, hown, hts, hK, hA, hSF, hR, hr, hlk⟩ := hC
  exact fun H locs ls hl hP hD hS => va_get (D := D) (ci := 7) (v := .int (gi σ 11)) (C := RX7) (T := TX7) (N := 54) hx hb hts uwX7 hown hK hP 0 rfl rfl 22 (by decide) (hts _ mf_X7_193) (fun _ h9 => h9) rfl hd (k H locs ls hl hP hD hS)
theorem put_X7_193 {K : Kx} {cc : ByteArray} {g : Gm} {nL d : Nat} {ret : Option FieldType} {Q : State → Prop} {pc : Nat} {lv : List (Nat × Value)} {st : List Value} {σ : St} (hC : Ok K cc RX7 g nL d ret) {v : Int32} {ρ : Type} {o : ρ} {f : St → Option ρ} (hd : decode cc pc = .ok (.putfield 193, 3)) (h : bnd (si σ 11 v) f = some o) (k : ∀ σ2, f σ2 = some o → J K (wM g) nL Q (pc + 3) lv (st) σ2) : J K (wM g) nL Q (pc) lv (.int v :: .ref (g.1 0) :: st) σ := by
  obtain ⟨p, l, e, R, s, m, args, below, meth, c, D, A⟩ := K
  obtain ⟨hx, hb, hml, hown, hts, hK, hA, hSF, hR, hr, hlk⟩ := hC
  exact fun H locs ls hl hP hD hS => va_put (D := D) (ci := 7) (v := .int v) (ty := .int) (C := RX7) (T := TX7) (N := 54) hx hb hts uwX7 tyX7 tyX7_ok nmX7 hown hK hP hD hS 0 rfl rfl 22 (by decide) (hts _ mf_X7_193) (fun _ h9 => h9) rfl (by decide +kernel) rfl rfl (Nat.le_of_ble_eq_true rfl) hd (fun H locs hP hD hS => k _ h H locs ls hl hP hD hS)
theorem mf_X7_205 : Cond.fieldLink RX7 205 "SongHourModel" "songs" "I" ∈ GW := memT (i := 835) (by decide +kernel) rfl
theorem get_X7_205 {K : Kx} {cc : ByteArray} {g : Gm} {nL d : Nat} {ret : Option FieldType} {Q : State → Prop} {pc : Nat} {lv : List (Nat × Value)} {st : List Value} {σ : St} (hC : Ok K cc RX7 g nL d ret) (hd : decode cc pc = .ok (.getfield 205, 3)) (k : J K (wM g) nL Q (pc + 3) lv (.int (gi σ 12) :: st) σ) : J K (wM g) nL Q (pc) lv (.ref (g.1 0) :: st) σ := by
  obtain ⟨p, l, e, R, s, m, args, below, meth, c, D, A⟩ := K
  obtain ⟨hx, hb, hml, hown, hts, hK, hA, hSF, hR, hr, hlk⟩ := hC
  exact fun H locs ls hl hP hD hS => va_get (D := D) (ci := 7) (v := .int (gi σ 12)) (C := RX7) (T := TX7) (N := 54) hx hb hts uwX7 hown hK hP 0 rfl rfl 33 (by decide) (hts _ mf_X7_205) (fun _ h9 => h9) rfl hd (k H locs ls hl hP hD hS)
theorem put_X7_205 {K : Kx} {cc : ByteArray} {g : Gm} {nL d : Nat} {ret : Option FieldType} {Q : State → Prop} {pc : Nat} {lv : List (Nat × Value)} {st : List Value} {σ : St} (hC : Ok K cc RX7 g nL d ret) {v : Int32} {ρ : Type} {o : ρ} {f : St → Option ρ} (hd : decode cc pc = .ok (.putfield 205, 3)) (h : bnd (si σ 12 v) f = some o) (k : ∀ σ2, f σ2 = some o → J K (wM g) nL Q (pc + 3) lv (st) σ2) : J K (wM g) nL Q (pc) lv (.int v :: .ref (g.1 0) :: st) σ := by
  obtain ⟨p, l, e, R, s, m, args, below, meth, c, D, A⟩ := K
  obtain ⟨hx, hb, hml, hown, hts, hK, hA, hSF, hR, hr, hlk⟩ := hC
  exact fun H locs ls hl hP hD hS => va_put (D := D) (ci := 7) (v := .int v) (ty := .int) (C := RX7) (T := TX7) (N := 54) hx hb hts uwX7 tyX7 tyX7_ok nmX7 hown hK hP hD hS 0 rfl rfl 33 (by decide) (hts _ mf_X7_205) (fun _ h9 => h9) rfl (by decide +kernel) rfl rfl (Nat.le_of_ble_eq_true rfl) hd (fun H locs hP hD hS => k _ h H locs ls hl hP hD hS)
theorem mf_X7_218 : Cond.fieldLink RX7 218 "SongHourModel" "plays" "I" ∈ GW := memT (i := 840) (by decide +kernel) rfl
theorem get_X7_218 {K : Kx} {cc : ByteArray} {g : Gm} {nL d : Nat} {ret : Option FieldType} {Q : State → Prop} {pc : Nat} {lv : List (Nat × Value)} {st : List Value} {σ : St} (hC : Ok K cc RX7 g nL d ret) (hd : decode cc pc = .ok (.getfield 218, 3)) (k : J K (wM g) nL Q (pc + 3) lv (.int (gi σ 13) :: st) σ) : J K (wM g) nL Q (pc) lv (.ref (g.1 0) :: st) σ := by
  obtain ⟨p, l, e, R, s, m, args, below, meth, c, D, A⟩ := K
  obtain ⟨hx, hb, hml, hown, hts, hK, hA, hSF, hR, hr, hlk⟩ := hC
  exact fun H locs ls hl hP hD hS => va_get (D := D) (ci := 7) (v := .int (gi σ 13)) (C := RX7) (T := TX7) (N := 54) hx hb hts uwX7 hown hK hP 0 rfl rfl 38 (by decide) (hts _ mf_X7_218) (fun _ h9 => h9) rfl hd (k H locs ls hl hP hD hS)
theorem put_X7_218 {K : Kx} {cc : ByteArray} {g : Gm} {nL d : Nat} {ret : Option FieldType} {Q : State → Prop} {pc : Nat} {lv : List (Nat × Value)} {st : List Value} {σ : St} (hC : Ok K cc RX7 g nL d ret) {v : Int32} {ρ : Type} {o : ρ} {f : St → Option ρ} (hd : decode cc pc = .ok (.putfield 218, 3)) (h : bnd (si σ 13 v) f = some o) (k : ∀ σ2, f σ2 = some o → J K (wM g) nL Q (pc + 3) lv (st) σ2) : J K (wM g) nL Q (pc) lv (.int v :: .ref (g.1 0) :: st) σ := by
  obtain ⟨p, l, e, R, s, m, args, below, meth, c, D, A⟩ := K
  obtain ⟨hx, hb, hml, hown, hts, hK, hA, hSF, hR, hr, hlk⟩ := hC
  exact fun H locs ls hl hP hD hS => va_put (D := D) (ci := 7) (v := .int v) (ty := .int) (C := RX7) (T := TX7) (N := 54) hx hb hts uwX7 tyX7 tyX7_ok nmX7 hown hK hP hD hS 0 rfl rfl 38 (by decide) (hts _ mf_X7_218) (fun _ h9 => h9) rfl (by decide +kernel) rfl rfl (Nat.le_of_ble_eq_true rfl) hd (fun H locs hP hD hS => k _ h H locs ls hl hP hD hS)
theorem mf_X7_225 : Cond.fieldLink RX7 225 "SongHourModel" "bestMany" "I" ∈ GW := memT (i := 852) (by decide +kernel) rfl
theorem get_X7_225 {K : Kx} {cc : ByteArray} {g : Gm} {nL d : Nat} {ret : Option FieldType} {Q : State → Prop} {pc : Nat} {lv : List (Nat × Value)} {st : List Value} {σ : St} (hC : Ok K cc RX7 g nL d ret) (hd : decode cc pc = .ok (.getfield 225, 3)) (k : J K (wM g) nL Q (pc + 3) lv (.int (gi σ 19) :: st) σ) : J K (wM g) nL Q (pc) lv (.ref (g.1 0) :: st) σ := by
  obtain ⟨p, l, e, R, s, m, args, below, meth, c, D, A⟩ := K
  obtain ⟨hx, hb, hml, hown, hts, hK, hA, hSF, hR, hr, hlk⟩ := hC
  exact fun H locs ls hl hP hD hS => va_get (D := D) (ci := 7) (v := .int (gi σ 19)) (C := RX7) (T := TX7) (N := 54) hx hb hts uwX7 hown hK hP 0 rfl rfl 50 (by decide) (hts _ mf_X7_225) (fun _ h9 => h9) rfl hd (k H locs ls hl hP hD hS)
theorem put_X7_225 {K : Kx} {cc : ByteArray} {g : Gm} {nL d : Nat} {ret : Option FieldType} {Q : State → Prop} {pc : Nat} {lv : List (Nat × Value)} {st : List Value} {σ : St} (hC : Ok K cc RX7 g nL d ret) {v : Int32} {ρ : Type} {o : ρ} {f : St → Option ρ} (hd : decode cc pc = .ok (.putfield 225, 3)) (h : bnd (si σ 19 v) f = some o) (k : ∀ σ2, f σ2 = some o → J K (wM g) nL Q (pc + 3) lv (st) σ2) : J K (wM g) nL Q (pc) lv (.int v :: .ref (g.1 0) :: st) σ := by
  obtain ⟨p, l, e, R, s, m, args, below, meth, c, D, A⟩ := K
  obtain ⟨hx, hb, hml, hown, hts, hK, hA, hSF, hR, hr, hlk⟩ := hC
  exact fun H locs ls hl hP hD hS => va_put (D := D) (ci := 7) (v := .int v) (ty := .int) (C := RX7) (T := TX7) (N := 54) hx hb hts uwX7 tyX7 tyX7_ok nmX7 hown hK hP hD hS 0 rfl rfl 50 (by decide) (hts _ mf_X7_225) (fun _ h9 => h9) rfl (by decide +kernel) rfl rfl (Nat.le_of_ble_eq_true rfl) hd (fun H locs hP hD hS => k _ h H locs ls hl hP hD hS)
theorem mf_X7_228 : Cond.fieldLink RX7 228 "SongHourModel" "bestLeft" "I" ∈ GW := memT (i := 853) (by decide +kernel) rfl
theorem get_X7_228 {K : Kx} {cc : ByteArray} {g : Gm} {nL d : Nat} {ret : Option FieldType} {Q : State → Prop} {pc : Nat} {lv : List (Nat × Value)} {st : List Value} {σ : St} (hC : Ok K cc RX7 g nL d ret) (hd : decode cc pc = .ok (.getfield 228, 3)) (k : J K (wM g) nL Q (pc + 3) lv (.int (gi σ 20) :: st) σ) : J K (wM g) nL Q (pc) lv (.ref (g.1 0) :: st) σ := by
  obtain ⟨p, l, e, R, s, m, args, below, meth, c, D, A⟩ := K
  obtain ⟨hx, hb, hml, hown, hts, hK, hA, hSF, hR, hr, hlk⟩ := hC
  exact fun H locs ls hl hP hD hS => va_get (D := D) (ci := 7) (v := .int (gi σ 20)) (C := RX7) (T := TX7) (N := 54) hx hb hts uwX7 hown hK hP 0 rfl rfl 51 (by decide) (hts _ mf_X7_228) (fun _ h9 => h9) rfl hd (k H locs ls hl hP hD hS)
theorem put_X7_228 {K : Kx} {cc : ByteArray} {g : Gm} {nL d : Nat} {ret : Option FieldType} {Q : State → Prop} {pc : Nat} {lv : List (Nat × Value)} {st : List Value} {σ : St} (hC : Ok K cc RX7 g nL d ret) {v : Int32} {ρ : Type} {o : ρ} {f : St → Option ρ} (hd : decode cc pc = .ok (.putfield 228, 3)) (h : bnd (si σ 20 v) f = some o) (k : ∀ σ2, f σ2 = some o → J K (wM g) nL Q (pc + 3) lv (st) σ2) : J K (wM g) nL Q (pc) lv (.int v :: .ref (g.1 0) :: st) σ := by
  obtain ⟨p, l, e, R, s, m, args, below, meth, c, D, A⟩ := K
  obtain ⟨hx, hb, hml, hown, hts, hK, hA, hSF, hR, hr, hlk⟩ := hC
  exact fun H locs ls hl hP hD hS => va_put (D := D) (ci := 7) (v := .int v) (ty := .int) (C := RX7) (T := TX7) (N := 54) hx hb hts uwX7 tyX7 tyX7_ok nmX7 hown hK hP hD hS 0 rfl rfl 51 (by decide) (hts _ mf_X7_228) (fun _ h9 => h9) rfl (by decide +kernel) rfl rfl (Nat.le_of_ble_eq_true rfl) hd (fun H locs hP hD hS => k _ h H locs ls hl hP hD hS)
theorem mf_X7_231 : Cond.fieldLink RX7 231 "SongHourModel" "bestHeat" "I" ∈ GW := memT (i := 854) (by decide +kernel) rfl
theorem get_X7_231 {K : Kx} {cc : ByteArray} {g : Gm} {nL d : Nat} {ret : Option FieldType} {Q : State → Prop} {pc : Nat} {lv : List (Nat × Value)} {st : List Value} {σ : St} (hC : Ok K cc RX7 g nL d ret) (hd : decode cc pc = .ok (.getfield 231, 3)) (k : J K (wM g) nL Q (pc + 3) lv (.int (gi σ 21) :: st) σ) : J K (wM g) nL Q (pc) lv (.ref (g.1 0) :: st) σ := by
  obtain ⟨p, l, e, R, s, m, args, below, meth, c, D, A⟩ := K
  obtain ⟨hx, hb, hml, hown, hts, hK, hA, hSF, hR, hr, hlk⟩ := hC
  exact fun H locs ls hl hP hD hS => va_get (D := D) (ci := 7) (v := .int (gi σ 21)) (C := RX7) (T := TX7) (N := 54) hx hb hts uwX7 hown hK hP 0 rfl rfl 52 (by decide) (hts _ mf_X7_231) (fun _ h9 => h9) rfl hd (k H locs ls hl hP hD hS)
theorem put_X7_231 {K : Kx} {cc : ByteArray} {g : Gm} {nL d : Nat} {ret : Option FieldType} {Q : State → Prop} {pc : Nat} {lv : List (Nat × Value)} {st : List Value} {σ : St} (hC : Ok K cc RX7 g nL d ret) {v : Int32} {ρ : Type} {o : ρ} {f : St → Option ρ} (hd : decode cc pc = .ok (.putfield 231, 3)) (h : bnd (si σ 21 v) f = some o) (k : ∀ σ2, f σ2 = some o → J K (wM g) nL Q (pc + 3) lv (st) σ2) : J K (wM g) nL Q (pc) lv (.int v :: .ref (g.1 0) :: st) σ := by
  obtain ⟨p, l, e, R, s, m, args, below, meth, c, D, A⟩ := K
  obtain ⟨hx, hb, hml, hown, hts, hK, hA, hSF, hR, hr, hlk⟩ := hC
  exact fun H locs ls hl hP hD hS => va_put (D := D) (ci := 7) (v := .int v) (ty := .int) (C := RX7) (T := TX7) (N := 54) hx hb hts uwX7 tyX7 tyX7_ok nmX7 hown hK hP hD hS 0 rfl rfl 52 (by decide) (hts _ mf_X7_231) (fun _ h9 => h9) rfl (by decide +kernel) rfl rfl (Nat.le_of_ble_eq_true rfl) hd (fun H locs hP hD hS => k _ h H locs ls hl hP hD hS)
theorem mf_X7_246 : Cond.fieldLink RX7 246 "SongHourModel" "rowsMany" "I" ∈ GW := memT (i := 850) (by decide +kernel) rfl
theorem get_X7_246 {K : Kx} {cc : ByteArray} {g : Gm} {nL d : Nat} {ret : Option FieldType} {Q : State → Prop} {pc : Nat} {lv : List (Nat × Value)} {st : List Value} {σ : St} (hC : Ok K cc RX7 g nL d ret) (hd : decode cc pc = .ok (.getfield 246, 3)) (k : J K (wM g) nL Q (pc + 3) lv (.int (gi σ 17) :: st) σ) : J K (wM g) nL Q (pc) lv (.ref (g.1 0) :: st) σ := by
  obtain ⟨p, l, e, R, s, m, args, below, meth, c, D, A⟩ := K
  obtain ⟨hx, hb, hml, hown, hts, hK, hA, hSF, hR, hr, hlk⟩ := hC
  exact fun H locs ls hl hP hD hS => va_get (D := D) (ci := 7) (v := .int (gi σ 17)) (C := RX7) (T := TX7) (N := 54) hx hb hts uwX7 hown hK hP 0 rfl rfl 48 (by decide) (hts _ mf_X7_246) (fun _ h9 => h9) rfl hd (k H locs ls hl hP hD hS)
theorem put_X7_246 {K : Kx} {cc : ByteArray} {g : Gm} {nL d : Nat} {ret : Option FieldType} {Q : State → Prop} {pc : Nat} {lv : List (Nat × Value)} {st : List Value} {σ : St} (hC : Ok K cc RX7 g nL d ret) {v : Int32} {ρ : Type} {o : ρ} {f : St → Option ρ} (hd : decode cc pc = .ok (.putfield 246, 3)) (h : bnd (si σ 17 v) f = some o) (k : ∀ σ2, f σ2 = some o → J K (wM g) nL Q (pc + 3) lv (st) σ2) : J K (wM g) nL Q (pc) lv (.int v :: .ref (g.1 0) :: st) σ := by
  obtain ⟨p, l, e, R, s, m, args, below, meth, c, D, A⟩ := K
  obtain ⟨hx, hb, hml, hown, hts, hK, hA, hSF, hR, hr, hlk⟩ := hC
  exact fun H locs ls hl hP hD hS => va_put (D := D) (ci := 7) (v := .int v) (ty := .int) (C := RX7) (T := TX7) (N := 54) hx hb hts uwX7 tyX7 tyX7_ok nmX7 hown hK hP hD hS 0 rfl rfl 48 (by decide) (hts _ mf_X7_246) (fun _ h9 => h9) rfl (by decide +kernel) rfl rfl (Nat.le_of_ble_eq_true rfl) hd (fun H locs hP hD hS => k _ h H locs ls hl hP hD hS)
theorem mf_X7_249 : Cond.fieldLink RX7 249 "SongHourModel" "nextMany" "I" ∈ GW := memT (i := 851) (by decide +kernel) rfl
theorem get_X7_249 {K : Kx} {cc : ByteArray} {g : Gm} {nL d : Nat} {ret : Option FieldType} {Q : State → Prop} {pc : Nat} {lv : List (Nat × Value)} {st : List Value} {σ : St} (hC : Ok K cc RX7 g nL d ret) (hd : decode cc pc = .ok (.getfield 249, 3)) (k : J K (wM g) nL Q (pc + 3) lv (.int (gi σ 18) :: st) σ) : J K (wM g) nL Q (pc) lv (.ref (g.1 0) :: st) σ := by
  obtain ⟨p, l, e, R, s, m, args, below, meth, c, D, A⟩ := K
  obtain ⟨hx, hb, hml, hown, hts, hK, hA, hSF, hR, hr, hlk⟩ := hC
  exact fun H locs ls hl hP hD hS => va_get (D := D) (ci := 7) (v := .int (gi σ 18)) (C := RX7) (T := TX7) (N := 54) hx hb hts uwX7 hown hK hP 0 rfl rfl 49 (by decide) (hts _ mf_X7_249) (fun _ h9 => h9) rfl hd (k H locs ls hl hP hD hS)
theorem put_X7_249 {K : Kx} {cc : ByteArray} {g : Gm} {nL d : Nat} {ret : Option FieldType} {Q : State → Prop} {pc : Nat} {lv : List (Nat × Value)} {st : List Value} {σ : St} (hC : Ok K cc RX7 g nL d ret) {v : Int32} {ρ : Type} {o : ρ} {f : St → Option ρ} (hd : decode cc pc = .ok (.putfield 249, 3)) (h : bnd (si σ 18 v) f = some o) (k : ∀ σ2, f σ2 = some o → J K (wM g) nL Q (pc + 3) lv (st) σ2) : J K (wM g) nL Q (pc) lv (.int v :: .ref (g.1 0) :: st) σ := by
  obtain ⟨p, l, e, R, s, m, args, below, meth, c, D, A⟩ := K
  obtain ⟨hx, hb, hml, hown, hts, hK, hA, hSF, hR, hr, hlk⟩ := hC
  exact fun H locs ls hl hP hD hS => va_put (D := D) (ci := 7) (v := .int v) (ty := .int) (C := RX7) (T := TX7) (N := 54) hx hb hts uwX7 tyX7 tyX7_ok nmX7 hown hK hP hD hS 0 rfl rfl 49 (by decide) (hts _ mf_X7_249) (fun _ h9 => h9) rfl (by decide +kernel) rfl rfl (Nat.le_of_ble_eq_true rfl) hd (fun H locs hP hD hS => k _ h H locs ls hl hP hD hS)
theorem mf_X7_264 : Cond.fieldLink RX7 264 "SongHourModel" "hours" "I" ∈ GW := memT (i := 841) (by decide +kernel) rfl
theorem get_X7_264 {K : Kx} {cc : ByteArray} {g : Gm} {nL d : Nat} {ret : Option FieldType} {Q : State → Prop} {pc : Nat} {lv : List (Nat × Value)} {st : List Value} {σ : St} (hC : Ok K cc RX7 g nL d ret) (hd : decode cc pc = .ok (.getfield 264, 3)) (k : J K (wM g) nL Q (pc + 3) lv (.int (gi σ 14) :: st) σ) : J K (wM g) nL Q (pc) lv (.ref (g.1 0) :: st) σ := by
  obtain ⟨p, l, e, R, s, m, args, below, meth, c, D, A⟩ := K
  obtain ⟨hx, hb, hml, hown, hts, hK, hA, hSF, hR, hr, hlk⟩ := hC
  exact fun H locs ls hl hP hD hS => va_get (D := D) (ci := 7) (v := .int (gi σ 14)) (C := RX7) (T := TX7) (N := 54) hx hb hts uwX7 hown hK hP 0 rfl rfl 39 (by decide) (hts _ mf_X7_264) (fun _ h9 => h9) rfl hd (k H locs ls hl hP hD hS)
theorem put_X7_264 {K : Kx} {cc : ByteArray} {g : Gm} {nL d : Nat} {ret : Option FieldType} {Q : State → Prop} {pc : Nat} {lv : List (Nat × Value)} {st : List Value} {σ : St} (hC : Ok K cc RX7 g nL d ret) {v : Int32} {ρ : Type} {o : ρ} {f : St → Option ρ} (hd : decode cc pc = .ok (.putfield 264, 3)) (h : bnd (si σ 14 v) f = some o) (k : ∀ σ2, f σ2 = some o → J K (wM g) nL Q (pc + 3) lv (st) σ2) : J K (wM g) nL Q (pc) lv (.int v :: .ref (g.1 0) :: st) σ := by
  obtain ⟨p, l, e, R, s, m, args, below, meth, c, D, A⟩ := K
  obtain ⟨hx, hb, hml, hown, hts, hK, hA, hSF, hR, hr, hlk⟩ := hC
  exact fun H locs ls hl hP hD hS => va_put (D := D) (ci := 7) (v := .int v) (ty := .int) (C := RX7) (T := TX7) (N := 54) hx hb hts uwX7 tyX7 tyX7_ok nmX7 hown hK hP hD hS 0 rfl rfl 39 (by decide) (hts _ mf_X7_264) (fun _ h9 => h9) rfl (by decide +kernel) rfl rfl (Nat.le_of_ble_eq_true rfl) hd (fun H locs hP hD hS => k _ h H locs ls hl hP hD hS)
theorem mf_X7_267 : Cond.fieldLink RX7 267 "SongHourModel" "leftAll" "I" ∈ GW := memT (i := 843) (by decide +kernel) rfl
theorem get_X7_267 {K : Kx} {cc : ByteArray} {g : Gm} {nL d : Nat} {ret : Option FieldType} {Q : State → Prop} {pc : Nat} {lv : List (Nat × Value)} {st : List Value} {σ : St} (hC : Ok K cc RX7 g nL d ret) (hd : decode cc pc = .ok (.getfield 267, 3)) (k : J K (wM g) nL Q (pc + 3) lv (.int (gi σ 16) :: st) σ) : J K (wM g) nL Q (pc) lv (.ref (g.1 0) :: st) σ := by
  obtain ⟨p, l, e, R, s, m, args, below, meth, c, D, A⟩ := K
  obtain ⟨hx, hb, hml, hown, hts, hK, hA, hSF, hR, hr, hlk⟩ := hC
  exact fun H locs ls hl hP hD hS => va_get (D := D) (ci := 7) (v := .int (gi σ 16)) (C := RX7) (T := TX7) (N := 54) hx hb hts uwX7 hown hK hP 0 rfl rfl 41 (by decide) (hts _ mf_X7_267) (fun _ h9 => h9) rfl hd (k H locs ls hl hP hD hS)
theorem put_X7_267 {K : Kx} {cc : ByteArray} {g : Gm} {nL d : Nat} {ret : Option FieldType} {Q : State → Prop} {pc : Nat} {lv : List (Nat × Value)} {st : List Value} {σ : St} (hC : Ok K cc RX7 g nL d ret) {v : Int32} {ρ : Type} {o : ρ} {f : St → Option ρ} (hd : decode cc pc = .ok (.putfield 267, 3)) (h : bnd (si σ 16 v) f = some o) (k : ∀ σ2, f σ2 = some o → J K (wM g) nL Q (pc + 3) lv (st) σ2) : J K (wM g) nL Q (pc) lv (.int v :: .ref (g.1 0) :: st) σ := by
  obtain ⟨p, l, e, R, s, m, args, below, meth, c, D, A⟩ := K
  obtain ⟨hx, hb, hml, hown, hts, hK, hA, hSF, hR, hr, hlk⟩ := hC
  exact fun H locs ls hl hP hD hS => va_put (D := D) (ci := 7) (v := .int v) (ty := .int) (C := RX7) (T := TX7) (N := 54) hx hb hts uwX7 tyX7 tyX7_ok nmX7 hown hK hP hD hS 0 rfl rfl 41 (by decide) (hts _ mf_X7_267) (fun _ h9 => h9) rfl (by decide +kernel) rfl rfl (Nat.le_of_ble_eq_true rfl) hd (fun H locs hP hD hS => k _ h H locs ls hl hP hD hS)
theorem mf_X7_270 : Cond.fieldLink RX7 270 "SongHourModel" "empty" "I" ∈ GW := memT (i := 842) (by decide +kernel) rfl
theorem get_X7_270 {K : Kx} {cc : ByteArray} {g : Gm} {nL d : Nat} {ret : Option FieldType} {Q : State → Prop} {pc : Nat} {lv : List (Nat × Value)} {st : List Value} {σ : St} (hC : Ok K cc RX7 g nL d ret) (hd : decode cc pc = .ok (.getfield 270, 3)) (k : J K (wM g) nL Q (pc + 3) lv (.int (gi σ 15) :: st) σ) : J K (wM g) nL Q (pc) lv (.ref (g.1 0) :: st) σ := by
  obtain ⟨p, l, e, R, s, m, args, below, meth, c, D, A⟩ := K
  obtain ⟨hx, hb, hml, hown, hts, hK, hA, hSF, hR, hr, hlk⟩ := hC
  exact fun H locs ls hl hP hD hS => va_get (D := D) (ci := 7) (v := .int (gi σ 15)) (C := RX7) (T := TX7) (N := 54) hx hb hts uwX7 hown hK hP 0 rfl rfl 40 (by decide) (hts _ mf_X7_270) (fun _ h9 => h9) rfl hd (k H locs ls hl hP hD hS)
theorem put_X7_270 {K : Kx} {cc : ByteArray} {g : Gm} {nL d : Nat} {ret : Option FieldType} {Q : State → Prop} {pc : Nat} {lv : List (Nat × Value)} {st : List Value} {σ : St} (hC : Ok K cc RX7 g nL d ret) {v : Int32} {ρ : Type} {o : ρ} {f : St → Option ρ} (hd : decode cc pc = .ok (.putfield 270, 3)) (h : bnd (si σ 15 v) f = some o) (k : ∀ σ2, f σ2 = some o → J K (wM g) nL Q (pc + 3) lv (st) σ2) : J K (wM g) nL Q (pc) lv (.int v :: .ref (g.1 0) :: st) σ := by
  obtain ⟨p, l, e, R, s, m, args, below, meth, c, D, A⟩ := K
  obtain ⟨hx, hb, hml, hown, hts, hK, hA, hSF, hR, hr, hlk⟩ := hC
  exact fun H locs ls hl hP hD hS => va_put (D := D) (ci := 7) (v := .int v) (ty := .int) (C := RX7) (T := TX7) (N := 54) hx hb hts uwX7 tyX7 tyX7_ok nmX7 hown hK hP hD hS 0 rfl rfl 40 (by decide) (hts _ mf_X7_270) (fun _ h9 => h9) rfl (by decide +kernel) rfl rfl (Nat.le_of_ble_eq_true rfl) hd (fun H locs hP hD hS => k _ h H locs ls hl hP hD hS)
theorem ald_X5_bytes {K : Kx} {cc : ByteArray} {own : String} {g : Gm} {nL d : Nat} {ret : Option FieldType} {Q : State → Prop} {pc : Nat} {lv : List (Nat × Value)} {st : List Value} {σ : St} (hC : Ok K cc own g nL d ret) {i : Int32} {ρ : Type} {o : ρ} {f : Int32 → Option ρ} (hd : decode cc pc = .ok (.baload, 1)) (h : ald σ 0 260 i f = some o) (k : ∀ v, f v = some o → J K (wX g) nL Q (pc + 1) lv (.int v :: st) σ) : J K (wX g) nL Q (pc) lv (.int i :: .ref (g.1 3) :: st) σ := by
  obtain ⟨p, l, e, R, s, m, args, below, meth, c, D, A⟩ := K
  obtain ⟨hx, hb, hml, hown, hts, hK, hA, hSF, hR, hr, hlk⟩ := hC
  obtain ⟨hin, h⟩ := ald_some h
  exact fun H locs ls hl hP hD hS => va_bald hx hb hK hP 3 1 rfl rfl hin hd (k _ h H locs ls hl hP hD hS)
theorem ast_X5_bytes {K : Kx} {cc : ByteArray} {own : String} {g : Gm} {nL d : Nat} {ret : Option FieldType} {Q : State → Prop} {pc : Nat} {lv : List (Nat × Value)} {st : List Value} {σ : St} (hC : Ok K cc own g nL d ret) {i x : Int32} {ρ : Type} {o : ρ} {f : St → Option ρ} (hd : decode cc pc = .ok (.bastore, 1)) (h : ast σ 0 260 i (vp_nar .byte x) f = some o) (k : ∀ σ2, f σ2 = some o → J K (wX g) nL Q (pc + 1) lv (st) σ2) : J K (wX g) nL Q (pc) lv (.int x :: .int i :: .ref (g.1 3) :: st) σ := by
  obtain ⟨p, l, e, R, s, m, args, below, meth, c, D, A⟩ := K
  obtain ⟨hx, hb, hml, hown, hts, hK, hA, hSF, hR, hr, hlk⟩ := hC
  obtain ⟨hin, h⟩ := ast_some h
  exact fun H locs ls hl hP hD hS => va_bast hx hb hK hP hD hS 3 1 rfl rfl hin hd (fun H locs hP hD hS => k _ h H locs ls hl hP hD hS)
theorem ald_X3_now {K : Kx} {cc : ByteArray} {own : String} {g : Gm} {nL d : Nat} {ret : Option FieldType} {Q : State → Prop} {pc : Nat} {lv : List (Nat × Value)} {st : List Value} {σ : St} (hC : Ok K cc own g nL d ret) {i : Int32} {ρ : Type} {o : ρ} {f : Int32 → Option ρ} (hd : decode cc pc = .ok (.iaload, 1)) (h : ald σ 1 5 i f = some o) (k : ∀ v, f v = some o → J K (wX g) nL Q (pc + 1) lv (.int v :: st) σ) : J K (wX g) nL Q (pc) lv (.int i :: .ref (g.1 5) :: st) σ := by
  obtain ⟨p, l, e, R, s, m, args, below, meth, c, D, A⟩ := K
  obtain ⟨hx, hb, hml, hown, hts, hK, hA, hSF, hR, hr, hlk⟩ := hC
  obtain ⟨hin, h⟩ := ald_some h
  exact fun H locs ls hl hP hD hS => va_iald hx hb hK hP 5 0 rfl rfl hin hd (k _ h H locs ls hl hP hD hS)
theorem ast_X3_now {K : Kx} {cc : ByteArray} {own : String} {g : Gm} {nL d : Nat} {ret : Option FieldType} {Q : State → Prop} {pc : Nat} {lv : List (Nat × Value)} {st : List Value} {σ : St} (hC : Ok K cc own g nL d ret) {i x : Int32} {ρ : Type} {o : ρ} {f : St → Option ρ} (hd : decode cc pc = .ok (.iastore, 1)) (h : ast σ 1 5 i x f = some o) (k : ∀ σ2, f σ2 = some o → J K (wX g) nL Q (pc + 1) lv (st) σ2) : J K (wX g) nL Q (pc) lv (.int x :: .int i :: .ref (g.1 5) :: st) σ := by
  obtain ⟨p, l, e, R, s, m, args, below, meth, c, D, A⟩ := K
  obtain ⟨hx, hb, hml, hown, hts, hK, hA, hSF, hR, hr, hlk⟩ := hC
  obtain ⟨hin, h⟩ := ast_some h
  exact fun H locs ls hl hP hD hS => va_iast hx hb hK hP hD hS 5 0 rfl rfl hin hd (fun H locs hP hD hS => k _ h H locs ls hl hP hD hS)
theorem ald_X3_next {K : Kx} {cc : ByteArray} {own : String} {g : Gm} {nL d : Nat} {ret : Option FieldType} {Q : State → Prop} {pc : Nat} {lv : List (Nat × Value)} {st : List Value} {σ : St} (hC : Ok K cc own g nL d ret) {i : Int32} {ρ : Type} {o : ρ} {f : Int32 → Option ρ} (hd : decode cc pc = .ok (.iaload, 1)) (h : ald σ 2 5 i f = some o) (k : ∀ v, f v = some o → J K (wX g) nL Q (pc + 1) lv (.int v :: st) σ) : J K (wX g) nL Q (pc) lv (.int i :: .ref (g.1 6) :: st) σ := by
  obtain ⟨p, l, e, R, s, m, args, below, meth, c, D, A⟩ := K
  obtain ⟨hx, hb, hml, hown, hts, hK, hA, hSF, hR, hr, hlk⟩ := hC
  obtain ⟨hin, h⟩ := ald_some h
  exact fun H locs ls hl hP hD hS => va_iald hx hb hK hP 6 0 rfl rfl hin hd (k _ h H locs ls hl hP hD hS)
theorem ast_X3_next {K : Kx} {cc : ByteArray} {own : String} {g : Gm} {nL d : Nat} {ret : Option FieldType} {Q : State → Prop} {pc : Nat} {lv : List (Nat × Value)} {st : List Value} {σ : St} (hC : Ok K cc own g nL d ret) {i x : Int32} {ρ : Type} {o : ρ} {f : St → Option ρ} (hd : decode cc pc = .ok (.iastore, 1)) (h : ast σ 2 5 i x f = some o) (k : ∀ σ2, f σ2 = some o → J K (wX g) nL Q (pc + 1) lv (st) σ2) : J K (wX g) nL Q (pc) lv (.int x :: .int i :: .ref (g.1 6) :: st) σ := by
  obtain ⟨p, l, e, R, s, m, args, below, meth, c, D, A⟩ := K
  obtain ⟨hx, hb, hml, hown, hts, hK, hA, hSF, hR, hr, hlk⟩ := hC
  obtain ⟨hin, h⟩ := ast_some h
  exact fun H locs ls hl hP hD hS => va_iast hx hb hK hP hD hS 6 0 rfl rfl hin hd (fun H locs hP hD hS => k _ h H locs ls hl hP hD hS)
theorem ald_X3_isTold {K : Kx} {cc : ByteArray} {own : String} {g : Gm} {nL d : Nat} {ret : Option FieldType} {Q : State → Prop} {pc : Nat} {lv : List (Nat × Value)} {st : List Value} {σ : St} (hC : Ok K cc own g nL d ret) {i : Int32} {ρ : Type} {o : ρ} {f : Int32 → Option ρ} (hd : decode cc pc = .ok (.baload, 1)) (h : ald σ 3 5 i f = some o) (k : ∀ v, f v = some o → J K (wX g) nL Q (pc + 1) lv (.int v :: st) σ) : J K (wX g) nL Q (pc) lv (.int i :: .ref (g.1 7) :: st) σ := by
  obtain ⟨p, l, e, R, s, m, args, below, meth, c, D, A⟩ := K
  obtain ⟨hx, hb, hml, hown, hts, hK, hA, hSF, hR, hr, hlk⟩ := hC
  obtain ⟨hin, h⟩ := ald_some h
  exact fun H locs ls hl hP hD hS => va_zald hx hb hK hP 7 2 rfl rfl hin hd (k _ h H locs ls hl hP hD hS)
theorem ast_X3_isTold {K : Kx} {cc : ByteArray} {own : String} {g : Gm} {nL d : Nat} {ret : Option FieldType} {Q : State → Prop} {pc : Nat} {lv : List (Nat × Value)} {st : List Value} {σ : St} (hC : Ok K cc own g nL d ret) {i x : Int32} {ρ : Type} {o : ρ} {f : St → Option ρ} (hd : decode cc pc = .ok (.bastore, 1)) (h : ast σ 3 5 i (vp_nar .boolean x) f = some o) (k : ∀ σ2, f σ2 = some o → J K (wX g) nL Q (pc + 1) lv (st) σ2) : J K (wX g) nL Q (pc) lv (.int x :: .int i :: .ref (g.1 7) :: st) σ := by
  obtain ⟨p, l, e, R, s, m, args, below, meth, c, D, A⟩ := K
  obtain ⟨hx, hb, hml, hown, hts, hK, hA, hSF, hR, hr, hlk⟩ := hC
  obtain ⟨hin, h⟩ := ast_some h
  exact fun H locs ls hl hP hD hS => va_zast hx hb hK hP hD hS 7 2 rfl rfl hin hd (fun H locs hP hD hS => k _ h H locs ls hl hP hD hS)
theorem ald_X4_seconds {K : Kx} {cc : ByteArray} {own : String} {g : Gm} {nL d : Nat} {ret : Option FieldType} {Q : State → Prop} {pc : Nat} {lv : List (Nat × Value)} {st : List Value} {σ : St} (hC : Ok K cc own g nL d ret) {i : Int32} {ρ : Type} {o : ρ} {f : Int32 → Option ρ} (hd : decode cc pc = .ok (.iaload, 1)) (h : ald σ 4 24 i f = some o) (k : ∀ v, f v = some o → J K (wX g) nL Q (pc + 1) lv (.int v :: st) σ) : J K (wX g) nL Q (pc) lv (.int i :: .ref (g.1 9) :: st) σ := by
  obtain ⟨p, l, e, R, s, m, args, below, meth, c, D, A⟩ := K
  obtain ⟨hx, hb, hml, hown, hts, hK, hA, hSF, hR, hr, hlk⟩ := hC
  obtain ⟨hin, h⟩ := ald_some h
  exact fun H locs ls hl hP hD hS => va_iald hx hb hK hP 9 0 rfl rfl hin hd (k _ h H locs ls hl hP hD hS)
theorem ast_X4_seconds {K : Kx} {cc : ByteArray} {own : String} {g : Gm} {nL d : Nat} {ret : Option FieldType} {Q : State → Prop} {pc : Nat} {lv : List (Nat × Value)} {st : List Value} {σ : St} (hC : Ok K cc own g nL d ret) {i x : Int32} {ρ : Type} {o : ρ} {f : St → Option ρ} (hd : decode cc pc = .ok (.iastore, 1)) (h : ast σ 4 24 i x f = some o) (k : ∀ σ2, f σ2 = some o → J K (wX g) nL Q (pc + 1) lv (st) σ2) : J K (wX g) nL Q (pc) lv (.int x :: .int i :: .ref (g.1 9) :: st) σ := by
  obtain ⟨p, l, e, R, s, m, args, below, meth, c, D, A⟩ := K
  obtain ⟨hx, hb, hml, hown, hts, hK, hA, hSF, hR, hr, hlk⟩ := hC
  obtain ⟨hin, h⟩ := ast_some h
  exact fun H locs ls hl hP hD hS => va_iast hx hb hK hP hD hS 9 0 rfl rfl hin hd (fun H locs hP hD hS => k _ h H locs ls hl hP hD hS)
theorem ald_X4_artist {K : Kx} {cc : ByteArray} {own : String} {g : Gm} {nL d : Nat} {ret : Option FieldType} {Q : State → Prop} {pc : Nat} {lv : List (Nat × Value)} {st : List Value} {σ : St} (hC : Ok K cc own g nL d ret) {i : Int32} {ρ : Type} {o : ρ} {f : Int32 → Option ρ} (hd : decode cc pc = .ok (.iaload, 1)) (h : ald σ 5 24 i f = some o) (k : ∀ v, f v = some o → J K (wX g) nL Q (pc + 1) lv (.int v :: st) σ) : J K (wX g) nL Q (pc) lv (.int i :: .ref (g.1 10) :: st) σ := by
  obtain ⟨p, l, e, R, s, m, args, below, meth, c, D, A⟩ := K
  obtain ⟨hx, hb, hml, hown, hts, hK, hA, hSF, hR, hr, hlk⟩ := hC
  obtain ⟨hin, h⟩ := ald_some h
  exact fun H locs ls hl hP hD hS => va_iald hx hb hK hP 10 0 rfl rfl hin hd (k _ h H locs ls hl hP hD hS)
theorem ast_X4_artist {K : Kx} {cc : ByteArray} {own : String} {g : Gm} {nL d : Nat} {ret : Option FieldType} {Q : State → Prop} {pc : Nat} {lv : List (Nat × Value)} {st : List Value} {σ : St} (hC : Ok K cc own g nL d ret) {i x : Int32} {ρ : Type} {o : ρ} {f : St → Option ρ} (hd : decode cc pc = .ok (.iastore, 1)) (h : ast σ 5 24 i x f = some o) (k : ∀ σ2, f σ2 = some o → J K (wX g) nL Q (pc + 1) lv (st) σ2) : J K (wX g) nL Q (pc) lv (.int x :: .int i :: .ref (g.1 10) :: st) σ := by
  obtain ⟨p, l, e, R, s, m, args, below, meth, c, D, A⟩ := K
  obtain ⟨hx, hb, hml, hown, hts, hK, hA, hSF, hR, hr, hlk⟩ := hC
  obtain ⟨hin, h⟩ := ast_some h
  exact fun H locs ls hl hP hD hS => va_iast hx hb hK hP hD hS 10 0 rfl rfl hin hd (fun H locs hP hD hS => k _ h H locs ls hl hP hD hS)
theorem ald_X4_key {K : Kx} {cc : ByteArray} {own : String} {g : Gm} {nL d : Nat} {ret : Option FieldType} {Q : State → Prop} {pc : Nat} {lv : List (Nat × Value)} {st : List Value} {σ : St} (hC : Ok K cc own g nL d ret) {i : Int32} {ρ : Type} {o : ρ} {f : Int32 → Option ρ} (hd : decode cc pc = .ok (.iaload, 1)) (h : ald σ 6 24 i f = some o) (k : ∀ v, f v = some o → J K (wX g) nL Q (pc + 1) lv (.int v :: st) σ) : J K (wX g) nL Q (pc) lv (.int i :: .ref (g.1 11) :: st) σ := by
  obtain ⟨p, l, e, R, s, m, args, below, meth, c, D, A⟩ := K
  obtain ⟨hx, hb, hml, hown, hts, hK, hA, hSF, hR, hr, hlk⟩ := hC
  obtain ⟨hin, h⟩ := ald_some h
  exact fun H locs ls hl hP hD hS => va_iald hx hb hK hP 11 0 rfl rfl hin hd (k _ h H locs ls hl hP hD hS)
theorem ast_X4_key {K : Kx} {cc : ByteArray} {own : String} {g : Gm} {nL d : Nat} {ret : Option FieldType} {Q : State → Prop} {pc : Nat} {lv : List (Nat × Value)} {st : List Value} {σ : St} (hC : Ok K cc own g nL d ret) {i x : Int32} {ρ : Type} {o : ρ} {f : St → Option ρ} (hd : decode cc pc = .ok (.iastore, 1)) (h : ast σ 6 24 i x f = some o) (k : ∀ σ2, f σ2 = some o → J K (wX g) nL Q (pc + 1) lv (st) σ2) : J K (wX g) nL Q (pc) lv (.int x :: .int i :: .ref (g.1 11) :: st) σ := by
  obtain ⟨p, l, e, R, s, m, args, below, meth, c, D, A⟩ := K
  obtain ⟨hx, hb, hml, hown, hts, hK, hA, hSF, hR, hr, hlk⟩ := hC
  obtain ⟨hin, h⟩ := ast_some h
  exact fun H locs ls hl hP hD hS => va_iast hx hb hK hP hD hS 11 0 rfl rfl hin hd (fun H locs hP hD hS => k _ h H locs ls hl hP hD hS)
theorem ald_X4_mood {K : Kx} {cc : ByteArray} {own : String} {g : Gm} {nL d : Nat} {ret : Option FieldType} {Q : State → Prop} {pc : Nat} {lv : List (Nat × Value)} {st : List Value} {σ : St} (hC : Ok K cc own g nL d ret) {i : Int32} {ρ : Type} {o : ρ} {f : Int32 → Option ρ} (hd : decode cc pc = .ok (.iaload, 1)) (h : ald σ 7 24 i f = some o) (k : ∀ v, f v = some o → J K (wX g) nL Q (pc + 1) lv (.int v :: st) σ) : J K (wX g) nL Q (pc) lv (.int i :: .ref (g.1 12) :: st) σ := by
  obtain ⟨p, l, e, R, s, m, args, below, meth, c, D, A⟩ := K
  obtain ⟨hx, hb, hml, hown, hts, hK, hA, hSF, hR, hr, hlk⟩ := hC
  obtain ⟨hin, h⟩ := ald_some h
  exact fun H locs ls hl hP hD hS => va_iald hx hb hK hP 12 0 rfl rfl hin hd (k _ h H locs ls hl hP hD hS)
theorem ast_X4_mood {K : Kx} {cc : ByteArray} {own : String} {g : Gm} {nL d : Nat} {ret : Option FieldType} {Q : State → Prop} {pc : Nat} {lv : List (Nat × Value)} {st : List Value} {σ : St} (hC : Ok K cc own g nL d ret) {i x : Int32} {ρ : Type} {o : ρ} {f : St → Option ρ} (hd : decode cc pc = .ok (.iastore, 1)) (h : ast σ 7 24 i x f = some o) (k : ∀ σ2, f σ2 = some o → J K (wX g) nL Q (pc + 1) lv (st) σ2) : J K (wX g) nL Q (pc) lv (.int x :: .int i :: .ref (g.1 12) :: st) σ := by
  obtain ⟨p, l, e, R, s, m, args, below, meth, c, D, A⟩ := K
  obtain ⟨hx, hb, hml, hown, hts, hK, hA, hSF, hR, hr, hlk⟩ := hC
  obtain ⟨hin, h⟩ := ast_some h
  exact fun H locs ls hl hP hD hS => va_iast hx hb hK hP hD hS 12 0 rfl rfl hin hd (fun H locs hP hD hS => k _ h H locs ls hl hP hD hS)
theorem ald_X4_newness {K : Kx} {cc : ByteArray} {own : String} {g : Gm} {nL d : Nat} {ret : Option FieldType} {Q : State → Prop} {pc : Nat} {lv : List (Nat × Value)} {st : List Value} {σ : St} (hC : Ok K cc own g nL d ret) {i : Int32} {ρ : Type} {o : ρ} {f : Int32 → Option ρ} (hd : decode cc pc = .ok (.iaload, 1)) (h : ald σ 8 24 i f = some o) (k : ∀ v, f v = some o → J K (wX g) nL Q (pc + 1) lv (.int v :: st) σ) : J K (wX g) nL Q (pc) lv (.int i :: .ref (g.1 13) :: st) σ := by
  obtain ⟨p, l, e, R, s, m, args, below, meth, c, D, A⟩ := K
  obtain ⟨hx, hb, hml, hown, hts, hK, hA, hSF, hR, hr, hlk⟩ := hC
  obtain ⟨hin, h⟩ := ald_some h
  exact fun H locs ls hl hP hD hS => va_iald hx hb hK hP 13 0 rfl rfl hin hd (k _ h H locs ls hl hP hD hS)
theorem ast_X4_newness {K : Kx} {cc : ByteArray} {own : String} {g : Gm} {nL d : Nat} {ret : Option FieldType} {Q : State → Prop} {pc : Nat} {lv : List (Nat × Value)} {st : List Value} {σ : St} (hC : Ok K cc own g nL d ret) {i x : Int32} {ρ : Type} {o : ρ} {f : St → Option ρ} (hd : decode cc pc = .ok (.iastore, 1)) (h : ast σ 8 24 i x f = some o) (k : ∀ σ2, f σ2 = some o → J K (wX g) nL Q (pc + 1) lv (st) σ2) : J K (wX g) nL Q (pc) lv (.int x :: .int i :: .ref (g.1 13) :: st) σ := by
  obtain ⟨p, l, e, R, s, m, args, below, meth, c, D, A⟩ := K
  obtain ⟨hx, hb, hml, hown, hts, hK, hA, hSF, hR, hr, hlk⟩ := hC
  obtain ⟨hin, h⟩ := ast_some h
  exact fun H locs ls hl hP hD hS => va_iast hx hb hK hP hD hS 13 0 rfl rfl hin hd (fun H locs hP hD hS => k _ h H locs ls hl hP hD hS)
theorem ald_X4_asksOpen {K : Kx} {cc : ByteArray} {own : String} {g : Gm} {nL d : Nat} {ret : Option FieldType} {Q : State → Prop} {pc : Nat} {lv : List (Nat × Value)} {st : List Value} {σ : St} (hC : Ok K cc own g nL d ret) {i : Int32} {ρ : Type} {o : ρ} {f : Int32 → Option ρ} (hd : decode cc pc = .ok (.iaload, 1)) (h : ald σ 9 24 i f = some o) (k : ∀ v, f v = some o → J K (wX g) nL Q (pc + 1) lv (.int v :: st) σ) : J K (wX g) nL Q (pc) lv (.int i :: .ref (g.1 14) :: st) σ := by
  obtain ⟨p, l, e, R, s, m, args, below, meth, c, D, A⟩ := K
  obtain ⟨hx, hb, hml, hown, hts, hK, hA, hSF, hR, hr, hlk⟩ := hC
  obtain ⟨hin, h⟩ := ald_some h
  exact fun H locs ls hl hP hD hS => va_iald hx hb hK hP 14 0 rfl rfl hin hd (k _ h H locs ls hl hP hD hS)
theorem ast_X4_asksOpen {K : Kx} {cc : ByteArray} {own : String} {g : Gm} {nL d : Nat} {ret : Option FieldType} {Q : State → Prop} {pc : Nat} {lv : List (Nat × Value)} {st : List Value} {σ : St} (hC : Ok K cc own g nL d ret) {i x : Int32} {ρ : Type} {o : ρ} {f : St → Option ρ} (hd : decode cc pc = .ok (.iastore, 1)) (h : ast σ 9 24 i x f = some o) (k : ∀ σ2, f σ2 = some o → J K (wX g) nL Q (pc + 1) lv (st) σ2) : J K (wX g) nL Q (pc) lv (.int x :: .int i :: .ref (g.1 14) :: st) σ := by
  obtain ⟨p, l, e, R, s, m, args, below, meth, c, D, A⟩ := K
  obtain ⟨hx, hb, hml, hown, hts, hK, hA, hSF, hR, hr, hlk⟩ := hC
  obtain ⟨hin, h⟩ := ast_some h
  exact fun H locs ls hl hP hD hS => va_iast hx hb hK hP hD hS 14 0 rfl rfl hin hd (fun H locs hP hD hS => k _ h H locs ls hl hP hD hS)
theorem ald_X4_asksDone {K : Kx} {cc : ByteArray} {own : String} {g : Gm} {nL d : Nat} {ret : Option FieldType} {Q : State → Prop} {pc : Nat} {lv : List (Nat × Value)} {st : List Value} {σ : St} (hC : Ok K cc own g nL d ret) {i : Int32} {ρ : Type} {o : ρ} {f : Int32 → Option ρ} (hd : decode cc pc = .ok (.iaload, 1)) (h : ald σ 10 24 i f = some o) (k : ∀ v, f v = some o → J K (wX g) nL Q (pc + 1) lv (.int v :: st) σ) : J K (wX g) nL Q (pc) lv (.int i :: .ref (g.1 15) :: st) σ := by
  obtain ⟨p, l, e, R, s, m, args, below, meth, c, D, A⟩ := K
  obtain ⟨hx, hb, hml, hown, hts, hK, hA, hSF, hR, hr, hlk⟩ := hC
  obtain ⟨hin, h⟩ := ald_some h
  exact fun H locs ls hl hP hD hS => va_iald hx hb hK hP 15 0 rfl rfl hin hd (k _ h H locs ls hl hP hD hS)
theorem ast_X4_asksDone {K : Kx} {cc : ByteArray} {own : String} {g : Gm} {nL d : Nat} {ret : Option FieldType} {Q : State → Prop} {pc : Nat} {lv : List (Nat × Value)} {st : List Value} {σ : St} (hC : Ok K cc own g nL d ret) {i x : Int32} {ρ : Type} {o : ρ} {f : St → Option ρ} (hd : decode cc pc = .ok (.iastore, 1)) (h : ast σ 10 24 i x f = some o) (k : ∀ σ2, f σ2 = some o → J K (wX g) nL Q (pc + 1) lv (st) σ2) : J K (wX g) nL Q (pc) lv (.int x :: .int i :: .ref (g.1 15) :: st) σ := by
  obtain ⟨p, l, e, R, s, m, args, below, meth, c, D, A⟩ := K
  obtain ⟨hx, hb, hml, hown, hts, hK, hA, hSF, hR, hr, hlk⟩ := hC
  obtain ⟨hin, h⟩ := ast_some h
  exact fun H locs ls hl hP hD hS => va_iast hx hb hK hP hD hS 15 0 rfl rfl hin hd (fun H locs hP hD hS => k _ h H locs ls hl hP hD hS)
theorem ald_X4_played {K : Kx} {cc : ByteArray} {own : String} {g : Gm} {nL d : Nat} {ret : Option FieldType} {Q : State → Prop} {pc : Nat} {lv : List (Nat × Value)} {st : List Value} {σ : St} (hC : Ok K cc own g nL d ret) {i : Int32} {ρ : Type} {o : ρ} {f : Int32 → Option ρ} (hd : decode cc pc = .ok (.iaload, 1)) (h : ald σ 11 24 i f = some o) (k : ∀ v, f v = some o → J K (wX g) nL Q (pc + 1) lv (.int v :: st) σ) : J K (wX g) nL Q (pc) lv (.int i :: .ref (g.1 16) :: st) σ := by
  obtain ⟨p, l, e, R, s, m, args, below, meth, c, D, A⟩ := K
  obtain ⟨hx, hb, hml, hown, hts, hK, hA, hSF, hR, hr, hlk⟩ := hC
  obtain ⟨hin, h⟩ := ald_some h
  exact fun H locs ls hl hP hD hS => va_iald hx hb hK hP 16 0 rfl rfl hin hd (k _ h H locs ls hl hP hD hS)
theorem ast_X4_played {K : Kx} {cc : ByteArray} {own : String} {g : Gm} {nL d : Nat} {ret : Option FieldType} {Q : State → Prop} {pc : Nat} {lv : List (Nat × Value)} {st : List Value} {σ : St} (hC : Ok K cc own g nL d ret) {i x : Int32} {ρ : Type} {o : ρ} {f : St → Option ρ} (hd : decode cc pc = .ok (.iastore, 1)) (h : ast σ 11 24 i x f = some o) (k : ∀ σ2, f σ2 = some o → J K (wX g) nL Q (pc + 1) lv (st) σ2) : J K (wX g) nL Q (pc) lv (.int x :: .int i :: .ref (g.1 16) :: st) σ := by
  obtain ⟨p, l, e, R, s, m, args, below, meth, c, D, A⟩ := K
  obtain ⟨hx, hb, hml, hown, hts, hK, hA, hSF, hR, hr, hlk⟩ := hC
  obtain ⟨hin, h⟩ := ast_some h
  exact fun H locs ls hl hP hD hS => va_iast hx hb hK hP hD hS 16 0 rfl rfl hin hd (fun H locs hP hD hS => k _ h H locs ls hl hP hD hS)
theorem ald_X4_began {K : Kx} {cc : ByteArray} {own : String} {g : Gm} {nL d : Nat} {ret : Option FieldType} {Q : State → Prop} {pc : Nat} {lv : List (Nat × Value)} {st : List Value} {σ : St} (hC : Ok K cc own g nL d ret) {i : Int32} {ρ : Type} {o : ρ} {f : Int32 → Option ρ} (hd : decode cc pc = .ok (.iaload, 1)) (h : ald σ 12 24 i f = some o) (k : ∀ v, f v = some o → J K (wX g) nL Q (pc + 1) lv (.int v :: st) σ) : J K (wX g) nL Q (pc) lv (.int i :: .ref (g.1 17) :: st) σ := by
  obtain ⟨p, l, e, R, s, m, args, below, meth, c, D, A⟩ := K
  obtain ⟨hx, hb, hml, hown, hts, hK, hA, hSF, hR, hr, hlk⟩ := hC
  obtain ⟨hin, h⟩ := ald_some h
  exact fun H locs ls hl hP hD hS => va_iald hx hb hK hP 17 0 rfl rfl hin hd (k _ h H locs ls hl hP hD hS)
theorem ast_X4_began {K : Kx} {cc : ByteArray} {own : String} {g : Gm} {nL d : Nat} {ret : Option FieldType} {Q : State → Prop} {pc : Nat} {lv : List (Nat × Value)} {st : List Value} {σ : St} (hC : Ok K cc own g nL d ret) {i x : Int32} {ρ : Type} {o : ρ} {f : St → Option ρ} (hd : decode cc pc = .ok (.iastore, 1)) (h : ast σ 12 24 i x f = some o) (k : ∀ σ2, f σ2 = some o → J K (wX g) nL Q (pc + 1) lv (st) σ2) : J K (wX g) nL Q (pc) lv (.int x :: .int i :: .ref (g.1 17) :: st) σ := by
  obtain ⟨p, l, e, R, s, m, args, below, meth, c, D, A⟩ := K
  obtain ⟨hx, hb, hml, hown, hts, hK, hA, hSF, hR, hr, hlk⟩ := hC
  obtain ⟨hin, h⟩ := ast_some h
  exact fun H locs ls hl hP hD hS => va_iast hx hb hK hP hD hS 17 0 rfl rfl hin hd (fun H locs hP hD hS => k _ h H locs ls hl hP hD hS)
theorem ald_X4_artistBegan {K : Kx} {cc : ByteArray} {own : String} {g : Gm} {nL d : Nat} {ret : Option FieldType} {Q : State → Prop} {pc : Nat} {lv : List (Nat × Value)} {st : List Value} {σ : St} (hC : Ok K cc own g nL d ret) {i : Int32} {ρ : Type} {o : ρ} {f : Int32 → Option ρ} (hd : decode cc pc = .ok (.iaload, 1)) (h : ald σ 13 12 i f = some o) (k : ∀ v, f v = some o → J K (wX g) nL Q (pc + 1) lv (.int v :: st) σ) : J K (wX g) nL Q (pc) lv (.int i :: .ref (g.1 18) :: st) σ := by
  obtain ⟨p, l, e, R, s, m, args, below, meth, c, D, A⟩ := K
  obtain ⟨hx, hb, hml, hown, hts, hK, hA, hSF, hR, hr, hlk⟩ := hC
  obtain ⟨hin, h⟩ := ald_some h
  exact fun H locs ls hl hP hD hS => va_iald hx hb hK hP 18 0 rfl rfl hin hd (k _ h H locs ls hl hP hD hS)
theorem ast_X4_artistBegan {K : Kx} {cc : ByteArray} {own : String} {g : Gm} {nL d : Nat} {ret : Option FieldType} {Q : State → Prop} {pc : Nat} {lv : List (Nat × Value)} {st : List Value} {σ : St} (hC : Ok K cc own g nL d ret) {i x : Int32} {ρ : Type} {o : ρ} {f : St → Option ρ} (hd : decode cc pc = .ok (.iastore, 1)) (h : ast σ 13 12 i x f = some o) (k : ∀ σ2, f σ2 = some o → J K (wX g) nL Q (pc + 1) lv (st) σ2) : J K (wX g) nL Q (pc) lv (.int x :: .int i :: .ref (g.1 18) :: st) σ := by
  obtain ⟨p, l, e, R, s, m, args, below, meth, c, D, A⟩ := K
  obtain ⟨hx, hb, hml, hown, hts, hK, hA, hSF, hR, hr, hlk⟩ := hC
  obtain ⟨hin, h⟩ := ast_some h
  exact fun H locs ls hl hP hD hS => va_iast hx hb hK hP hD hS 18 0 rfl rfl hin hd (fun H locs hP hD hS => k _ h H locs ls hl hP hD hS)
theorem ald_X4_voteSum {K : Kx} {cc : ByteArray} {own : String} {g : Gm} {nL d : Nat} {ret : Option FieldType} {Q : State → Prop} {pc : Nat} {lv : List (Nat × Value)} {st : List Value} {σ : St} (hC : Ok K cc own g nL d ret) {i : Int32} {ρ : Type} {o : ρ} {f : Int32 → Option ρ} (hd : decode cc pc = .ok (.iaload, 1)) (h : ald σ 14 24 i f = some o) (k : ∀ v, f v = some o → J K (wX g) nL Q (pc + 1) lv (.int v :: st) σ) : J K (wX g) nL Q (pc) lv (.int i :: .ref (g.1 19) :: st) σ := by
  obtain ⟨p, l, e, R, s, m, args, below, meth, c, D, A⟩ := K
  obtain ⟨hx, hb, hml, hown, hts, hK, hA, hSF, hR, hr, hlk⟩ := hC
  obtain ⟨hin, h⟩ := ald_some h
  exact fun H locs ls hl hP hD hS => va_iald hx hb hK hP 19 0 rfl rfl hin hd (k _ h H locs ls hl hP hD hS)
theorem ast_X4_voteSum {K : Kx} {cc : ByteArray} {own : String} {g : Gm} {nL d : Nat} {ret : Option FieldType} {Q : State → Prop} {pc : Nat} {lv : List (Nat × Value)} {st : List Value} {σ : St} (hC : Ok K cc own g nL d ret) {i x : Int32} {ρ : Type} {o : ρ} {f : St → Option ρ} (hd : decode cc pc = .ok (.iastore, 1)) (h : ast σ 14 24 i x f = some o) (k : ∀ σ2, f σ2 = some o → J K (wX g) nL Q (pc + 1) lv (st) σ2) : J K (wX g) nL Q (pc) lv (.int x :: .int i :: .ref (g.1 19) :: st) σ := by
  obtain ⟨p, l, e, R, s, m, args, below, meth, c, D, A⟩ := K
  obtain ⟨hx, hb, hml, hown, hts, hK, hA, hSF, hR, hr, hlk⟩ := hC
  obtain ⟨hin, h⟩ := ast_some h
  exact fun H locs ls hl hP hD hS => va_iast hx hb hK hP hD hS 19 0 rfl rfl hin hd (fun H locs hP hD hS => k _ h H locs ls hl hP hD hS)
theorem ald_X4_oldestVote {K : Kx} {cc : ByteArray} {own : String} {g : Gm} {nL d : Nat} {ret : Option FieldType} {Q : State → Prop} {pc : Nat} {lv : List (Nat × Value)} {st : List Value} {σ : St} (hC : Ok K cc own g nL d ret) {i : Int32} {ρ : Type} {o : ρ} {f : Int32 → Option ρ} (hd : decode cc pc = .ok (.iaload, 1)) (h : ald σ 15 24 i f = some o) (k : ∀ v, f v = some o → J K (wX g) nL Q (pc + 1) lv (.int v :: st) σ) : J K (wX g) nL Q (pc) lv (.int i :: .ref (g.1 20) :: st) σ := by
  obtain ⟨p, l, e, R, s, m, args, below, meth, c, D, A⟩ := K
  obtain ⟨hx, hb, hml, hown, hts, hK, hA, hSF, hR, hr, hlk⟩ := hC
  obtain ⟨hin, h⟩ := ald_some h
  exact fun H locs ls hl hP hD hS => va_iald hx hb hK hP 20 0 rfl rfl hin hd (k _ h H locs ls hl hP hD hS)
theorem ast_X4_oldestVote {K : Kx} {cc : ByteArray} {own : String} {g : Gm} {nL d : Nat} {ret : Option FieldType} {Q : State → Prop} {pc : Nat} {lv : List (Nat × Value)} {st : List Value} {σ : St} (hC : Ok K cc own g nL d ret) {i x : Int32} {ρ : Type} {o : ρ} {f : St → Option ρ} (hd : decode cc pc = .ok (.iastore, 1)) (h : ast σ 15 24 i x f = some o) (k : ∀ σ2, f σ2 = some o → J K (wX g) nL Q (pc + 1) lv (st) σ2) : J K (wX g) nL Q (pc) lv (.int x :: .int i :: .ref (g.1 20) :: st) σ := by
  obtain ⟨p, l, e, R, s, m, args, below, meth, c, D, A⟩ := K
  obtain ⟨hx, hb, hml, hown, hts, hK, hA, hSF, hR, hr, hlk⟩ := hC
  obtain ⟨hin, h⟩ := ast_some h
  exact fun H locs ls hl hP hD hS => va_iast hx hb hK hP hD hS 20 0 rfl rfl hin hd (fun H locs hP hD hS => k _ h H locs ls hl hP hD hS)
theorem ald_X4_votes {K : Kx} {cc : ByteArray} {own : String} {g : Gm} {nL d : Nat} {ret : Option FieldType} {Q : State → Prop} {pc : Nat} {lv : List (Nat × Value)} {st : List Value} {σ : St} (hC : Ok K cc own g nL d ret) {i : Int32} {ρ : Type} {o : ρ} {f : Int32 → Option ρ} (hd : decode cc pc = .ok (.baload, 1)) (h : ald σ 16 240 i f = some o) (k : ∀ v, f v = some o → J K (wX g) nL Q (pc + 1) lv (.int v :: st) σ) : J K (wX g) nL Q (pc) lv (.int i :: .ref (g.1 21) :: st) σ := by
  obtain ⟨p, l, e, R, s, m, args, below, meth, c, D, A⟩ := K
  obtain ⟨hx, hb, hml, hown, hts, hK, hA, hSF, hR, hr, hlk⟩ := hC
  obtain ⟨hin, h⟩ := ald_some h
  exact fun H locs ls hl hP hD hS => va_bald hx hb hK hP 21 1 rfl rfl hin hd (k _ h H locs ls hl hP hD hS)
theorem ast_X4_votes {K : Kx} {cc : ByteArray} {own : String} {g : Gm} {nL d : Nat} {ret : Option FieldType} {Q : State → Prop} {pc : Nat} {lv : List (Nat × Value)} {st : List Value} {σ : St} (hC : Ok K cc own g nL d ret) {i x : Int32} {ρ : Type} {o : ρ} {f : St → Option ρ} (hd : decode cc pc = .ok (.bastore, 1)) (h : ast σ 16 240 i (vp_nar .byte x) f = some o) (k : ∀ σ2, f σ2 = some o → J K (wX g) nL Q (pc + 1) lv (st) σ2) : J K (wX g) nL Q (pc) lv (.int x :: .int i :: .ref (g.1 21) :: st) σ := by
  obtain ⟨p, l, e, R, s, m, args, below, meth, c, D, A⟩ := K
  obtain ⟨hx, hb, hml, hown, hts, hK, hA, hSF, hR, hr, hlk⟩ := hC
  obtain ⟨hin, h⟩ := ast_some h
  exact fun H locs ls hl hP hD hS => va_bast hx hb hK hP hD hS 21 1 rfl rfl hin hd (fun H locs hP hD hS => k _ h H locs ls hl hP hD hS)
theorem ald_X1_hourItems {K : Kx} {cc : ByteArray} {own : String} {g : Gm} {nL d : Nat} {ret : Option FieldType} {Q : State → Prop} {pc : Nat} {lv : List (Nat × Value)} {st : List Value} {σ : St} (hC : Ok K cc own g nL d ret) {i : Int32} {ρ : Type} {o : ρ} {f : Int32 → Option ρ} (hd : decode cc pc = .ok (.iaload, 1)) (h : ald σ 17 168 i f = some o) (k : ∀ v, f v = some o → J K (wX g) nL Q (pc + 1) lv (.int v :: st) σ) : J K (wX g) nL Q (pc) lv (.int i :: .ref (g.1 23) :: st) σ := by
  obtain ⟨p, l, e, R, s, m, args, below, meth, c, D, A⟩ := K
  obtain ⟨hx, hb, hml, hown, hts, hK, hA, hSF, hR, hr, hlk⟩ := hC
  obtain ⟨hin, h⟩ := ald_some h
  exact fun H locs ls hl hP hD hS => va_iald hx hb hK hP 23 0 rfl rfl hin hd (k _ h H locs ls hl hP hD hS)
theorem ast_X1_hourItems {K : Kx} {cc : ByteArray} {own : String} {g : Gm} {nL d : Nat} {ret : Option FieldType} {Q : State → Prop} {pc : Nat} {lv : List (Nat × Value)} {st : List Value} {σ : St} (hC : Ok K cc own g nL d ret) {i x : Int32} {ρ : Type} {o : ρ} {f : St → Option ρ} (hd : decode cc pc = .ok (.iastore, 1)) (h : ast σ 17 168 i x f = some o) (k : ∀ σ2, f σ2 = some o → J K (wX g) nL Q (pc + 1) lv (st) σ2) : J K (wX g) nL Q (pc) lv (.int x :: .int i :: .ref (g.1 23) :: st) σ := by
  obtain ⟨p, l, e, R, s, m, args, below, meth, c, D, A⟩ := K
  obtain ⟨hx, hb, hml, hown, hts, hK, hA, hSF, hR, hr, hlk⟩ := hC
  obtain ⟨hin, h⟩ := ast_some h
  exact fun H locs ls hl hP hD hS => va_iast hx hb hK hP hD hS 23 0 rfl rfl hin hd (fun H locs hP hD hS => k _ h H locs ls hl hP hD hS)
theorem ald_X1_itemLeft {K : Kx} {cc : ByteArray} {own : String} {g : Gm} {nL d : Nat} {ret : Option FieldType} {Q : State → Prop} {pc : Nat} {lv : List (Nat × Value)} {st : List Value} {σ : St} (hC : Ok K cc own g nL d ret) {i : Int32} {ρ : Type} {o : ρ} {f : Int32 → Option ρ} (hd : decode cc pc = .ok (.iaload, 1)) (h : ald σ 18 1344 i f = some o) (k : ∀ v, f v = some o → J K (wX g) nL Q (pc + 1) lv (.int v :: st) σ) : J K (wX g) nL Q (pc) lv (.int i :: .ref (g.1 24) :: st) σ := by
  obtain ⟨p, l, e, R, s, m, args, below, meth, c, D, A⟩ := K
  obtain ⟨hx, hb, hml, hown, hts, hK, hA, hSF, hR, hr, hlk⟩ := hC
  obtain ⟨hin, h⟩ := ald_some h
  exact fun H locs ls hl hP hD hS => va_iald hx hb hK hP 24 0 rfl rfl hin hd (k _ h H locs ls hl hP hD hS)
theorem ast_X1_itemLeft {K : Kx} {cc : ByteArray} {own : String} {g : Gm} {nL d : Nat} {ret : Option FieldType} {Q : State → Prop} {pc : Nat} {lv : List (Nat × Value)} {st : List Value} {σ : St} (hC : Ok K cc own g nL d ret) {i x : Int32} {ρ : Type} {o : ρ} {f : St → Option ρ} (hd : decode cc pc = .ok (.iastore, 1)) (h : ast σ 18 1344 i x f = some o) (k : ∀ σ2, f σ2 = some o → J K (wX g) nL Q (pc + 1) lv (st) σ2) : J K (wX g) nL Q (pc) lv (.int x :: .int i :: .ref (g.1 24) :: st) σ := by
  obtain ⟨p, l, e, R, s, m, args, below, meth, c, D, A⟩ := K
  obtain ⟨hx, hb, hml, hown, hts, hK, hA, hSF, hR, hr, hlk⟩ := hC
  obtain ⟨hin, h⟩ := ast_some h
  exact fun H locs ls hl hP hD hS => va_iast hx hb hK hP hD hS 24 0 rfl rfl hin hd (fun H locs hP hD hS => k _ h H locs ls hl hP hD hS)
theorem ald_X1_playSong {K : Kx} {cc : ByteArray} {own : String} {g : Gm} {nL d : Nat} {ret : Option FieldType} {Q : State → Prop} {pc : Nat} {lv : List (Nat × Value)} {st : List Value} {σ : St} (hC : Ok K cc own g nL d ret) {i : Int32} {ρ : Type} {o : ρ} {f : Int32 → Option ρ} (hd : decode cc pc = .ok (.iaload, 1)) (h : ald σ 19 300 i f = some o) (k : ∀ v, f v = some o → J K (wX g) nL Q (pc + 1) lv (.int v :: st) σ) : J K (wX g) nL Q (pc) lv (.int i :: .ref (g.1 25) :: st) σ := by
  obtain ⟨p, l, e, R, s, m, args, below, meth, c, D, A⟩ := K
  obtain ⟨hx, hb, hml, hown, hts, hK, hA, hSF, hR, hr, hlk⟩ := hC
  obtain ⟨hin, h⟩ := ald_some h
  exact fun H locs ls hl hP hD hS => va_iald hx hb hK hP 25 0 rfl rfl hin hd (k _ h H locs ls hl hP hD hS)
theorem ast_X1_playSong {K : Kx} {cc : ByteArray} {own : String} {g : Gm} {nL d : Nat} {ret : Option FieldType} {Q : State → Prop} {pc : Nat} {lv : List (Nat × Value)} {st : List Value} {σ : St} (hC : Ok K cc own g nL d ret) {i x : Int32} {ρ : Type} {o : ρ} {f : St → Option ρ} (hd : decode cc pc = .ok (.iastore, 1)) (h : ast σ 19 300 i x f = some o) (k : ∀ σ2, f σ2 = some o → J K (wX g) nL Q (pc + 1) lv (st) σ2) : J K (wX g) nL Q (pc) lv (.int x :: .int i :: .ref (g.1 25) :: st) σ := by
  obtain ⟨p, l, e, R, s, m, args, below, meth, c, D, A⟩ := K
  obtain ⟨hx, hb, hml, hown, hts, hK, hA, hSF, hR, hr, hlk⟩ := hC
  obtain ⟨hin, h⟩ := ast_some h
  exact fun H locs ls hl hP hD hS => va_iast hx hb hK hP hD hS 25 0 rfl rfl hin hd (fun H locs hP hD hS => k _ h H locs ls hl hP hD hS)
theorem ald_X1_playBegan {K : Kx} {cc : ByteArray} {own : String} {g : Gm} {nL d : Nat} {ret : Option FieldType} {Q : State → Prop} {pc : Nat} {lv : List (Nat × Value)} {st : List Value} {σ : St} (hC : Ok K cc own g nL d ret) {i : Int32} {ρ : Type} {o : ρ} {f : Int32 → Option ρ} (hd : decode cc pc = .ok (.iaload, 1)) (h : ald σ 20 300 i f = some o) (k : ∀ v, f v = some o → J K (wX g) nL Q (pc + 1) lv (.int v :: st) σ) : J K (wX g) nL Q (pc) lv (.int i :: .ref (g.1 26) :: st) σ := by
  obtain ⟨p, l, e, R, s, m, args, below, meth, c, D, A⟩ := K
  obtain ⟨hx, hb, hml, hown, hts, hK, hA, hSF, hR, hr, hlk⟩ := hC
  obtain ⟨hin, h⟩ := ald_some h
  exact fun H locs ls hl hP hD hS => va_iald hx hb hK hP 26 0 rfl rfl hin hd (k _ h H locs ls hl hP hD hS)
theorem ast_X1_playBegan {K : Kx} {cc : ByteArray} {own : String} {g : Gm} {nL d : Nat} {ret : Option FieldType} {Q : State → Prop} {pc : Nat} {lv : List (Nat × Value)} {st : List Value} {σ : St} (hC : Ok K cc own g nL d ret) {i x : Int32} {ρ : Type} {o : ρ} {f : St → Option ρ} (hd : decode cc pc = .ok (.iastore, 1)) (h : ast σ 20 300 i x f = some o) (k : ∀ σ2, f σ2 = some o → J K (wX g) nL Q (pc + 1) lv (st) σ2) : J K (wX g) nL Q (pc) lv (.int x :: .int i :: .ref (g.1 26) :: st) σ := by
  obtain ⟨p, l, e, R, s, m, args, below, meth, c, D, A⟩ := K
  obtain ⟨hx, hb, hml, hown, hts, hK, hA, hSF, hR, hr, hlk⟩ := hC
  obtain ⟨hin, h⟩ := ast_some h
  exact fun H locs ls hl hP hD hS => va_iast hx hb hK hP hD hS 26 0 rfl rfl hin hd (fun H locs hP hD hS => k _ h H locs ls hl hP hD hS)
theorem ald_X1_playHour {K : Kx} {cc : ByteArray} {own : String} {g : Gm} {nL d : Nat} {ret : Option FieldType} {Q : State → Prop} {pc : Nat} {lv : List (Nat × Value)} {st : List Value} {σ : St} (hC : Ok K cc own g nL d ret) {i : Int32} {ρ : Type} {o : ρ} {f : Int32 → Option ρ} (hd : decode cc pc = .ok (.iaload, 1)) (h : ald σ 21 300 i f = some o) (k : ∀ v, f v = some o → J K (wX g) nL Q (pc + 1) lv (.int v :: st) σ) : J K (wX g) nL Q (pc) lv (.int i :: .ref (g.1 27) :: st) σ := by
  obtain ⟨p, l, e, R, s, m, args, below, meth, c, D, A⟩ := K
  obtain ⟨hx, hb, hml, hown, hts, hK, hA, hSF, hR, hr, hlk⟩ := hC
  obtain ⟨hin, h⟩ := ald_some h
  exact fun H locs ls hl hP hD hS => va_iald hx hb hK hP 27 0 rfl rfl hin hd (k _ h H locs ls hl hP hD hS)
theorem ast_X1_playHour {K : Kx} {cc : ByteArray} {own : String} {g : Gm} {nL d : Nat} {ret : Option FieldType} {Q : State → Prop} {pc : Nat} {lv : List (Nat × Value)} {st : List Value} {σ : St} (hC : Ok K cc own g nL d ret) {i x : Int32} {ρ : Type} {o : ρ} {f : St → Option ρ} (hd : decode cc pc = .ok (.iastore, 1)) (h : ast σ 21 300 i x f = some o) (k : ∀ σ2, f σ2 = some o → J K (wX g) nL Q (pc + 1) lv (st) σ2) : J K (wX g) nL Q (pc) lv (.int x :: .int i :: .ref (g.1 27) :: st) σ := by
  obtain ⟨p, l, e, R, s, m, args, below, meth, c, D, A⟩ := K
  obtain ⟨hx, hb, hml, hown, hts, hK, hA, hSF, hR, hr, hlk⟩ := hC
  obtain ⟨hin, h⟩ := ast_some h
  exact fun H locs ls hl hP hD hS => va_iast hx hb hK hP hD hS 27 0 rfl rfl hin hd (fun H locs hP hD hS => k _ h H locs ls hl hP hD hS)
theorem ald_X1_playItem {K : Kx} {cc : ByteArray} {own : String} {g : Gm} {nL d : Nat} {ret : Option FieldType} {Q : State → Prop} {pc : Nat} {lv : List (Nat × Value)} {st : List Value} {σ : St} (hC : Ok K cc own g nL d ret) {i : Int32} {ρ : Type} {o : ρ} {f : Int32 → Option ρ} (hd : decode cc pc = .ok (.iaload, 1)) (h : ald σ 22 300 i f = some o) (k : ∀ v, f v = some o → J K (wX g) nL Q (pc + 1) lv (.int v :: st) σ) : J K (wX g) nL Q (pc) lv (.int i :: .ref (g.1 28) :: st) σ := by
  obtain ⟨p, l, e, R, s, m, args, below, meth, c, D, A⟩ := K
  obtain ⟨hx, hb, hml, hown, hts, hK, hA, hSF, hR, hr, hlk⟩ := hC
  obtain ⟨hin, h⟩ := ald_some h
  exact fun H locs ls hl hP hD hS => va_iald hx hb hK hP 28 0 rfl rfl hin hd (k _ h H locs ls hl hP hD hS)
theorem ast_X1_playItem {K : Kx} {cc : ByteArray} {own : String} {g : Gm} {nL d : Nat} {ret : Option FieldType} {Q : State → Prop} {pc : Nat} {lv : List (Nat × Value)} {st : List Value} {σ : St} (hC : Ok K cc own g nL d ret) {i x : Int32} {ρ : Type} {o : ρ} {f : St → Option ρ} (hd : decode cc pc = .ok (.iastore, 1)) (h : ast σ 22 300 i x f = some o) (k : ∀ σ2, f σ2 = some o → J K (wX g) nL Q (pc + 1) lv (st) σ2) : J K (wX g) nL Q (pc) lv (.int x :: .int i :: .ref (g.1 28) :: st) σ := by
  obtain ⟨p, l, e, R, s, m, args, below, meth, c, D, A⟩ := K
  obtain ⟨hx, hb, hml, hown, hts, hK, hA, hSF, hR, hr, hlk⟩ := hC
  obtain ⟨hin, h⟩ := ast_some h
  exact fun H locs ls hl hP hD hS => va_iast hx hb hK hP hD hS 28 0 rfl rfl hin hd (fun H locs hP hD hS => k _ h H locs ls hl hP hD hS)
theorem ald_X2_best {K : Kx} {cc : ByteArray} {own : String} {g : Gm} {nL d : Nat} {ret : Option FieldType} {Q : State → Prop} {pc : Nat} {lv : List (Nat × Value)} {st : List Value} {σ : St} (hC : Ok K cc own g nL d ret) {i : Int32} {ρ : Type} {o : ρ} {f : Int32 → Option ρ} (hd : decode cc pc = .ok (.iaload, 1)) (h : ald σ 23 4 i f = some o) (k : ∀ v, f v = some o → J K (wX g) nL Q (pc + 1) lv (.int v :: st) σ) : J K (wX g) nL Q (pc) lv (.int i :: .ref (g.1 30) :: st) σ := by
  obtain ⟨p, l, e, R, s, m, args, below, meth, c, D, A⟩ := K
  obtain ⟨hx, hb, hml, hown, hts, hK, hA, hSF, hR, hr, hlk⟩ := hC
  obtain ⟨hin, h⟩ := ald_some h
  exact fun H locs ls hl hP hD hS => va_iald hx hb hK hP 30 0 rfl rfl hin hd (k _ h H locs ls hl hP hD hS)
theorem ast_X2_best {K : Kx} {cc : ByteArray} {own : String} {g : Gm} {nL d : Nat} {ret : Option FieldType} {Q : State → Prop} {pc : Nat} {lv : List (Nat × Value)} {st : List Value} {σ : St} (hC : Ok K cc own g nL d ret) {i x : Int32} {ρ : Type} {o : ρ} {f : St → Option ρ} (hd : decode cc pc = .ok (.iastore, 1)) (h : ast σ 23 4 i x f = some o) (k : ∀ σ2, f σ2 = some o → J K (wX g) nL Q (pc + 1) lv (st) σ2) : J K (wX g) nL Q (pc) lv (.int x :: .int i :: .ref (g.1 30) :: st) σ := by
  obtain ⟨p, l, e, R, s, m, args, below, meth, c, D, A⟩ := K
  obtain ⟨hx, hb, hml, hown, hts, hK, hA, hSF, hR, hr, hlk⟩ := hC
  obtain ⟨hin, h⟩ := ast_some h
  exact fun H locs ls hl hP hD hS => va_iast hx hb hK hP hD hS 30 0 rfl rfl hin hd (fun H locs hP hD hS => k _ h H locs ls hl hP hD hS)
theorem ald_X2_row {K : Kx} {cc : ByteArray} {own : String} {g : Gm} {nL d : Nat} {ret : Option FieldType} {Q : State → Prop} {pc : Nat} {lv : List (Nat × Value)} {st : List Value} {σ : St} (hC : Ok K cc own g nL d ret) {i : Int32} {ρ : Type} {o : ρ} {f : Int32 → Option ρ} (hd : decode cc pc = .ok (.iaload, 1)) (h : ald σ 24 4 i f = some o) (k : ∀ v, f v = some o → J K (wX g) nL Q (pc + 1) lv (.int v :: st) σ) : J K (wX g) nL Q (pc) lv (.int i :: .ref (g.1 31) :: st) σ := by
  obtain ⟨p, l, e, R, s, m, args, below, meth, c, D, A⟩ := K
  obtain ⟨hx, hb, hml, hown, hts, hK, hA, hSF, hR, hr, hlk⟩ := hC
  obtain ⟨hin, h⟩ := ald_some h
  exact fun H locs ls hl hP hD hS => va_iald hx hb hK hP 31 0 rfl rfl hin hd (k _ h H locs ls hl hP hD hS)
theorem ast_X2_row {K : Kx} {cc : ByteArray} {own : String} {g : Gm} {nL d : Nat} {ret : Option FieldType} {Q : State → Prop} {pc : Nat} {lv : List (Nat × Value)} {st : List Value} {σ : St} (hC : Ok K cc own g nL d ret) {i x : Int32} {ρ : Type} {o : ρ} {f : St → Option ρ} (hd : decode cc pc = .ok (.iastore, 1)) (h : ast σ 24 4 i x f = some o) (k : ∀ σ2, f σ2 = some o → J K (wX g) nL Q (pc + 1) lv (st) σ2) : J K (wX g) nL Q (pc) lv (.int x :: .int i :: .ref (g.1 31) :: st) σ := by
  obtain ⟨p, l, e, R, s, m, args, below, meth, c, D, A⟩ := K
  obtain ⟨hx, hb, hml, hown, hts, hK, hA, hSF, hR, hr, hlk⟩ := hC
  obtain ⟨hin, h⟩ := ast_some h
  exact fun H locs ls hl hP hD hS => va_iast hx hb hK hP hD hS 31 0 rfl rfl hin hd (fun H locs hP hD hS => k _ h H locs ls hl hP hD hS)
theorem ald_X2_heat {K : Kx} {cc : ByteArray} {own : String} {g : Gm} {nL d : Nat} {ret : Option FieldType} {Q : State → Prop} {pc : Nat} {lv : List (Nat × Value)} {st : List Value} {σ : St} (hC : Ok K cc own g nL d ret) {i : Int32} {ρ : Type} {o : ρ} {f : Int32 → Option ρ} (hd : decode cc pc = .ok (.iaload, 1)) (h : ald σ 25 24 i f = some o) (k : ∀ v, f v = some o → J K (wX g) nL Q (pc + 1) lv (.int v :: st) σ) : J K (wX g) nL Q (pc) lv (.int i :: .ref (g.1 32) :: st) σ := by
  obtain ⟨p, l, e, R, s, m, args, below, meth, c, D, A⟩ := K
  obtain ⟨hx, hb, hml, hown, hts, hK, hA, hSF, hR, hr, hlk⟩ := hC
  obtain ⟨hin, h⟩ := ald_some h
  exact fun H locs ls hl hP hD hS => va_iald hx hb hK hP 32 0 rfl rfl hin hd (k _ h H locs ls hl hP hD hS)
theorem ast_X2_heat {K : Kx} {cc : ByteArray} {own : String} {g : Gm} {nL d : Nat} {ret : Option FieldType} {Q : State → Prop} {pc : Nat} {lv : List (Nat × Value)} {st : List Value} {σ : St} (hC : Ok K cc own g nL d ret) {i x : Int32} {ρ : Type} {o : ρ} {f : St → Option ρ} (hd : decode cc pc = .ok (.iastore, 1)) (h : ast σ 25 24 i x f = some o) (k : ∀ σ2, f σ2 = some o → J K (wX g) nL Q (pc + 1) lv (st) σ2) : J K (wX g) nL Q (pc) lv (.int x :: .int i :: .ref (g.1 32) :: st) σ := by
  obtain ⟨p, l, e, R, s, m, args, below, meth, c, D, A⟩ := K
  obtain ⟨hx, hb, hml, hown, hts, hK, hA, hSF, hR, hr, hlk⟩ := hC
  obtain ⟨hin, h⟩ := ast_some h
  exact fun H locs ls hl hP hD hS => va_iast hx hb hK hP hD hS 32 0 rfl rfl hin hd (fun H locs hP hD hS => k _ h H locs ls hl hP hD hS)
theorem ald_X2_songFree {K : Kx} {cc : ByteArray} {own : String} {g : Gm} {nL d : Nat} {ret : Option FieldType} {Q : State → Prop} {pc : Nat} {lv : List (Nat × Value)} {st : List Value} {σ : St} (hC : Ok K cc own g nL d ret) {i : Int32} {ρ : Type} {o : ρ} {f : Int32 → Option ρ} (hd : decode cc pc = .ok (.iaload, 1)) (h : ald σ 26 24 i f = some o) (k : ∀ v, f v = some o → J K (wX g) nL Q (pc + 1) lv (.int v :: st) σ) : J K (wX g) nL Q (pc) lv (.int i :: .ref (g.1 33) :: st) σ := by
  obtain ⟨p, l, e, R, s, m, args, below, meth, c, D, A⟩ := K
  obtain ⟨hx, hb, hml, hown, hts, hK, hA, hSF, hR, hr, hlk⟩ := hC
  obtain ⟨hin, h⟩ := ald_some h
  exact fun H locs ls hl hP hD hS => va_iald hx hb hK hP 33 0 rfl rfl hin hd (k _ h H locs ls hl hP hD hS)
theorem ast_X2_songFree {K : Kx} {cc : ByteArray} {own : String} {g : Gm} {nL d : Nat} {ret : Option FieldType} {Q : State → Prop} {pc : Nat} {lv : List (Nat × Value)} {st : List Value} {σ : St} (hC : Ok K cc own g nL d ret) {i x : Int32} {ρ : Type} {o : ρ} {f : St → Option ρ} (hd : decode cc pc = .ok (.iastore, 1)) (h : ast σ 26 24 i x f = some o) (k : ∀ σ2, f σ2 = some o → J K (wX g) nL Q (pc + 1) lv (st) σ2) : J K (wX g) nL Q (pc) lv (.int x :: .int i :: .ref (g.1 33) :: st) σ := by
  obtain ⟨p, l, e, R, s, m, args, below, meth, c, D, A⟩ := K
  obtain ⟨hx, hb, hml, hown, hts, hK, hA, hSF, hR, hr, hlk⟩ := hC
  obtain ⟨hin, h⟩ := ast_some h
  exact fun H locs ls hl hP hD hS => va_iast hx hb hK hP hD hS 33 0 rfl rfl hin hd (fun H locs hP hD hS => k _ h H locs ls hl hP hD hS)
theorem ald_X2_artistFree {K : Kx} {cc : ByteArray} {own : String} {g : Gm} {nL d : Nat} {ret : Option FieldType} {Q : State → Prop} {pc : Nat} {lv : List (Nat × Value)} {st : List Value} {σ : St} (hC : Ok K cc own g nL d ret) {i : Int32} {ρ : Type} {o : ρ} {f : Int32 → Option ρ} (hd : decode cc pc = .ok (.iaload, 1)) (h : ald σ 27 12 i f = some o) (k : ∀ v, f v = some o → J K (wX g) nL Q (pc + 1) lv (.int v :: st) σ) : J K (wX g) nL Q (pc) lv (.int i :: .ref (g.1 34) :: st) σ := by
  obtain ⟨p, l, e, R, s, m, args, below, meth, c, D, A⟩ := K
  obtain ⟨hx, hb, hml, hown, hts, hK, hA, hSF, hR, hr, hlk⟩ := hC
  obtain ⟨hin, h⟩ := ald_some h
  exact fun H locs ls hl hP hD hS => va_iald hx hb hK hP 34 0 rfl rfl hin hd (k _ h H locs ls hl hP hD hS)
theorem ast_X2_artistFree {K : Kx} {cc : ByteArray} {own : String} {g : Gm} {nL d : Nat} {ret : Option FieldType} {Q : State → Prop} {pc : Nat} {lv : List (Nat × Value)} {st : List Value} {σ : St} (hC : Ok K cc own g nL d ret) {i x : Int32} {ρ : Type} {o : ρ} {f : St → Option ρ} (hd : decode cc pc = .ok (.iastore, 1)) (h : ast σ 27 12 i x f = some o) (k : ∀ σ2, f σ2 = some o → J K (wX g) nL Q (pc + 1) lv (st) σ2) : J K (wX g) nL Q (pc) lv (.int x :: .int i :: .ref (g.1 34) :: st) σ := by
  obtain ⟨p, l, e, R, s, m, args, below, meth, c, D, A⟩ := K
  obtain ⟨hx, hb, hml, hown, hts, hK, hA, hSF, hR, hr, hlk⟩ := hC
  obtain ⟨hin, h⟩ := ast_some h
  exact fun H locs ls hl hP hD hS => va_iast hx hb hK hP hD hS 34 0 rfl rfl hin hd (fun H locs hP hD hS => k _ h H locs ls hl hP hD hS)
theorem ald_X2_pool {K : Kx} {cc : ByteArray} {own : String} {g : Gm} {nL d : Nat} {ret : Option FieldType} {Q : State → Prop} {pc : Nat} {lv : List (Nat × Value)} {st : List Value} {σ : St} (hC : Ok K cc own g nL d ret) {i : Int32} {ρ : Type} {o : ρ} {f : Int32 → Option ρ} (hd : decode cc pc = .ok (.iaload, 1)) (h : ald σ 28 24 i f = some o) (k : ∀ v, f v = some o → J K (wX g) nL Q (pc + 1) lv (.int v :: st) σ) : J K (wX g) nL Q (pc) lv (.int i :: .ref (g.1 35) :: st) σ := by
  obtain ⟨p, l, e, R, s, m, args, below, meth, c, D, A⟩ := K
  obtain ⟨hx, hb, hml, hown, hts, hK, hA, hSF, hR, hr, hlk⟩ := hC
  obtain ⟨hin, h⟩ := ald_some h
  exact fun H locs ls hl hP hD hS => va_iald hx hb hK hP 35 0 rfl rfl hin hd (k _ h H locs ls hl hP hD hS)
theorem ast_X2_pool {K : Kx} {cc : ByteArray} {own : String} {g : Gm} {nL d : Nat} {ret : Option FieldType} {Q : State → Prop} {pc : Nat} {lv : List (Nat × Value)} {st : List Value} {σ : St} (hC : Ok K cc own g nL d ret) {i x : Int32} {ρ : Type} {o : ρ} {f : St → Option ρ} (hd : decode cc pc = .ok (.iastore, 1)) (h : ast σ 28 24 i x f = some o) (k : ∀ σ2, f σ2 = some o → J K (wX g) nL Q (pc + 1) lv (st) σ2) : J K (wX g) nL Q (pc) lv (.int x :: .int i :: .ref (g.1 35) :: st) σ := by
  obtain ⟨p, l, e, R, s, m, args, below, meth, c, D, A⟩ := K
  obtain ⟨hx, hb, hml, hown, hts, hK, hA, hSF, hR, hr, hlk⟩ := hC
  obtain ⟨hin, h⟩ := ast_some h
  exact fun H locs ls hl hP hD hS => va_iast hx hb hK hP hD hS 35 0 rfl rfl hin hd (fun H locs hP hD hS => k _ h H locs ls hl hP hD hS)
theorem ald_X2_longestFirst {K : Kx} {cc : ByteArray} {own : String} {g : Gm} {nL d : Nat} {ret : Option FieldType} {Q : State → Prop} {pc : Nat} {lv : List (Nat × Value)} {st : List Value} {σ : St} (hC : Ok K cc own g nL d ret) {i : Int32} {ρ : Type} {o : ρ} {f : Int32 → Option ρ} (hd : decode cc pc = .ok (.iaload, 1)) (h : ald σ 29 24 i f = some o) (k : ∀ v, f v = some o → J K (wX g) nL Q (pc + 1) lv (.int v :: st) σ) : J K (wX g) nL Q (pc) lv (.int i :: .ref (g.1 36) :: st) σ := by
  obtain ⟨p, l, e, R, s, m, args, below, meth, c, D, A⟩ := K
  obtain ⟨hx, hb, hml, hown, hts, hK, hA, hSF, hR, hr, hlk⟩ := hC
  obtain ⟨hin, h⟩ := ald_some h
  exact fun H locs ls hl hP hD hS => va_iald hx hb hK hP 36 0 rfl rfl hin hd (k _ h H locs ls hl hP hD hS)
theorem ast_X2_longestFirst {K : Kx} {cc : ByteArray} {own : String} {g : Gm} {nL d : Nat} {ret : Option FieldType} {Q : State → Prop} {pc : Nat} {lv : List (Nat × Value)} {st : List Value} {σ : St} (hC : Ok K cc own g nL d ret) {i x : Int32} {ρ : Type} {o : ρ} {f : St → Option ρ} (hd : decode cc pc = .ok (.iastore, 1)) (h : ast σ 29 24 i x f = some o) (k : ∀ σ2, f σ2 = some o → J K (wX g) nL Q (pc + 1) lv (st) σ2) : J K (wX g) nL Q (pc) lv (.int x :: .int i :: .ref (g.1 36) :: st) σ := by
  obtain ⟨p, l, e, R, s, m, args, below, meth, c, D, A⟩ := K
  obtain ⟨hx, hb, hml, hown, hts, hK, hA, hSF, hR, hr, hlk⟩ := hC
  obtain ⟨hin, h⟩ := ast_some h
  exact fun H locs ls hl hP hD hS => va_iast hx hb hK hP hD hS 36 0 rfl rfl hin hd (fun H locs hP hD hS => k _ h H locs ls hl hP hD hS)
theorem ald_X7_tape {K : Kx} {cc : ByteArray} {own : String} {g : Gm} {nL d : Nat} {ret : Option FieldType} {Q : State → Prop} {pc : Nat} {lv : List (Nat × Value)} {st : List Value} {σ : St} (hC : Ok K cc own g nL d ret) {i : Int32} {ρ : Type} {o : ρ} {f : Int32 → Option ρ} (hd : decode cc pc = .ok (.iaload, 1)) (h : ald σ 0 260 i f = some o) (k : ∀ v, f v = some o → J K (wM g) nL Q (pc + 1) lv (.int v :: st) σ) : J K (wM g) nL Q (pc) lv (.int i :: .ref (g.1 1) :: st) σ := by
  obtain ⟨p, l, e, R, s, m, args, below, meth, c, D, A⟩ := K
  obtain ⟨hx, hb, hml, hown, hts, hK, hA, hSF, hR, hr, hlk⟩ := hC
  obtain ⟨hin, h⟩ := ald_some h
  exact fun H locs ls hl hP hD hS => va_iald hx hb hK hP 1 0 rfl rfl hin hd (k _ h H locs ls hl hP hD hS)
theorem ast_X7_tape {K : Kx} {cc : ByteArray} {own : String} {g : Gm} {nL d : Nat} {ret : Option FieldType} {Q : State → Prop} {pc : Nat} {lv : List (Nat × Value)} {st : List Value} {σ : St} (hC : Ok K cc own g nL d ret) {i x : Int32} {ρ : Type} {o : ρ} {f : St → Option ρ} (hd : decode cc pc = .ok (.iastore, 1)) (h : ast σ 0 260 i x f = some o) (k : ∀ σ2, f σ2 = some o → J K (wM g) nL Q (pc + 1) lv (st) σ2) : J K (wM g) nL Q (pc) lv (.int x :: .int i :: .ref (g.1 1) :: st) σ := by
  obtain ⟨p, l, e, R, s, m, args, below, meth, c, D, A⟩ := K
  obtain ⟨hx, hb, hml, hown, hts, hK, hA, hSF, hR, hr, hlk⟩ := hC
  obtain ⟨hin, h⟩ := ast_some h
  exact fun H locs ls hl hP hD hS => va_iast hx hb hK hP hD hS 1 0 rfl rfl hin hd (fun H locs hP hD hS => k _ h H locs ls hl hP hD hS)
theorem ald_X7_rule {K : Kx} {cc : ByteArray} {own : String} {g : Gm} {nL d : Nat} {ret : Option FieldType} {Q : State → Prop} {pc : Nat} {lv : List (Nat × Value)} {st : List Value} {σ : St} (hC : Ok K cc own g nL d ret) {i : Int32} {ρ : Type} {o : ρ} {f : Int32 → Option ρ} (hd : decode cc pc = .ok (.iaload, 1)) (h : ald σ 1 5 i f = some o) (k : ∀ v, f v = some o → J K (wM g) nL Q (pc + 1) lv (.int v :: st) σ) : J K (wM g) nL Q (pc) lv (.int i :: .ref (g.1 2) :: st) σ := by
  obtain ⟨p, l, e, R, s, m, args, below, meth, c, D, A⟩ := K
  obtain ⟨hx, hb, hml, hown, hts, hK, hA, hSF, hR, hr, hlk⟩ := hC
  obtain ⟨hin, h⟩ := ald_some h
  exact fun H locs ls hl hP hD hS => va_iald hx hb hK hP 2 0 rfl rfl hin hd (k _ h H locs ls hl hP hD hS)
theorem ast_X7_rule {K : Kx} {cc : ByteArray} {own : String} {g : Gm} {nL d : Nat} {ret : Option FieldType} {Q : State → Prop} {pc : Nat} {lv : List (Nat × Value)} {st : List Value} {σ : St} (hC : Ok K cc own g nL d ret) {i x : Int32} {ρ : Type} {o : ρ} {f : St → Option ρ} (hd : decode cc pc = .ok (.iastore, 1)) (h : ast σ 1 5 i x f = some o) (k : ∀ σ2, f σ2 = some o → J K (wM g) nL Q (pc + 1) lv (st) σ2) : J K (wM g) nL Q (pc) lv (.int x :: .int i :: .ref (g.1 2) :: st) σ := by
  obtain ⟨p, l, e, R, s, m, args, below, meth, c, D, A⟩ := K
  obtain ⟨hx, hb, hml, hown, hts, hK, hA, hSF, hR, hr, hlk⟩ := hC
  obtain ⟨hin, h⟩ := ast_some h
  exact fun H locs ls hl hP hD hS => va_iast hx hb hK hP hD hS 2 0 rfl rfl hin hd (fun H locs hP hD hS => k _ h H locs ls hl hP hD hS)
theorem ald_X7_usual {K : Kx} {cc : ByteArray} {own : String} {g : Gm} {nL d : Nat} {ret : Option FieldType} {Q : State → Prop} {pc : Nat} {lv : List (Nat × Value)} {st : List Value} {σ : St} (hC : Ok K cc own g nL d ret) {i : Int32} {ρ : Type} {o : ρ} {f : Int32 → Option ρ} (hd : decode cc pc = .ok (.iaload, 1)) (h : ald σ 2 5 i f = some o) (k : ∀ v, f v = some o → J K (wM g) nL Q (pc + 1) lv (.int v :: st) σ) : J K (wM g) nL Q (pc) lv (.int i :: .ref (g.1 3) :: st) σ := by
  obtain ⟨p, l, e, R, s, m, args, below, meth, c, D, A⟩ := K
  obtain ⟨hx, hb, hml, hown, hts, hK, hA, hSF, hR, hr, hlk⟩ := hC
  obtain ⟨hin, h⟩ := ald_some h
  exact fun H locs ls hl hP hD hS => va_iald hx hb hK hP 3 0 rfl rfl hin hd (k _ h H locs ls hl hP hD hS)
theorem ast_X7_usual {K : Kx} {cc : ByteArray} {own : String} {g : Gm} {nL d : Nat} {ret : Option FieldType} {Q : State → Prop} {pc : Nat} {lv : List (Nat × Value)} {st : List Value} {σ : St} (hC : Ok K cc own g nL d ret) {i x : Int32} {ρ : Type} {o : ρ} {f : St → Option ρ} (hd : decode cc pc = .ok (.iastore, 1)) (h : ast σ 2 5 i x f = some o) (k : ∀ σ2, f σ2 = some o → J K (wM g) nL Q (pc + 1) lv (st) σ2) : J K (wM g) nL Q (pc) lv (.int x :: .int i :: .ref (g.1 3) :: st) σ := by
  obtain ⟨p, l, e, R, s, m, args, below, meth, c, D, A⟩ := K
  obtain ⟨hx, hb, hml, hown, hts, hK, hA, hSF, hR, hr, hlk⟩ := hC
  obtain ⟨hin, h⟩ := ast_some h
  exact fun H locs ls hl hP hD hS => va_iast hx hb hK hP hD hS 3 0 rfl rfl hin hd (fun H locs hP hD hS => k _ h H locs ls hl hP hD hS)
theorem ald_X7_fresh {K : Kx} {cc : ByteArray} {own : String} {g : Gm} {nL d : Nat} {ret : Option FieldType} {Q : State → Prop} {pc : Nat} {lv : List (Nat × Value)} {st : List Value} {σ : St} (hC : Ok K cc own g nL d ret) {i : Int32} {ρ : Type} {o : ρ} {f : Int32 → Option ρ} (hd : decode cc pc = .ok (.iaload, 1)) (h : ald σ 3 5 i f = some o) (k : ∀ v, f v = some o → J K (wM g) nL Q (pc + 1) lv (.int v :: st) σ) : J K (wM g) nL Q (pc) lv (.int i :: .ref (g.1 4) :: st) σ := by
  obtain ⟨p, l, e, R, s, m, args, below, meth, c, D, A⟩ := K
  obtain ⟨hx, hb, hml, hown, hts, hK, hA, hSF, hR, hr, hlk⟩ := hC
  obtain ⟨hin, h⟩ := ald_some h
  exact fun H locs ls hl hP hD hS => va_iald hx hb hK hP 4 0 rfl rfl hin hd (k _ h H locs ls hl hP hD hS)
theorem ast_X7_fresh {K : Kx} {cc : ByteArray} {own : String} {g : Gm} {nL d : Nat} {ret : Option FieldType} {Q : State → Prop} {pc : Nat} {lv : List (Nat × Value)} {st : List Value} {σ : St} (hC : Ok K cc own g nL d ret) {i x : Int32} {ρ : Type} {o : ρ} {f : St → Option ρ} (hd : decode cc pc = .ok (.iastore, 1)) (h : ast σ 3 5 i x f = some o) (k : ∀ σ2, f σ2 = some o → J K (wM g) nL Q (pc + 1) lv (st) σ2) : J K (wM g) nL Q (pc) lv (.int x :: .int i :: .ref (g.1 4) :: st) σ := by
  obtain ⟨p, l, e, R, s, m, args, below, meth, c, D, A⟩ := K
  obtain ⟨hx, hb, hml, hown, hts, hK, hA, hSF, hR, hr, hlk⟩ := hC
  obtain ⟨hin, h⟩ := ast_some h
  exact fun H locs ls hl hP hD hS => va_iast hx hb hK hP hD hS 4 0 rfl rfl hin hd (fun H locs hP hD hS => k _ h H locs ls hl hP hD hS)
theorem ald_X7_low {K : Kx} {cc : ByteArray} {own : String} {g : Gm} {nL d : Nat} {ret : Option FieldType} {Q : State → Prop} {pc : Nat} {lv : List (Nat × Value)} {st : List Value} {σ : St} (hC : Ok K cc own g nL d ret) {i : Int32} {ρ : Type} {o : ρ} {f : Int32 → Option ρ} (hd : decode cc pc = .ok (.iaload, 1)) (h : ald σ 4 5 i f = some o) (k : ∀ v, f v = some o → J K (wM g) nL Q (pc + 1) lv (.int v :: st) σ) : J K (wM g) nL Q (pc) lv (.int i :: .ref (g.1 5) :: st) σ := by
  obtain ⟨p, l, e, R, s, m, args, below, meth, c, D, A⟩ := K
  obtain ⟨hx, hb, hml, hown, hts, hK, hA, hSF, hR, hr, hlk⟩ := hC
  obtain ⟨hin, h⟩ := ald_some h
  exact fun H locs ls hl hP hD hS => va_iald hx hb hK hP 5 0 rfl rfl hin hd (k _ h H locs ls hl hP hD hS)
theorem ast_X7_low {K : Kx} {cc : ByteArray} {own : String} {g : Gm} {nL d : Nat} {ret : Option FieldType} {Q : State → Prop} {pc : Nat} {lv : List (Nat × Value)} {st : List Value} {σ : St} (hC : Ok K cc own g nL d ret) {i x : Int32} {ρ : Type} {o : ρ} {f : St → Option ρ} (hd : decode cc pc = .ok (.iastore, 1)) (h : ast σ 4 5 i x f = some o) (k : ∀ σ2, f σ2 = some o → J K (wM g) nL Q (pc + 1) lv (st) σ2) : J K (wM g) nL Q (pc) lv (.int x :: .int i :: .ref (g.1 5) :: st) σ := by
  obtain ⟨p, l, e, R, s, m, args, below, meth, c, D, A⟩ := K
  obtain ⟨hx, hb, hml, hown, hts, hK, hA, hSF, hR, hr, hlk⟩ := hC
  obtain ⟨hin, h⟩ := ast_some h
  exact fun H locs ls hl hP hD hS => va_iast hx hb hK hP hD hS 5 0 rfl rfl hin hd (fun H locs hP hD hS => k _ h H locs ls hl hP hD hS)
theorem ald_X7_high {K : Kx} {cc : ByteArray} {own : String} {g : Gm} {nL d : Nat} {ret : Option FieldType} {Q : State → Prop} {pc : Nat} {lv : List (Nat × Value)} {st : List Value} {σ : St} (hC : Ok K cc own g nL d ret) {i : Int32} {ρ : Type} {o : ρ} {f : Int32 → Option ρ} (hd : decode cc pc = .ok (.iaload, 1)) (h : ald σ 5 5 i f = some o) (k : ∀ v, f v = some o → J K (wM g) nL Q (pc + 1) lv (.int v :: st) σ) : J K (wM g) nL Q (pc) lv (.int i :: .ref (g.1 6) :: st) σ := by
  obtain ⟨p, l, e, R, s, m, args, below, meth, c, D, A⟩ := K
  obtain ⟨hx, hb, hml, hown, hts, hK, hA, hSF, hR, hr, hlk⟩ := hC
  obtain ⟨hin, h⟩ := ald_some h
  exact fun H locs ls hl hP hD hS => va_iald hx hb hK hP 6 0 rfl rfl hin hd (k _ h H locs ls hl hP hD hS)
theorem ast_X7_high {K : Kx} {cc : ByteArray} {own : String} {g : Gm} {nL d : Nat} {ret : Option FieldType} {Q : State → Prop} {pc : Nat} {lv : List (Nat × Value)} {st : List Value} {σ : St} (hC : Ok K cc own g nL d ret) {i x : Int32} {ρ : Type} {o : ρ} {f : St → Option ρ} (hd : decode cc pc = .ok (.iastore, 1)) (h : ast σ 5 5 i x f = some o) (k : ∀ σ2, f σ2 = some o → J K (wM g) nL Q (pc + 1) lv (st) σ2) : J K (wM g) nL Q (pc) lv (.int x :: .int i :: .ref (g.1 6) :: st) σ := by
  obtain ⟨p, l, e, R, s, m, args, below, meth, c, D, A⟩ := K
  obtain ⟨hx, hb, hml, hown, hts, hK, hA, hSF, hR, hr, hlk⟩ := hC
  obtain ⟨hin, h⟩ := ast_some h
  exact fun H locs ls hl hP hD hS => va_iast hx hb hK hP hD hS 6 0 rfl rfl hin hd (fun H locs hP hD hS => k _ h H locs ls hl hP hD hS)
theorem ald_X7_many {K : Kx} {cc : ByteArray} {own : String} {g : Gm} {nL d : Nat} {ret : Option FieldType} {Q : State → Prop} {pc : Nat} {lv : List (Nat × Value)} {st : List Value} {σ : St} (hC : Ok K cc own g nL d ret) {i : Int32} {ρ : Type} {o : ρ} {f : Int32 → Option ρ} (hd : decode cc pc = .ok (.iaload, 1)) (h : ald σ 6 7 i f = some o) (k : ∀ v, f v = some o → J K (wM g) nL Q (pc + 1) lv (.int v :: st) σ) : J K (wM g) nL Q (pc) lv (.int i :: .ref (g.1 7) :: st) σ := by
  obtain ⟨p, l, e, R, s, m, args, below, meth, c, D, A⟩ := K
  obtain ⟨hx, hb, hml, hown, hts, hK, hA, hSF, hR, hr, hlk⟩ := hC
  obtain ⟨hin, h⟩ := ald_some h
  exact fun H locs ls hl hP hD hS => va_iald hx hb hK hP 7 0 rfl rfl hin hd (k _ h H locs ls hl hP hD hS)
theorem ast_X7_many {K : Kx} {cc : ByteArray} {own : String} {g : Gm} {nL d : Nat} {ret : Option FieldType} {Q : State → Prop} {pc : Nat} {lv : List (Nat × Value)} {st : List Value} {σ : St} (hC : Ok K cc own g nL d ret) {i x : Int32} {ρ : Type} {o : ρ} {f : St → Option ρ} (hd : decode cc pc = .ok (.iastore, 1)) (h : ast σ 6 7 i x f = some o) (k : ∀ σ2, f σ2 = some o → J K (wM g) nL Q (pc + 1) lv (st) σ2) : J K (wM g) nL Q (pc) lv (.int x :: .int i :: .ref (g.1 7) :: st) σ := by
  obtain ⟨p, l, e, R, s, m, args, below, meth, c, D, A⟩ := K
  obtain ⟨hx, hb, hml, hown, hts, hK, hA, hSF, hR, hr, hlk⟩ := hC
  obtain ⟨hin, h⟩ := ast_some h
  exact fun H locs ls hl hP hD hS => va_iast hx hb hK hP hD hS 7 0 rfl rfl hin hd (fun H locs hP hD hS => k _ h H locs ls hl hP hD hS)
theorem ald_X7_seconds {K : Kx} {cc : ByteArray} {own : String} {g : Gm} {nL d : Nat} {ret : Option FieldType} {Q : State → Prop} {pc : Nat} {lv : List (Nat × Value)} {st : List Value} {σ : St} (hC : Ok K cc own g nL d ret) {i : Int32} {ρ : Type} {o : ρ} {f : Int32 → Option ρ} (hd : decode cc pc = .ok (.iaload, 1)) (h : ald σ 7 56 i f = some o) (k : ∀ v, f v = some o → J K (wM g) nL Q (pc + 1) lv (.int v :: st) σ) : J K (wM g) nL Q (pc) lv (.int i :: .ref (g.1 8) :: st) σ := by
  obtain ⟨p, l, e, R, s, m, args, below, meth, c, D, A⟩ := K
  obtain ⟨hx, hb, hml, hown, hts, hK, hA, hSF, hR, hr, hlk⟩ := hC
  obtain ⟨hin, h⟩ := ald_some h
  exact fun H locs ls hl hP hD hS => va_iald hx hb hK hP 8 0 rfl rfl hin hd (k _ h H locs ls hl hP hD hS)
theorem ast_X7_seconds {K : Kx} {cc : ByteArray} {own : String} {g : Gm} {nL d : Nat} {ret : Option FieldType} {Q : State → Prop} {pc : Nat} {lv : List (Nat × Value)} {st : List Value} {σ : St} (hC : Ok K cc own g nL d ret) {i x : Int32} {ρ : Type} {o : ρ} {f : St → Option ρ} (hd : decode cc pc = .ok (.iastore, 1)) (h : ast σ 7 56 i x f = some o) (k : ∀ σ2, f σ2 = some o → J K (wM g) nL Q (pc + 1) lv (st) σ2) : J K (wM g) nL Q (pc) lv (.int x :: .int i :: .ref (g.1 8) :: st) σ := by
  obtain ⟨p, l, e, R, s, m, args, below, meth, c, D, A⟩ := K
  obtain ⟨hx, hb, hml, hown, hts, hK, hA, hSF, hR, hr, hlk⟩ := hC
  obtain ⟨hin, h⟩ := ast_some h
  exact fun H locs ls hl hP hD hS => va_iast hx hb hK hP hD hS 8 0 rfl rfl hin hd (fun H locs hP hD hS => k _ h H locs ls hl hP hD hS)
theorem ald_X7_mood {K : Kx} {cc : ByteArray} {own : String} {g : Gm} {nL d : Nat} {ret : Option FieldType} {Q : State → Prop} {pc : Nat} {lv : List (Nat × Value)} {st : List Value} {σ : St} (hC : Ok K cc own g nL d ret) {i : Int32} {ρ : Type} {o : ρ} {f : Int32 → Option ρ} (hd : decode cc pc = .ok (.iaload, 1)) (h : ald σ 8 56 i f = some o) (k : ∀ v, f v = some o → J K (wM g) nL Q (pc + 1) lv (.int v :: st) σ) : J K (wM g) nL Q (pc) lv (.int i :: .ref (g.1 9) :: st) σ := by
  obtain ⟨p, l, e, R, s, m, args, below, meth, c, D, A⟩ := K
  obtain ⟨hx, hb, hml, hown, hts, hK, hA, hSF, hR, hr, hlk⟩ := hC
  obtain ⟨hin, h⟩ := ald_some h
  exact fun H locs ls hl hP hD hS => va_iald hx hb hK hP 9 0 rfl rfl hin hd (k _ h H locs ls hl hP hD hS)
theorem ast_X7_mood {K : Kx} {cc : ByteArray} {own : String} {g : Gm} {nL d : Nat} {ret : Option FieldType} {Q : State → Prop} {pc : Nat} {lv : List (Nat × Value)} {st : List Value} {σ : St} (hC : Ok K cc own g nL d ret) {i x : Int32} {ρ : Type} {o : ρ} {f : St → Option ρ} (hd : decode cc pc = .ok (.iastore, 1)) (h : ast σ 8 56 i x f = some o) (k : ∀ σ2, f σ2 = some o → J K (wM g) nL Q (pc + 1) lv (st) σ2) : J K (wM g) nL Q (pc) lv (.int x :: .int i :: .ref (g.1 9) :: st) σ := by
  obtain ⟨p, l, e, R, s, m, args, below, meth, c, D, A⟩ := K
  obtain ⟨hx, hb, hml, hown, hts, hK, hA, hSF, hR, hr, hlk⟩ := hC
  obtain ⟨hin, h⟩ := ast_some h
  exact fun H locs ls hl hP hD hS => va_iast hx hb hK hP hD hS 9 0 rfl rfl hin hd (fun H locs hP hD hS => k _ h H locs ls hl hP hD hS)
theorem ald_X7_fresh0 {K : Kx} {cc : ByteArray} {own : String} {g : Gm} {nL d : Nat} {ret : Option FieldType} {Q : State → Prop} {pc : Nat} {lv : List (Nat × Value)} {st : List Value} {σ : St} (hC : Ok K cc own g nL d ret) {i : Int32} {ρ : Type} {o : ρ} {f : Int32 → Option ρ} (hd : decode cc pc = .ok (.iaload, 1)) (h : ald σ 9 56 i f = some o) (k : ∀ v, f v = some o → J K (wM g) nL Q (pc + 1) lv (.int v :: st) σ) : J K (wM g) nL Q (pc) lv (.int i :: .ref (g.1 10) :: st) σ := by
  obtain ⟨p, l, e, R, s, m, args, below, meth, c, D, A⟩ := K
  obtain ⟨hx, hb, hml, hown, hts, hK, hA, hSF, hR, hr, hlk⟩ := hC
  obtain ⟨hin, h⟩ := ald_some h
  exact fun H locs ls hl hP hD hS => va_iald hx hb hK hP 10 0 rfl rfl hin hd (k _ h H locs ls hl hP hD hS)
theorem ast_X7_fresh0 {K : Kx} {cc : ByteArray} {own : String} {g : Gm} {nL d : Nat} {ret : Option FieldType} {Q : State → Prop} {pc : Nat} {lv : List (Nat × Value)} {st : List Value} {σ : St} (hC : Ok K cc own g nL d ret) {i x : Int32} {ρ : Type} {o : ρ} {f : St → Option ρ} (hd : decode cc pc = .ok (.iastore, 1)) (h : ast σ 9 56 i x f = some o) (k : ∀ σ2, f σ2 = some o → J K (wM g) nL Q (pc + 1) lv (st) σ2) : J K (wM g) nL Q (pc) lv (.int x :: .int i :: .ref (g.1 10) :: st) σ := by
  obtain ⟨p, l, e, R, s, m, args, below, meth, c, D, A⟩ := K
  obtain ⟨hx, hb, hml, hown, hts, hK, hA, hSF, hR, hr, hlk⟩ := hC
  obtain ⟨hin, h⟩ := ast_some h
  exact fun H locs ls hl hP hD hS => va_iast hx hb hK hP hD hS 10 0 rfl rfl hin hd (fun H locs hP hD hS => k _ h H locs ls hl hP hD hS)
theorem ald_X7_lasts {K : Kx} {cc : ByteArray} {own : String} {g : Gm} {nL d : Nat} {ret : Option FieldType} {Q : State → Prop} {pc : Nat} {lv : List (Nat × Value)} {st : List Value} {σ : St} (hC : Ok K cc own g nL d ret) {i : Int32} {ρ : Type} {o : ρ} {f : Int32 → Option ρ} (hd : decode cc pc = .ok (.iaload, 1)) (h : ald σ 10 24 i f = some o) (k : ∀ v, f v = some o → J K (wM g) nL Q (pc + 1) lv (.int v :: st) σ) : J K (wM g) nL Q (pc) lv (.int i :: .ref (g.1 11) :: st) σ := by
  obtain ⟨p, l, e, R, s, m, args, below, meth, c, D, A⟩ := K
  obtain ⟨hx, hb, hml, hown, hts, hK, hA, hSF, hR, hr, hlk⟩ := hC
  obtain ⟨hin, h⟩ := ald_some h
  exact fun H locs ls hl hP hD hS => va_iald hx hb hK hP 11 0 rfl rfl hin hd (k _ h H locs ls hl hP hD hS)
theorem ast_X7_lasts {K : Kx} {cc : ByteArray} {own : String} {g : Gm} {nL d : Nat} {ret : Option FieldType} {Q : State → Prop} {pc : Nat} {lv : List (Nat × Value)} {st : List Value} {σ : St} (hC : Ok K cc own g nL d ret) {i x : Int32} {ρ : Type} {o : ρ} {f : St → Option ρ} (hd : decode cc pc = .ok (.iastore, 1)) (h : ast σ 10 24 i x f = some o) (k : ∀ σ2, f σ2 = some o → J K (wM g) nL Q (pc + 1) lv (st) σ2) : J K (wM g) nL Q (pc) lv (.int x :: .int i :: .ref (g.1 11) :: st) σ := by
  obtain ⟨p, l, e, R, s, m, args, below, meth, c, D, A⟩ := K
  obtain ⟨hx, hb, hml, hown, hts, hK, hA, hSF, hR, hr, hlk⟩ := hC
  obtain ⟨hin, h⟩ := ast_some h
  exact fun H locs ls hl hP hD hS => va_iast hx hb hK hP hD hS 11 0 rfl rfl hin hd (fun H locs hP hD hS => k _ h H locs ls hl hP hD hS)
theorem ald_X7_artist {K : Kx} {cc : ByteArray} {own : String} {g : Gm} {nL d : Nat} {ret : Option FieldType} {Q : State → Prop} {pc : Nat} {lv : List (Nat × Value)} {st : List Value} {σ : St} (hC : Ok K cc own g nL d ret) {i : Int32} {ρ : Type} {o : ρ} {f : Int32 → Option ρ} (hd : decode cc pc = .ok (.iaload, 1)) (h : ald σ 11 24 i f = some o) (k : ∀ v, f v = some o → J K (wM g) nL Q (pc + 1) lv (.int v :: st) σ) : J K (wM g) nL Q (pc) lv (.int i :: .ref (g.1 12) :: st) σ := by
  obtain ⟨p, l, e, R, s, m, args, below, meth, c, D, A⟩ := K
  obtain ⟨hx, hb, hml, hown, hts, hK, hA, hSF, hR, hr, hlk⟩ := hC
  obtain ⟨hin, h⟩ := ald_some h
  exact fun H locs ls hl hP hD hS => va_iald hx hb hK hP 12 0 rfl rfl hin hd (k _ h H locs ls hl hP hD hS)
theorem ast_X7_artist {K : Kx} {cc : ByteArray} {own : String} {g : Gm} {nL d : Nat} {ret : Option FieldType} {Q : State → Prop} {pc : Nat} {lv : List (Nat × Value)} {st : List Value} {σ : St} (hC : Ok K cc own g nL d ret) {i x : Int32} {ρ : Type} {o : ρ} {f : St → Option ρ} (hd : decode cc pc = .ok (.iastore, 1)) (h : ast σ 11 24 i x f = some o) (k : ∀ σ2, f σ2 = some o → J K (wM g) nL Q (pc + 1) lv (st) σ2) : J K (wM g) nL Q (pc) lv (.int x :: .int i :: .ref (g.1 12) :: st) σ := by
  obtain ⟨p, l, e, R, s, m, args, below, meth, c, D, A⟩ := K
  obtain ⟨hx, hb, hml, hown, hts, hK, hA, hSF, hR, hr, hlk⟩ := hC
  obtain ⟨hin, h⟩ := ast_some h
  exact fun H locs ls hl hP hD hS => va_iast hx hb hK hP hD hS 12 0 rfl rfl hin hd (fun H locs hP hD hS => k _ h H locs ls hl hP hD hS)
theorem ald_X7_key {K : Kx} {cc : ByteArray} {own : String} {g : Gm} {nL d : Nat} {ret : Option FieldType} {Q : State → Prop} {pc : Nat} {lv : List (Nat × Value)} {st : List Value} {σ : St} (hC : Ok K cc own g nL d ret) {i : Int32} {ρ : Type} {o : ρ} {f : Int32 → Option ρ} (hd : decode cc pc = .ok (.iaload, 1)) (h : ald σ 12 24 i f = some o) (k : ∀ v, f v = some o → J K (wM g) nL Q (pc + 1) lv (.int v :: st) σ) : J K (wM g) nL Q (pc) lv (.int i :: .ref (g.1 13) :: st) σ := by
  obtain ⟨p, l, e, R, s, m, args, below, meth, c, D, A⟩ := K
  obtain ⟨hx, hb, hml, hown, hts, hK, hA, hSF, hR, hr, hlk⟩ := hC
  obtain ⟨hin, h⟩ := ald_some h
  exact fun H locs ls hl hP hD hS => va_iald hx hb hK hP 13 0 rfl rfl hin hd (k _ h H locs ls hl hP hD hS)
theorem ast_X7_key {K : Kx} {cc : ByteArray} {own : String} {g : Gm} {nL d : Nat} {ret : Option FieldType} {Q : State → Prop} {pc : Nat} {lv : List (Nat × Value)} {st : List Value} {σ : St} (hC : Ok K cc own g nL d ret) {i x : Int32} {ρ : Type} {o : ρ} {f : St → Option ρ} (hd : decode cc pc = .ok (.iastore, 1)) (h : ast σ 12 24 i x f = some o) (k : ∀ σ2, f σ2 = some o → J K (wM g) nL Q (pc + 1) lv (st) σ2) : J K (wM g) nL Q (pc) lv (.int x :: .int i :: .ref (g.1 13) :: st) σ := by
  obtain ⟨p, l, e, R, s, m, args, below, meth, c, D, A⟩ := K
  obtain ⟨hx, hb, hml, hown, hts, hK, hA, hSF, hR, hr, hlk⟩ := hC
  obtain ⟨hin, h⟩ := ast_some h
  exact fun H locs ls hl hP hD hS => va_iast hx hb hK hP hD hS 13 0 rfl rfl hin hd (fun H locs hP hD hS => k _ h H locs ls hl hP hD hS)
theorem ald_X7_songMood {K : Kx} {cc : ByteArray} {own : String} {g : Gm} {nL d : Nat} {ret : Option FieldType} {Q : State → Prop} {pc : Nat} {lv : List (Nat × Value)} {st : List Value} {σ : St} (hC : Ok K cc own g nL d ret) {i : Int32} {ρ : Type} {o : ρ} {f : Int32 → Option ρ} (hd : decode cc pc = .ok (.iaload, 1)) (h : ald σ 13 24 i f = some o) (k : ∀ v, f v = some o → J K (wM g) nL Q (pc + 1) lv (.int v :: st) σ) : J K (wM g) nL Q (pc) lv (.int i :: .ref (g.1 14) :: st) σ := by
  obtain ⟨p, l, e, R, s, m, args, below, meth, c, D, A⟩ := K
  obtain ⟨hx, hb, hml, hown, hts, hK, hA, hSF, hR, hr, hlk⟩ := hC
  obtain ⟨hin, h⟩ := ald_some h
  exact fun H locs ls hl hP hD hS => va_iald hx hb hK hP 14 0 rfl rfl hin hd (k _ h H locs ls hl hP hD hS)
theorem ast_X7_songMood {K : Kx} {cc : ByteArray} {own : String} {g : Gm} {nL d : Nat} {ret : Option FieldType} {Q : State → Prop} {pc : Nat} {lv : List (Nat × Value)} {st : List Value} {σ : St} (hC : Ok K cc own g nL d ret) {i x : Int32} {ρ : Type} {o : ρ} {f : St → Option ρ} (hd : decode cc pc = .ok (.iastore, 1)) (h : ast σ 13 24 i x f = some o) (k : ∀ σ2, f σ2 = some o → J K (wM g) nL Q (pc + 1) lv (st) σ2) : J K (wM g) nL Q (pc) lv (.int x :: .int i :: .ref (g.1 14) :: st) σ := by
  obtain ⟨p, l, e, R, s, m, args, below, meth, c, D, A⟩ := K
  obtain ⟨hx, hb, hml, hown, hts, hK, hA, hSF, hR, hr, hlk⟩ := hC
  obtain ⟨hin, h⟩ := ast_some h
  exact fun H locs ls hl hP hD hS => va_iast hx hb hK hP hD hS 14 0 rfl rfl hin hd (fun H locs hP hD hS => k _ h H locs ls hl hP hD hS)
theorem ald_X7_votes {K : Kx} {cc : ByteArray} {own : String} {g : Gm} {nL d : Nat} {ret : Option FieldType} {Q : State → Prop} {pc : Nat} {lv : List (Nat × Value)} {st : List Value} {σ : St} (hC : Ok K cc own g nL d ret) {i : Int32} {ρ : Type} {o : ρ} {f : Int32 → Option ρ} (hd : decode cc pc = .ok (.iaload, 1)) (h : ald σ 14 24 i f = some o) (k : ∀ v, f v = some o → J K (wM g) nL Q (pc + 1) lv (.int v :: st) σ) : J K (wM g) nL Q (pc) lv (.int i :: .ref (g.1 15) :: st) σ := by
  obtain ⟨p, l, e, R, s, m, args, below, meth, c, D, A⟩ := K
  obtain ⟨hx, hb, hml, hown, hts, hK, hA, hSF, hR, hr, hlk⟩ := hC
  obtain ⟨hin, h⟩ := ald_some h
  exact fun H locs ls hl hP hD hS => va_iald hx hb hK hP 15 0 rfl rfl hin hd (k _ h H locs ls hl hP hD hS)
theorem ast_X7_votes {K : Kx} {cc : ByteArray} {own : String} {g : Gm} {nL d : Nat} {ret : Option FieldType} {Q : State → Prop} {pc : Nat} {lv : List (Nat × Value)} {st : List Value} {σ : St} (hC : Ok K cc own g nL d ret) {i x : Int32} {ρ : Type} {o : ρ} {f : St → Option ρ} (hd : decode cc pc = .ok (.iastore, 1)) (h : ast σ 14 24 i x f = some o) (k : ∀ σ2, f σ2 = some o → J K (wM g) nL Q (pc + 1) lv (st) σ2) : J K (wM g) nL Q (pc) lv (.int x :: .int i :: .ref (g.1 15) :: st) σ := by
  obtain ⟨p, l, e, R, s, m, args, below, meth, c, D, A⟩ := K
  obtain ⟨hx, hb, hml, hown, hts, hK, hA, hSF, hR, hr, hlk⟩ := hC
  obtain ⟨hin, h⟩ := ast_some h
  exact fun H locs ls hl hP hD hS => va_iast hx hb hK hP hD hS 15 0 rfl rfl hin hd (fun H locs hP hD hS => k _ h H locs ls hl hP hD hS)
theorem ald_X7_open {K : Kx} {cc : ByteArray} {own : String} {g : Gm} {nL d : Nat} {ret : Option FieldType} {Q : State → Prop} {pc : Nat} {lv : List (Nat × Value)} {st : List Value} {σ : St} (hC : Ok K cc own g nL d ret) {i : Int32} {ρ : Type} {o : ρ} {f : Int32 → Option ρ} (hd : decode cc pc = .ok (.iaload, 1)) (h : ald σ 15 24 i f = some o) (k : ∀ v, f v = some o → J K (wM g) nL Q (pc + 1) lv (.int v :: st) σ) : J K (wM g) nL Q (pc) lv (.int i :: .ref (g.1 16) :: st) σ := by
  obtain ⟨p, l, e, R, s, m, args, below, meth, c, D, A⟩ := K
  obtain ⟨hx, hb, hml, hown, hts, hK, hA, hSF, hR, hr, hlk⟩ := hC
  obtain ⟨hin, h⟩ := ald_some h
  exact fun H locs ls hl hP hD hS => va_iald hx hb hK hP 16 0 rfl rfl hin hd (k _ h H locs ls hl hP hD hS)
theorem ast_X7_open {K : Kx} {cc : ByteArray} {own : String} {g : Gm} {nL d : Nat} {ret : Option FieldType} {Q : State → Prop} {pc : Nat} {lv : List (Nat × Value)} {st : List Value} {σ : St} (hC : Ok K cc own g nL d ret) {i x : Int32} {ρ : Type} {o : ρ} {f : St → Option ρ} (hd : decode cc pc = .ok (.iastore, 1)) (h : ast σ 15 24 i x f = some o) (k : ∀ σ2, f σ2 = some o → J K (wM g) nL Q (pc + 1) lv (st) σ2) : J K (wM g) nL Q (pc) lv (.int x :: .int i :: .ref (g.1 16) :: st) σ := by
  obtain ⟨p, l, e, R, s, m, args, below, meth, c, D, A⟩ := K
  obtain ⟨hx, hb, hml, hown, hts, hK, hA, hSF, hR, hr, hlk⟩ := hC
  obtain ⟨hin, h⟩ := ast_some h
  exact fun H locs ls hl hP hD hS => va_iast hx hb hK hP hD hS 16 0 rfl rfl hin hd (fun H locs hP hD hS => k _ h H locs ls hl hP hD hS)
theorem ald_X7_done {K : Kx} {cc : ByteArray} {own : String} {g : Gm} {nL d : Nat} {ret : Option FieldType} {Q : State → Prop} {pc : Nat} {lv : List (Nat × Value)} {st : List Value} {σ : St} (hC : Ok K cc own g nL d ret) {i : Int32} {ρ : Type} {o : ρ} {f : Int32 → Option ρ} (hd : decode cc pc = .ok (.iaload, 1)) (h : ald σ 16 24 i f = some o) (k : ∀ v, f v = some o → J K (wM g) nL Q (pc + 1) lv (.int v :: st) σ) : J K (wM g) nL Q (pc) lv (.int i :: .ref (g.1 17) :: st) σ := by
  obtain ⟨p, l, e, R, s, m, args, below, meth, c, D, A⟩ := K
  obtain ⟨hx, hb, hml, hown, hts, hK, hA, hSF, hR, hr, hlk⟩ := hC
  obtain ⟨hin, h⟩ := ald_some h
  exact fun H locs ls hl hP hD hS => va_iald hx hb hK hP 17 0 rfl rfl hin hd (k _ h H locs ls hl hP hD hS)
theorem ast_X7_done {K : Kx} {cc : ByteArray} {own : String} {g : Gm} {nL d : Nat} {ret : Option FieldType} {Q : State → Prop} {pc : Nat} {lv : List (Nat × Value)} {st : List Value} {σ : St} (hC : Ok K cc own g nL d ret) {i x : Int32} {ρ : Type} {o : ρ} {f : St → Option ρ} (hd : decode cc pc = .ok (.iastore, 1)) (h : ast σ 16 24 i x f = some o) (k : ∀ σ2, f σ2 = some o → J K (wM g) nL Q (pc + 1) lv (st) σ2) : J K (wM g) nL Q (pc) lv (.int x :: .int i :: .ref (g.1 17) :: st) σ := by
  obtain ⟨p, l, e, R, s, m, args, below, meth, c, D, A⟩ := K
  obtain ⟨hx, hb, hml, hown, hts, hK, hA, hSF, hR, hr, hlk⟩ := hC
  obtain ⟨hin, h⟩ := ast_some h
  exact fun H locs ls hl hP hD hS => va_iast hx hb hK hP hD hS 17 0 rfl rfl hin hd (fun H locs hP hD hS => k _ h H locs ls hl hP hD hS)
theorem ald_X7_vote {K : Kx} {cc : ByteArray} {own : String} {g : Gm} {nL d : Nat} {ret : Option FieldType} {Q : State → Prop} {pc : Nat} {lv : List (Nat × Value)} {st : List Value} {σ : St} (hC : Ok K cc own g nL d ret) {i : Int32} {ρ : Type} {o : ρ} {f : Int32 → Option ρ} (hd : decode cc pc = .ok (.iaload, 1)) (h : ald σ 17 240 i f = some o) (k : ∀ v, f v = some o → J K (wM g) nL Q (pc + 1) lv (.int v :: st) σ) : J K (wM g) nL Q (pc) lv (.int i :: .ref (g.1 18) :: st) σ := by
  obtain ⟨p, l, e, R, s, m, args, below, meth, c, D, A⟩ := K
  obtain ⟨hx, hb, hml, hown, hts, hK, hA, hSF, hR, hr, hlk⟩ := hC
  obtain ⟨hin, h⟩ := ald_some h
  exact fun H locs ls hl hP hD hS => va_iald hx hb hK hP 18 0 rfl rfl hin hd (k _ h H locs ls hl hP hD hS)
theorem ast_X7_vote {K : Kx} {cc : ByteArray} {own : String} {g : Gm} {nL d : Nat} {ret : Option FieldType} {Q : State → Prop} {pc : Nat} {lv : List (Nat × Value)} {st : List Value} {σ : St} (hC : Ok K cc own g nL d ret) {i x : Int32} {ρ : Type} {o : ρ} {f : St → Option ρ} (hd : decode cc pc = .ok (.iastore, 1)) (h : ast σ 17 240 i x f = some o) (k : ∀ σ2, f σ2 = some o → J K (wM g) nL Q (pc + 1) lv (st) σ2) : J K (wM g) nL Q (pc) lv (.int x :: .int i :: .ref (g.1 18) :: st) σ := by
  obtain ⟨p, l, e, R, s, m, args, below, meth, c, D, A⟩ := K
  obtain ⟨hx, hb, hml, hown, hts, hK, hA, hSF, hR, hr, hlk⟩ := hC
  obtain ⟨hin, h⟩ := ast_some h
  exact fun H locs ls hl hP hD hS => va_iast hx hb hK hP hD hS 18 0 rfl rfl hin hd (fun H locs hP hD hS => k _ h H locs ls hl hP hD hS)
theorem ald_X7_heat {K : Kx} {cc : ByteArray} {own : String} {g : Gm} {nL d : Nat} {ret : Option FieldType} {Q : State → Prop} {pc : Nat} {lv : List (Nat × Value)} {st : List Value} {σ : St} (hC : Ok K cc own g nL d ret) {i : Int32} {ρ : Type} {o : ρ} {f : Int32 → Option ρ} (hd : decode cc pc = .ok (.iaload, 1)) (h : ald σ 18 24 i f = some o) (k : ∀ v, f v = some o → J K (wM g) nL Q (pc + 1) lv (.int v :: st) σ) : J K (wM g) nL Q (pc) lv (.int i :: .ref (g.1 19) :: st) σ := by
  obtain ⟨p, l, e, R, s, m, args, below, meth, c, D, A⟩ := K
  obtain ⟨hx, hb, hml, hown, hts, hK, hA, hSF, hR, hr, hlk⟩ := hC
  obtain ⟨hin, h⟩ := ald_some h
  exact fun H locs ls hl hP hD hS => va_iald hx hb hK hP 19 0 rfl rfl hin hd (k _ h H locs ls hl hP hD hS)
theorem ast_X7_heat {K : Kx} {cc : ByteArray} {own : String} {g : Gm} {nL d : Nat} {ret : Option FieldType} {Q : State → Prop} {pc : Nat} {lv : List (Nat × Value)} {st : List Value} {σ : St} (hC : Ok K cc own g nL d ret) {i x : Int32} {ρ : Type} {o : ρ} {f : St → Option ρ} (hd : decode cc pc = .ok (.iastore, 1)) (h : ast σ 18 24 i x f = some o) (k : ∀ σ2, f σ2 = some o → J K (wM g) nL Q (pc + 1) lv (st) σ2) : J K (wM g) nL Q (pc) lv (.int x :: .int i :: .ref (g.1 19) :: st) σ := by
  obtain ⟨p, l, e, R, s, m, args, below, meth, c, D, A⟩ := K
  obtain ⟨hx, hb, hml, hown, hts, hK, hA, hSF, hR, hr, hlk⟩ := hC
  obtain ⟨hin, h⟩ := ast_some h
  exact fun H locs ls hl hP hD hS => va_iast hx hb hK hP hD hS 19 0 rfl rfl hin hd (fun H locs hP hD hS => k _ h H locs ls hl hP hD hS)
theorem ald_X7_isNew {K : Kx} {cc : ByteArray} {own : String} {g : Gm} {nL d : Nat} {ret : Option FieldType} {Q : State → Prop} {pc : Nat} {lv : List (Nat × Value)} {st : List Value} {σ : St} (hC : Ok K cc own g nL d ret) {i : Int32} {ρ : Type} {o : ρ} {f : Int32 → Option ρ} (hd : decode cc pc = .ok (.baload, 1)) (h : ald σ 19 24 i f = some o) (k : ∀ v, f v = some o → J K (wM g) nL Q (pc + 1) lv (.int v :: st) σ) : J K (wM g) nL Q (pc) lv (.int i :: .ref (g.1 20) :: st) σ := by
  obtain ⟨p, l, e, R, s, m, args, below, meth, c, D, A⟩ := K
  obtain ⟨hx, hb, hml, hown, hts, hK, hA, hSF, hR, hr, hlk⟩ := hC
  obtain ⟨hin, h⟩ := ald_some h
  exact fun H locs ls hl hP hD hS => va_zald hx hb hK hP 20 2 rfl rfl hin hd (k _ h H locs ls hl hP hD hS)
theorem ast_X7_isNew {K : Kx} {cc : ByteArray} {own : String} {g : Gm} {nL d : Nat} {ret : Option FieldType} {Q : State → Prop} {pc : Nat} {lv : List (Nat × Value)} {st : List Value} {σ : St} (hC : Ok K cc own g nL d ret) {i x : Int32} {ρ : Type} {o : ρ} {f : St → Option ρ} (hd : decode cc pc = .ok (.bastore, 1)) (h : ast σ 19 24 i (vp_nar .boolean x) f = some o) (k : ∀ σ2, f σ2 = some o → J K (wM g) nL Q (pc + 1) lv (st) σ2) : J K (wM g) nL Q (pc) lv (.int x :: .int i :: .ref (g.1 20) :: st) σ := by
  obtain ⟨p, l, e, R, s, m, args, below, meth, c, D, A⟩ := K
  obtain ⟨hx, hb, hml, hown, hts, hK, hA, hSF, hR, hr, hlk⟩ := hC
  obtain ⟨hin, h⟩ := ast_some h
  exact fun H locs ls hl hP hD hS => va_zast hx hb hK hP hD hS 20 2 rfl rfl hin hd (fun H locs hP hD hS => k _ h H locs ls hl hP hD hS)
theorem ald_X7_played {K : Kx} {cc : ByteArray} {own : String} {g : Gm} {nL d : Nat} {ret : Option FieldType} {Q : State → Prop} {pc : Nat} {lv : List (Nat × Value)} {st : List Value} {σ : St} (hC : Ok K cc own g nL d ret) {i : Int32} {ρ : Type} {o : ρ} {f : Int32 → Option ρ} (hd : decode cc pc = .ok (.iaload, 1)) (h : ald σ 20 300 i f = some o) (k : ∀ v, f v = some o → J K (wM g) nL Q (pc + 1) lv (.int v :: st) σ) : J K (wM g) nL Q (pc) lv (.int i :: .ref (g.1 21) :: st) σ := by
  obtain ⟨p, l, e, R, s, m, args, below, meth, c, D, A⟩ := K
  obtain ⟨hx, hb, hml, hown, hts, hK, hA, hSF, hR, hr, hlk⟩ := hC
  obtain ⟨hin, h⟩ := ald_some h
  exact fun H locs ls hl hP hD hS => va_iald hx hb hK hP 21 0 rfl rfl hin hd (k _ h H locs ls hl hP hD hS)
theorem ast_X7_played {K : Kx} {cc : ByteArray} {own : String} {g : Gm} {nL d : Nat} {ret : Option FieldType} {Q : State → Prop} {pc : Nat} {lv : List (Nat × Value)} {st : List Value} {σ : St} (hC : Ok K cc own g nL d ret) {i x : Int32} {ρ : Type} {o : ρ} {f : St → Option ρ} (hd : decode cc pc = .ok (.iastore, 1)) (h : ast σ 20 300 i x f = some o) (k : ∀ σ2, f σ2 = some o → J K (wM g) nL Q (pc + 1) lv (st) σ2) : J K (wM g) nL Q (pc) lv (.int x :: .int i :: .ref (g.1 21) :: st) σ := by
  obtain ⟨p, l, e, R, s, m, args, below, meth, c, D, A⟩ := K
  obtain ⟨hx, hb, hml, hown, hts, hK, hA, hSF, hR, hr, hlk⟩ := hC
  obtain ⟨hin, h⟩ := ast_some h
  exact fun H locs ls hl hP hD hS => va_iast hx hb hK hP hD hS 21 0 rfl rfl hin hd (fun H locs hP hD hS => k _ h H locs ls hl hP hD hS)
theorem ald_X7_began {K : Kx} {cc : ByteArray} {own : String} {g : Gm} {nL d : Nat} {ret : Option FieldType} {Q : State → Prop} {pc : Nat} {lv : List (Nat × Value)} {st : List Value} {σ : St} (hC : Ok K cc own g nL d ret) {i : Int32} {ρ : Type} {o : ρ} {f : Int32 → Option ρ} (hd : decode cc pc = .ok (.iaload, 1)) (h : ald σ 21 300 i f = some o) (k : ∀ v, f v = some o → J K (wM g) nL Q (pc + 1) lv (.int v :: st) σ) : J K (wM g) nL Q (pc) lv (.int i :: .ref (g.1 22) :: st) σ := by
  obtain ⟨p, l, e, R, s, m, args, below, meth, c, D, A⟩ := K
  obtain ⟨hx, hb, hml, hown, hts, hK, hA, hSF, hR, hr, hlk⟩ := hC
  obtain ⟨hin, h⟩ := ald_some h
  exact fun H locs ls hl hP hD hS => va_iald hx hb hK hP 22 0 rfl rfl hin hd (k _ h H locs ls hl hP hD hS)
theorem ast_X7_began {K : Kx} {cc : ByteArray} {own : String} {g : Gm} {nL d : Nat} {ret : Option FieldType} {Q : State → Prop} {pc : Nat} {lv : List (Nat × Value)} {st : List Value} {σ : St} (hC : Ok K cc own g nL d ret) {i x : Int32} {ρ : Type} {o : ρ} {f : St → Option ρ} (hd : decode cc pc = .ok (.iastore, 1)) (h : ast σ 21 300 i x f = some o) (k : ∀ σ2, f σ2 = some o → J K (wM g) nL Q (pc + 1) lv (st) σ2) : J K (wM g) nL Q (pc) lv (.int x :: .int i :: .ref (g.1 22) :: st) σ := by
  obtain ⟨p, l, e, R, s, m, args, below, meth, c, D, A⟩ := K
  obtain ⟨hx, hb, hml, hown, hts, hK, hA, hSF, hR, hr, hlk⟩ := hC
  obtain ⟨hin, h⟩ := ast_some h
  exact fun H locs ls hl hP hD hS => va_iast hx hb hK hP hD hS 22 0 rfl rfl hin hd (fun H locs hP hD hS => k _ h H locs ls hl hP hD hS)
theorem ald_X7_inItem {K : Kx} {cc : ByteArray} {own : String} {g : Gm} {nL d : Nat} {ret : Option FieldType} {Q : State → Prop} {pc : Nat} {lv : List (Nat × Value)} {st : List Value} {σ : St} (hC : Ok K cc own g nL d ret) {i : Int32} {ρ : Type} {o : ρ} {f : Int32 → Option ρ} (hd : decode cc pc = .ok (.iaload, 1)) (h : ald σ 22 300 i f = some o) (k : ∀ v, f v = some o → J K (wM g) nL Q (pc + 1) lv (.int v :: st) σ) : J K (wM g) nL Q (pc) lv (.int i :: .ref (g.1 23) :: st) σ := by
  obtain ⟨p, l, e, R, s, m, args, below, meth, c, D, A⟩ := K
  obtain ⟨hx, hb, hml, hown, hts, hK, hA, hSF, hR, hr, hlk⟩ := hC
  obtain ⟨hin, h⟩ := ald_some h
  exact fun H locs ls hl hP hD hS => va_iald hx hb hK hP 23 0 rfl rfl hin hd (k _ h H locs ls hl hP hD hS)
theorem ast_X7_inItem {K : Kx} {cc : ByteArray} {own : String} {g : Gm} {nL d : Nat} {ret : Option FieldType} {Q : State → Prop} {pc : Nat} {lv : List (Nat × Value)} {st : List Value} {σ : St} (hC : Ok K cc own g nL d ret) {i x : Int32} {ρ : Type} {o : ρ} {f : St → Option ρ} (hd : decode cc pc = .ok (.iastore, 1)) (h : ast σ 22 300 i x f = some o) (k : ∀ σ2, f σ2 = some o → J K (wM g) nL Q (pc + 1) lv (st) σ2) : J K (wM g) nL Q (pc) lv (.int x :: .int i :: .ref (g.1 23) :: st) σ := by
  obtain ⟨p, l, e, R, s, m, args, below, meth, c, D, A⟩ := K
  obtain ⟨hx, hb, hml, hown, hts, hK, hA, hSF, hR, hr, hlk⟩ := hC
  obtain ⟨hin, h⟩ := ast_some h
  exact fun H locs ls hl hP hD hS => va_iast hx hb hK hP hD hS 23 0 rfl rfl hin hd (fun H locs hP hD hS => k _ h H locs ls hl hP hD hS)
theorem ald_X7_left {K : Kx} {cc : ByteArray} {own : String} {g : Gm} {nL d : Nat} {ret : Option FieldType} {Q : State → Prop} {pc : Nat} {lv : List (Nat × Value)} {st : List Value} {σ : St} (hC : Ok K cc own g nL d ret) {i : Int32} {ρ : Type} {o : ρ} {f : Int32 → Option ρ} (hd : decode cc pc = .ok (.iaload, 1)) (h : ald σ 23 1344 i f = some o) (k : ∀ v, f v = some o → J K (wM g) nL Q (pc + 1) lv (.int v :: st) σ) : J K (wM g) nL Q (pc) lv (.int i :: .ref (g.1 24) :: st) σ := by
  obtain ⟨p, l, e, R, s, m, args, below, meth, c, D, A⟩ := K
  obtain ⟨hx, hb, hml, hown, hts, hK, hA, hSF, hR, hr, hlk⟩ := hC
  obtain ⟨hin, h⟩ := ald_some h
  exact fun H locs ls hl hP hD hS => va_iald hx hb hK hP 24 0 rfl rfl hin hd (k _ h H locs ls hl hP hD hS)
theorem ast_X7_left {K : Kx} {cc : ByteArray} {own : String} {g : Gm} {nL d : Nat} {ret : Option FieldType} {Q : State → Prop} {pc : Nat} {lv : List (Nat × Value)} {st : List Value} {σ : St} (hC : Ok K cc own g nL d ret) {i x : Int32} {ρ : Type} {o : ρ} {f : St → Option ρ} (hd : decode cc pc = .ok (.iastore, 1)) (h : ast σ 23 1344 i x f = some o) (k : ∀ σ2, f σ2 = some o → J K (wM g) nL Q (pc + 1) lv (st) σ2) : J K (wM g) nL Q (pc) lv (.int x :: .int i :: .ref (g.1 24) :: st) σ := by
  obtain ⟨p, l, e, R, s, m, args, below, meth, c, D, A⟩ := K
  obtain ⟨hx, hb, hml, hown, hts, hK, hA, hSF, hR, hr, hlk⟩ := hC
  obtain ⟨hin, h⟩ := ast_some h
  exact fun H locs ls hl hP hD hS => va_iast hx hb hK hP hD hS 24 0 rfl rfl hin hd (fun H locs hP hD hS => k _ h H locs ls hl hP hD hS)
theorem ald_X7_soonest {K : Kx} {cc : ByteArray} {own : String} {g : Gm} {nL d : Nat} {ret : Option FieldType} {Q : State → Prop} {pc : Nat} {lv : List (Nat × Value)} {st : List Value} {σ : St} (hC : Ok K cc own g nL d ret) {i : Int32} {ρ : Type} {o : ρ} {f : Int32 → Option ρ} (hd : decode cc pc = .ok (.iaload, 1)) (h : ald σ 24 24 i f = some o) (k : ∀ v, f v = some o → J K (wM g) nL Q (pc + 1) lv (.int v :: st) σ) : J K (wM g) nL Q (pc) lv (.int i :: .ref (g.1 25) :: st) σ := by
  obtain ⟨p, l, e, R, s, m, args, below, meth, c, D, A⟩ := K
  obtain ⟨hx, hb, hml, hown, hts, hK, hA, hSF, hR, hr, hlk⟩ := hC
  obtain ⟨hin, h⟩ := ald_some h
  exact fun H locs ls hl hP hD hS => va_iald hx hb hK hP 25 0 rfl rfl hin hd (k _ h H locs ls hl hP hD hS)
theorem ast_X7_soonest {K : Kx} {cc : ByteArray} {own : String} {g : Gm} {nL d : Nat} {ret : Option FieldType} {Q : State → Prop} {pc : Nat} {lv : List (Nat × Value)} {st : List Value} {σ : St} (hC : Ok K cc own g nL d ret) {i x : Int32} {ρ : Type} {o : ρ} {f : St → Option ρ} (hd : decode cc pc = .ok (.iastore, 1)) (h : ast σ 24 24 i x f = some o) (k : ∀ σ2, f σ2 = some o → J K (wM g) nL Q (pc + 1) lv (st) σ2) : J K (wM g) nL Q (pc) lv (.int x :: .int i :: .ref (g.1 25) :: st) σ := by
  obtain ⟨p, l, e, R, s, m, args, below, meth, c, D, A⟩ := K
  obtain ⟨hx, hb, hml, hown, hts, hK, hA, hSF, hR, hr, hlk⟩ := hC
  obtain ⟨hin, h⟩ := ast_some h
  exact fun H locs ls hl hP hD hS => va_iast hx hb hK hP hD hS 25 0 rfl rfl hin hd (fun H locs hP hD hS => k _ h H locs ls hl hP hD hS)
theorem ald_X7_rows {K : Kx} {cc : ByteArray} {own : String} {g : Gm} {nL d : Nat} {ret : Option FieldType} {Q : State → Prop} {pc : Nat} {lv : List (Nat × Value)} {st : List Value} {σ : St} (hC : Ok K cc own g nL d ret) {i : Int32} {ρ : Type} {o : ρ} {f : Int32 → Option ρ} (hd : decode cc pc = .ok (.iaload, 1)) (h : ald σ 25 55296 i f = some o) (k : ∀ v, f v = some o → J K (wM g) nL Q (pc + 1) lv (.int v :: st) σ) : J K (wM g) nL Q (pc) lv (.int i :: .ref (g.1 26) :: st) σ := by
  obtain ⟨p, l, e, R, s, m, args, below, meth, c, D, A⟩ := K
  obtain ⟨hx, hb, hml, hown, hts, hK, hA, hSF, hR, hr, hlk⟩ := hC
  obtain ⟨hin, h⟩ := ald_some h
  exact fun H locs ls hl hP hD hS => va_iald hx hb hK hP 26 0 rfl rfl hin hd (k _ h H locs ls hl hP hD hS)
theorem ast_X7_rows {K : Kx} {cc : ByteArray} {own : String} {g : Gm} {nL d : Nat} {ret : Option FieldType} {Q : State → Prop} {pc : Nat} {lv : List (Nat × Value)} {st : List Value} {σ : St} (hC : Ok K cc own g nL d ret) {i x : Int32} {ρ : Type} {o : ρ} {f : St → Option ρ} (hd : decode cc pc = .ok (.iastore, 1)) (h : ast σ 25 55296 i x f = some o) (k : ∀ σ2, f σ2 = some o → J K (wM g) nL Q (pc + 1) lv (st) σ2) : J K (wM g) nL Q (pc) lv (.int x :: .int i :: .ref (g.1 26) :: st) σ := by
  obtain ⟨p, l, e, R, s, m, args, below, meth, c, D, A⟩ := K
  obtain ⟨hx, hb, hml, hown, hts, hK, hA, hSF, hR, hr, hlk⟩ := hC
  obtain ⟨hin, h⟩ := ast_some h
  exact fun H locs ls hl hP hD hS => va_iast hx hb hK hP hD hS 26 0 rfl rfl hin hd (fun H locs hP hD hS => k _ h H locs ls hl hP hD hS)
theorem ald_X7_next {K : Kx} {cc : ByteArray} {own : String} {g : Gm} {nL d : Nat} {ret : Option FieldType} {Q : State → Prop} {pc : Nat} {lv : List (Nat × Value)} {st : List Value} {σ : St} (hC : Ok K cc own g nL d ret) {i : Int32} {ρ : Type} {o : ρ} {f : Int32 → Option ρ} (hd : decode cc pc = .ok (.iaload, 1)) (h : ald σ 26 55296 i f = some o) (k : ∀ v, f v = some o → J K (wM g) nL Q (pc + 1) lv (.int v :: st) σ) : J K (wM g) nL Q (pc) lv (.int i :: .ref (g.1 27) :: st) σ := by
  obtain ⟨p, l, e, R, s, m, args, below, meth, c, D, A⟩ := K
  obtain ⟨hx, hb, hml, hown, hts, hK, hA, hSF, hR, hr, hlk⟩ := hC
  obtain ⟨hin, h⟩ := ald_some h
  exact fun H locs ls hl hP hD hS => va_iald hx hb hK hP 27 0 rfl rfl hin hd (k _ h H locs ls hl hP hD hS)
theorem ast_X7_next {K : Kx} {cc : ByteArray} {own : String} {g : Gm} {nL d : Nat} {ret : Option FieldType} {Q : State → Prop} {pc : Nat} {lv : List (Nat × Value)} {st : List Value} {σ : St} (hC : Ok K cc own g nL d ret) {i x : Int32} {ρ : Type} {o : ρ} {f : St → Option ρ} (hd : decode cc pc = .ok (.iastore, 1)) (h : ast σ 26 55296 i x f = some o) (k : ∀ σ2, f σ2 = some o → J K (wM g) nL Q (pc + 1) lv (st) σ2) : J K (wM g) nL Q (pc) lv (.int x :: .int i :: .ref (g.1 27) :: st) σ := by
  obtain ⟨p, l, e, R, s, m, args, below, meth, c, D, A⟩ := K
  obtain ⟨hx, hb, hml, hown, hts, hK, hA, hSF, hR, hr, hlk⟩ := hC
  obtain ⟨hin, h⟩ := ast_some h
  exact fun H locs ls hl hP hD hS => va_iast hx hb hK hP hD hS 27 0 rfl rfl hin hd (fun H locs hP hD hS => k _ h H locs ls hl hP hD hS)
theorem ald_X7_taken {K : Kx} {cc : ByteArray} {own : String} {g : Gm} {nL d : Nat} {ret : Option FieldType} {Q : State → Prop} {pc : Nat} {lv : List (Nat × Value)} {st : List Value} {σ : St} (hC : Ok K cc own g nL d ret) {i : Int32} {ρ : Type} {o : ρ} {f : Int32 → Option ρ} (hd : decode cc pc = .ok (.iaload, 1)) (h : ald σ 27 13824 i f = some o) (k : ∀ v, f v = some o → J K (wM g) nL Q (pc + 1) lv (.int v :: st) σ) : J K (wM g) nL Q (pc) lv (.int i :: .ref (g.1 28) :: st) σ := by
  obtain ⟨p, l, e, R, s, m, args, below, meth, c, D, A⟩ := K
  obtain ⟨hx, hb, hml, hown, hts, hK, hA, hSF, hR, hr, hlk⟩ := hC
  obtain ⟨hin, h⟩ := ald_some h
  exact fun H locs ls hl hP hD hS => va_iald hx hb hK hP 28 0 rfl rfl hin hd (k _ h H locs ls hl hP hD hS)
theorem ast_X7_taken {K : Kx} {cc : ByteArray} {own : String} {g : Gm} {nL d : Nat} {ret : Option FieldType} {Q : State → Prop} {pc : Nat} {lv : List (Nat × Value)} {st : List Value} {σ : St} (hC : Ok K cc own g nL d ret) {i x : Int32} {ρ : Type} {o : ρ} {f : St → Option ρ} (hd : decode cc pc = .ok (.iastore, 1)) (h : ast σ 27 13824 i x f = some o) (k : ∀ σ2, f σ2 = some o → J K (wM g) nL Q (pc + 1) lv (st) σ2) : J K (wM g) nL Q (pc) lv (.int x :: .int i :: .ref (g.1 28) :: st) σ := by
  obtain ⟨p, l, e, R, s, m, args, below, meth, c, D, A⟩ := K
  obtain ⟨hx, hb, hml, hown, hts, hK, hA, hSF, hR, hr, hlk⟩ := hC
  obtain ⟨hin, h⟩ := ast_some h
  exact fun H locs ls hl hP hD hS => va_iast hx hb hK hP hD hS 28 0 rfl rfl hin hd (fun H locs hP hD hS => k _ h H locs ls hl hP hD hS)
theorem ald_X7_nextTaken {K : Kx} {cc : ByteArray} {own : String} {g : Gm} {nL d : Nat} {ret : Option FieldType} {Q : State → Prop} {pc : Nat} {lv : List (Nat × Value)} {st : List Value} {σ : St} (hC : Ok K cc own g nL d ret) {i : Int32} {ρ : Type} {o : ρ} {f : Int32 → Option ρ} (hd : decode cc pc = .ok (.iaload, 1)) (h : ald σ 28 13824 i f = some o) (k : ∀ v, f v = some o → J K (wM g) nL Q (pc + 1) lv (.int v :: st) σ) : J K (wM g) nL Q (pc) lv (.int i :: .ref (g.1 29) :: st) σ := by
  obtain ⟨p, l, e, R, s, m, args, below, meth, c, D, A⟩ := K
  obtain ⟨hx, hb, hml, hown, hts, hK, hA, hSF, hR, hr, hlk⟩ := hC
  obtain ⟨hin, h⟩ := ald_some h
  exact fun H locs ls hl hP hD hS => va_iald hx hb hK hP 29 0 rfl rfl hin hd (k _ h H locs ls hl hP hD hS)
theorem ast_X7_nextTaken {K : Kx} {cc : ByteArray} {own : String} {g : Gm} {nL d : Nat} {ret : Option FieldType} {Q : State → Prop} {pc : Nat} {lv : List (Nat × Value)} {st : List Value} {σ : St} (hC : Ok K cc own g nL d ret) {i x : Int32} {ρ : Type} {o : ρ} {f : St → Option ρ} (hd : decode cc pc = .ok (.iastore, 1)) (h : ast σ 28 13824 i x f = some o) (k : ∀ σ2, f σ2 = some o → J K (wM g) nL Q (pc + 1) lv (st) σ2) : J K (wM g) nL Q (pc) lv (.int x :: .int i :: .ref (g.1 29) :: st) σ := by
  obtain ⟨p, l, e, R, s, m, args, below, meth, c, D, A⟩ := K
  obtain ⟨hx, hb, hml, hown, hts, hK, hA, hSF, hR, hr, hlk⟩ := hC
  obtain ⟨hin, h⟩ := ast_some h
  exact fun H locs ls hl hP hD hS => va_iast hx hb hK hP hD hS 29 0 rfl rfl hin hd (fun H locs hP hD hS => k _ h H locs ls hl hP hD hS)
theorem ald_X7_best {K : Kx} {cc : ByteArray} {own : String} {g : Gm} {nL d : Nat} {ret : Option FieldType} {Q : State → Prop} {pc : Nat} {lv : List (Nat × Value)} {st : List Value} {σ : St} (hC : Ok K cc own g nL d ret) {i : Int32} {ρ : Type} {o : ρ} {f : Int32 → Option ρ} (hd : decode cc pc = .ok (.iaload, 1)) (h : ald σ 29 4 i f = some o) (k : ∀ v, f v = some o → J K (wM g) nL Q (pc + 1) lv (.int v :: st) σ) : J K (wM g) nL Q (pc) lv (.int i :: .ref (g.1 30) :: st) σ := by
  obtain ⟨p, l, e, R, s, m, args, below, meth, c, D, A⟩ := K
  obtain ⟨hx, hb, hml, hown, hts, hK, hA, hSF, hR, hr, hlk⟩ := hC
  obtain ⟨hin, h⟩ := ald_some h
  exact fun H locs ls hl hP hD hS => va_iald hx hb hK hP 30 0 rfl rfl hin hd (k _ h H locs ls hl hP hD hS)
theorem ast_X7_best {K : Kx} {cc : ByteArray} {own : String} {g : Gm} {nL d : Nat} {ret : Option FieldType} {Q : State → Prop} {pc : Nat} {lv : List (Nat × Value)} {st : List Value} {σ : St} (hC : Ok K cc own g nL d ret) {i x : Int32} {ρ : Type} {o : ρ} {f : St → Option ρ} (hd : decode cc pc = .ok (.iastore, 1)) (h : ast σ 29 4 i x f = some o) (k : ∀ σ2, f σ2 = some o → J K (wM g) nL Q (pc + 1) lv (st) σ2) : J K (wM g) nL Q (pc) lv (.int x :: .int i :: .ref (g.1 30) :: st) σ := by
  obtain ⟨p, l, e, R, s, m, args, below, meth, c, D, A⟩ := K
  obtain ⟨hx, hb, hml, hown, hts, hK, hA, hSF, hR, hr, hlk⟩ := hC
  obtain ⟨hin, h⟩ := ast_some h
  exact fun H locs ls hl hP hD hS => va_iast hx hb hK hP hD hS 30 0 rfl rfl hin hd (fun H locs hP hD hS => k _ h H locs ls hl hP hD hS)
theorem ald_X7_itemsOf {K : Kx} {cc : ByteArray} {own : String} {g : Gm} {nL d : Nat} {ret : Option FieldType} {Q : State → Prop} {pc : Nat} {lv : List (Nat × Value)} {st : List Value} {σ : St} (hC : Ok K cc own g nL d ret) {i : Int32} {ρ : Type} {o : ρ} {f : Int32 → Option ρ} (hd : decode cc pc = .ok (.iaload, 1)) (h : ald σ 30 168 i f = some o) (k : ∀ v, f v = some o → J K (wM g) nL Q (pc + 1) lv (.int v :: st) σ) : J K (wM g) nL Q (pc) lv (.int i :: .ref (g.1 31) :: st) σ := by
  obtain ⟨p, l, e, R, s, m, args, below, meth, c, D, A⟩ := K
  obtain ⟨hx, hb, hml, hown, hts, hK, hA, hSF, hR, hr, hlk⟩ := hC
  obtain ⟨hin, h⟩ := ald_some h
  exact fun H locs ls hl hP hD hS => va_iald hx hb hK hP 31 0 rfl rfl hin hd (k _ h H locs ls hl hP hD hS)
theorem ast_X7_itemsOf {K : Kx} {cc : ByteArray} {own : String} {g : Gm} {nL d : Nat} {ret : Option FieldType} {Q : State → Prop} {pc : Nat} {lv : List (Nat × Value)} {st : List Value} {σ : St} (hC : Ok K cc own g nL d ret) {i x : Int32} {ρ : Type} {o : ρ} {f : St → Option ρ} (hd : decode cc pc = .ok (.iastore, 1)) (h : ast σ 30 168 i x f = some o) (k : ∀ σ2, f σ2 = some o → J K (wM g) nL Q (pc + 1) lv (st) σ2) : J K (wM g) nL Q (pc) lv (.int x :: .int i :: .ref (g.1 31) :: st) σ := by
  obtain ⟨p, l, e, R, s, m, args, below, meth, c, D, A⟩ := K
  obtain ⟨hx, hb, hml, hown, hts, hK, hA, hSF, hR, hr, hlk⟩ := hC
  obtain ⟨hin, h⟩ := ast_some h
  exact fun H locs ls hl hP hD hS => va_iast hx hb hK hP hD hS 31 0 rfl rfl hin hd (fun H locs hP hD hS => k _ h H locs ls hl hP hD hS)
theorem ald_X0_seconds {K : Kx} {cc : ByteArray} {own : String} {g : Gm} {nL d : Nat} {ret : Option FieldType} {Q : State → Prop} {pc : Nat} {lv : List (Nat × Value)} {st : List Value} {σ : St} (hC : Ok K cc own g nL d ret) (j : Nat) (hj : j < 7) {i : Int32} {ρ : Type} {o : ρ} {f : Int32 → Option ρ} (hd : decode cc pc = .ok (.iaload, 1)) (h : ald σ (30 + 4 * j + 0) 8 i f = some o) (k : ∀ v, f v = some o → J K (wX g) nL Q (pc + 1) lv (.int v :: st) σ) : J K (wX g) nL Q (pc) lv (.int i :: .ref (g.1 (37 + 5 * j + 1)) :: st) σ := by
  obtain ⟨p, l, e, R, s, m, args, below, meth, c, D, A⟩ := K
  obtain ⟨hx, hb, hml, hown, hts, hK, hA, hSF, hR, hr, hlk⟩ := hC
  obtain ⟨hin, h⟩ := ald_some h
  rcases (show j = 0 ∨ j = 1 ∨ j = 2 ∨ j = 3 ∨ j = 4 ∨ j = 5 ∨ j = 6 by omega) with rfl | rfl | rfl | rfl | rfl | rfl | rfl
  · exact fun H locs ls hl hP hD hS => va_iald hx hb hK hP 38 0 rfl rfl hin hd (k _ h H locs ls hl hP hD hS)
  · exact fun H locs ls hl hP hD hS => va_iald hx hb hK hP 43 0 rfl rfl hin hd (k _ h H locs ls hl hP hD hS)
  · exact fun H locs ls hl hP hD hS => va_iald hx hb hK hP 48 0 rfl rfl hin hd (k _ h H locs ls hl hP hD hS)
  · exact fun H locs ls hl hP hD hS => va_iald hx hb hK hP 53 0 rfl rfl hin hd (k _ h H locs ls hl hP hD hS)
  · exact fun H locs ls hl hP hD hS => va_iald hx hb hK hP 58 0 rfl rfl hin hd (k _ h H locs ls hl hP hD hS)
  · exact fun H locs ls hl hP hD hS => va_iald hx hb hK hP 63 0 rfl rfl hin hd (k _ h H locs ls hl hP hD hS)
  · exact fun H locs ls hl hP hD hS => va_iald hx hb hK hP 68 0 rfl rfl hin hd (k _ h H locs ls hl hP hD hS)
theorem ast_X0_seconds {K : Kx} {cc : ByteArray} {own : String} {g : Gm} {nL d : Nat} {ret : Option FieldType} {Q : State → Prop} {pc : Nat} {lv : List (Nat × Value)} {st : List Value} {σ : St} (hC : Ok K cc own g nL d ret) (j : Nat) (hj : j < 7) {i x : Int32} {ρ : Type} {o : ρ} {f : St → Option ρ} (hd : decode cc pc = .ok (.iastore, 1)) (h : ast σ (30 + 4 * j + 0) 8 i x f = some o) (k : ∀ σ2, f σ2 = some o → J K (wX g) nL Q (pc + 1) lv (st) σ2) : J K (wX g) nL Q (pc) lv (.int x :: .int i :: .ref (g.1 (37 + 5 * j + 1)) :: st) σ := by
  obtain ⟨p, l, e, R, s, m, args, below, meth, c, D, A⟩ := K
  obtain ⟨hx, hb, hml, hown, hts, hK, hA, hSF, hR, hr, hlk⟩ := hC
  obtain ⟨hin, h⟩ := ast_some h
  rcases (show j = 0 ∨ j = 1 ∨ j = 2 ∨ j = 3 ∨ j = 4 ∨ j = 5 ∨ j = 6 by omega) with rfl | rfl | rfl | rfl | rfl | rfl | rfl
  · exact fun H locs ls hl hP hD hS => va_iast hx hb hK hP hD hS 38 0 rfl rfl hin hd (fun H locs hP hD hS => k _ h H locs ls hl hP hD hS)
  · exact fun H locs ls hl hP hD hS => va_iast hx hb hK hP hD hS 43 0 rfl rfl hin hd (fun H locs hP hD hS => k _ h H locs ls hl hP hD hS)
  · exact fun H locs ls hl hP hD hS => va_iast hx hb hK hP hD hS 48 0 rfl rfl hin hd (fun H locs hP hD hS => k _ h H locs ls hl hP hD hS)
  · exact fun H locs ls hl hP hD hS => va_iast hx hb hK hP hD hS 53 0 rfl rfl hin hd (fun H locs hP hD hS => k _ h H locs ls hl hP hD hS)
  · exact fun H locs ls hl hP hD hS => va_iast hx hb hK hP hD hS 58 0 rfl rfl hin hd (fun H locs hP hD hS => k _ h H locs ls hl hP hD hS)
  · exact fun H locs ls hl hP hD hS => va_iast hx hb hK hP hD hS 63 0 rfl rfl hin hd (fun H locs hP hD hS => k _ h H locs ls hl hP hD hS)
  · exact fun H locs ls hl hP hD hS => va_iast hx hb hK hP hD hS 68 0 rfl rfl hin hd (fun H locs hP hD hS => k _ h H locs ls hl hP hD hS)
theorem ald_X0_mood {K : Kx} {cc : ByteArray} {own : String} {g : Gm} {nL d : Nat} {ret : Option FieldType} {Q : State → Prop} {pc : Nat} {lv : List (Nat × Value)} {st : List Value} {σ : St} (hC : Ok K cc own g nL d ret) (j : Nat) (hj : j < 7) {i : Int32} {ρ : Type} {o : ρ} {f : Int32 → Option ρ} (hd : decode cc pc = .ok (.iaload, 1)) (h : ald σ (30 + 4 * j + 1) 8 i f = some o) (k : ∀ v, f v = some o → J K (wX g) nL Q (pc + 1) lv (.int v :: st) σ) : J K (wX g) nL Q (pc) lv (.int i :: .ref (g.1 (37 + 5 * j + 2)) :: st) σ := by
  obtain ⟨p, l, e, R, s, m, args, below, meth, c, D, A⟩ := K
  obtain ⟨hx, hb, hml, hown, hts, hK, hA, hSF, hR, hr, hlk⟩ := hC
  obtain ⟨hin, h⟩ := ald_some h
  rcases (show j = 0 ∨ j = 1 ∨ j = 2 ∨ j = 3 ∨ j = 4 ∨ j = 5 ∨ j = 6 by omega) with rfl | rfl | rfl | rfl | rfl | rfl | rfl
  · exact fun H locs ls hl hP hD hS => va_iald hx hb hK hP 39 0 rfl rfl hin hd (k _ h H locs ls hl hP hD hS)
  · exact fun H locs ls hl hP hD hS => va_iald hx hb hK hP 44 0 rfl rfl hin hd (k _ h H locs ls hl hP hD hS)
  · exact fun H locs ls hl hP hD hS => va_iald hx hb hK hP 49 0 rfl rfl hin hd (k _ h H locs ls hl hP hD hS)
  · exact fun H locs ls hl hP hD hS => va_iald hx hb hK hP 54 0 rfl rfl hin hd (k _ h H locs ls hl hP hD hS)
  · exact fun H locs ls hl hP hD hS => va_iald hx hb hK hP 59 0 rfl rfl hin hd (k _ h H locs ls hl hP hD hS)
  · exact fun H locs ls hl hP hD hS => va_iald hx hb hK hP 64 0 rfl rfl hin hd (k _ h H locs ls hl hP hD hS)
  · exact fun H locs ls hl hP hD hS => va_iald hx hb hK hP 69 0 rfl rfl hin hd (k _ h H locs ls hl hP hD hS)
theorem ast_X0_mood {K : Kx} {cc : ByteArray} {own : String} {g : Gm} {nL d : Nat} {ret : Option FieldType} {Q : State → Prop} {pc : Nat} {lv : List (Nat × Value)} {st : List Value} {σ : St} (hC : Ok K cc own g nL d ret) (j : Nat) (hj : j < 7) {i x : Int32} {ρ : Type} {o : ρ} {f : St → Option ρ} (hd : decode cc pc = .ok (.iastore, 1)) (h : ast σ (30 + 4 * j + 1) 8 i x f = some o) (k : ∀ σ2, f σ2 = some o → J K (wX g) nL Q (pc + 1) lv (st) σ2) : J K (wX g) nL Q (pc) lv (.int x :: .int i :: .ref (g.1 (37 + 5 * j + 2)) :: st) σ := by
  obtain ⟨p, l, e, R, s, m, args, below, meth, c, D, A⟩ := K
  obtain ⟨hx, hb, hml, hown, hts, hK, hA, hSF, hR, hr, hlk⟩ := hC
  obtain ⟨hin, h⟩ := ast_some h
  rcases (show j = 0 ∨ j = 1 ∨ j = 2 ∨ j = 3 ∨ j = 4 ∨ j = 5 ∨ j = 6 by omega) with rfl | rfl | rfl | rfl | rfl | rfl | rfl
  · exact fun H locs ls hl hP hD hS => va_iast hx hb hK hP hD hS 39 0 rfl rfl hin hd (fun H locs hP hD hS => k _ h H locs ls hl hP hD hS)
  · exact fun H locs ls hl hP hD hS => va_iast hx hb hK hP hD hS 44 0 rfl rfl hin hd (fun H locs hP hD hS => k _ h H locs ls hl hP hD hS)
  · exact fun H locs ls hl hP hD hS => va_iast hx hb hK hP hD hS 49 0 rfl rfl hin hd (fun H locs hP hD hS => k _ h H locs ls hl hP hD hS)
  · exact fun H locs ls hl hP hD hS => va_iast hx hb hK hP hD hS 54 0 rfl rfl hin hd (fun H locs hP hD hS => k _ h H locs ls hl hP hD hS)
  · exact fun H locs ls hl hP hD hS => va_iast hx hb hK hP hD hS 59 0 rfl rfl hin hd (fun H locs hP hD hS => k _ h H locs ls hl hP hD hS)
  · exact fun H locs ls hl hP hD hS => va_iast hx hb hK hP hD hS 64 0 rfl rfl hin hd (fun H locs hP hD hS => k _ h H locs ls hl hP hD hS)
  · exact fun H locs ls hl hP hD hS => va_iast hx hb hK hP hD hS 69 0 rfl rfl hin hd (fun H locs hP hD hS => k _ h H locs ls hl hP hD hS)
theorem ald_X0_wantedNew {K : Kx} {cc : ByteArray} {own : String} {g : Gm} {nL d : Nat} {ret : Option FieldType} {Q : State → Prop} {pc : Nat} {lv : List (Nat × Value)} {st : List Value} {σ : St} (hC : Ok K cc own g nL d ret) (j : Nat) (hj : j < 7) {i : Int32} {ρ : Type} {o : ρ} {f : Int32 → Option ρ} (hd : decode cc pc = .ok (.iaload, 1)) (h : ald σ (30 + 4 * j + 2) 8 i f = some o) (k : ∀ v, f v = some o → J K (wX g) nL Q (pc + 1) lv (.int v :: st) σ) : J K (wX g) nL Q (pc) lv (.int i :: .ref (g.1 (37 + 5 * j + 3)) :: st) σ := by
  obtain ⟨p, l, e, R, s, m, args, below, meth, c, D, A⟩ := K
  obtain ⟨hx, hb, hml, hown, hts, hK, hA, hSF, hR, hr, hlk⟩ := hC
  obtain ⟨hin, h⟩ := ald_some h
  rcases (show j = 0 ∨ j = 1 ∨ j = 2 ∨ j = 3 ∨ j = 4 ∨ j = 5 ∨ j = 6 by omega) with rfl | rfl | rfl | rfl | rfl | rfl | rfl
  · exact fun H locs ls hl hP hD hS => va_iald hx hb hK hP 40 0 rfl rfl hin hd (k _ h H locs ls hl hP hD hS)
  · exact fun H locs ls hl hP hD hS => va_iald hx hb hK hP 45 0 rfl rfl hin hd (k _ h H locs ls hl hP hD hS)
  · exact fun H locs ls hl hP hD hS => va_iald hx hb hK hP 50 0 rfl rfl hin hd (k _ h H locs ls hl hP hD hS)
  · exact fun H locs ls hl hP hD hS => va_iald hx hb hK hP 55 0 rfl rfl hin hd (k _ h H locs ls hl hP hD hS)
  · exact fun H locs ls hl hP hD hS => va_iald hx hb hK hP 60 0 rfl rfl hin hd (k _ h H locs ls hl hP hD hS)
  · exact fun H locs ls hl hP hD hS => va_iald hx hb hK hP 65 0 rfl rfl hin hd (k _ h H locs ls hl hP hD hS)
  · exact fun H locs ls hl hP hD hS => va_iald hx hb hK hP 70 0 rfl rfl hin hd (k _ h H locs ls hl hP hD hS)
theorem ast_X0_wantedNew {K : Kx} {cc : ByteArray} {own : String} {g : Gm} {nL d : Nat} {ret : Option FieldType} {Q : State → Prop} {pc : Nat} {lv : List (Nat × Value)} {st : List Value} {σ : St} (hC : Ok K cc own g nL d ret) (j : Nat) (hj : j < 7) {i x : Int32} {ρ : Type} {o : ρ} {f : St → Option ρ} (hd : decode cc pc = .ok (.iastore, 1)) (h : ast σ (30 + 4 * j + 2) 8 i x f = some o) (k : ∀ σ2, f σ2 = some o → J K (wX g) nL Q (pc + 1) lv (st) σ2) : J K (wX g) nL Q (pc) lv (.int x :: .int i :: .ref (g.1 (37 + 5 * j + 3)) :: st) σ := by
  obtain ⟨p, l, e, R, s, m, args, below, meth, c, D, A⟩ := K
  obtain ⟨hx, hb, hml, hown, hts, hK, hA, hSF, hR, hr, hlk⟩ := hC
  obtain ⟨hin, h⟩ := ast_some h
  rcases (show j = 0 ∨ j = 1 ∨ j = 2 ∨ j = 3 ∨ j = 4 ∨ j = 5 ∨ j = 6 by omega) with rfl | rfl | rfl | rfl | rfl | rfl | rfl
  · exact fun H locs ls hl hP hD hS => va_iast hx hb hK hP hD hS 40 0 rfl rfl hin hd (fun H locs hP hD hS => k _ h H locs ls hl hP hD hS)
  · exact fun H locs ls hl hP hD hS => va_iast hx hb hK hP hD hS 45 0 rfl rfl hin hd (fun H locs hP hD hS => k _ h H locs ls hl hP hD hS)
  · exact fun H locs ls hl hP hD hS => va_iast hx hb hK hP hD hS 50 0 rfl rfl hin hd (fun H locs hP hD hS => k _ h H locs ls hl hP hD hS)
  · exact fun H locs ls hl hP hD hS => va_iast hx hb hK hP hD hS 55 0 rfl rfl hin hd (fun H locs hP hD hS => k _ h H locs ls hl hP hD hS)
  · exact fun H locs ls hl hP hD hS => va_iast hx hb hK hP hD hS 60 0 rfl rfl hin hd (fun H locs hP hD hS => k _ h H locs ls hl hP hD hS)
  · exact fun H locs ls hl hP hD hS => va_iast hx hb hK hP hD hS 65 0 rfl rfl hin hd (fun H locs hP hD hS => k _ h H locs ls hl hP hD hS)
  · exact fun H locs ls hl hP hD hS => va_iast hx hb hK hP hD hS 70 0 rfl rfl hin hd (fun H locs hP hD hS => k _ h H locs ls hl hP hD hS)
theorem ald_X0_hasSongs {K : Kx} {cc : ByteArray} {own : String} {g : Gm} {nL d : Nat} {ret : Option FieldType} {Q : State → Prop} {pc : Nat} {lv : List (Nat × Value)} {st : List Value} {σ : St} (hC : Ok K cc own g nL d ret) (j : Nat) (hj : j < 7) {i : Int32} {ρ : Type} {o : ρ} {f : Int32 → Option ρ} (hd : decode cc pc = .ok (.baload, 1)) (h : ald σ (30 + 4 * j + 3) 8 i f = some o) (k : ∀ v, f v = some o → J K (wX g) nL Q (pc + 1) lv (.int v :: st) σ) : J K (wX g) nL Q (pc) lv (.int i :: .ref (g.1 (37 + 5 * j + 4)) :: st) σ := by
  obtain ⟨p, l, e, R, s, m, args, below, meth, c, D, A⟩ := K
  obtain ⟨hx, hb, hml, hown, hts, hK, hA, hSF, hR, hr, hlk⟩ := hC
  obtain ⟨hin, h⟩ := ald_some h
  rcases (show j = 0 ∨ j = 1 ∨ j = 2 ∨ j = 3 ∨ j = 4 ∨ j = 5 ∨ j = 6 by omega) with rfl | rfl | rfl | rfl | rfl | rfl | rfl
  · exact fun H locs ls hl hP hD hS => va_zald hx hb hK hP 41 2 rfl rfl hin hd (k _ h H locs ls hl hP hD hS)
  · exact fun H locs ls hl hP hD hS => va_zald hx hb hK hP 46 2 rfl rfl hin hd (k _ h H locs ls hl hP hD hS)
  · exact fun H locs ls hl hP hD hS => va_zald hx hb hK hP 51 2 rfl rfl hin hd (k _ h H locs ls hl hP hD hS)
  · exact fun H locs ls hl hP hD hS => va_zald hx hb hK hP 56 2 rfl rfl hin hd (k _ h H locs ls hl hP hD hS)
  · exact fun H locs ls hl hP hD hS => va_zald hx hb hK hP 61 2 rfl rfl hin hd (k _ h H locs ls hl hP hD hS)
  · exact fun H locs ls hl hP hD hS => va_zald hx hb hK hP 66 2 rfl rfl hin hd (k _ h H locs ls hl hP hD hS)
  · exact fun H locs ls hl hP hD hS => va_zald hx hb hK hP 71 2 rfl rfl hin hd (k _ h H locs ls hl hP hD hS)
theorem ast_X0_hasSongs {K : Kx} {cc : ByteArray} {own : String} {g : Gm} {nL d : Nat} {ret : Option FieldType} {Q : State → Prop} {pc : Nat} {lv : List (Nat × Value)} {st : List Value} {σ : St} (hC : Ok K cc own g nL d ret) (j : Nat) (hj : j < 7) {i x : Int32} {ρ : Type} {o : ρ} {f : St → Option ρ} (hd : decode cc pc = .ok (.bastore, 1)) (h : ast σ (30 + 4 * j + 3) 8 i (vp_nar .boolean x) f = some o) (k : ∀ σ2, f σ2 = some o → J K (wX g) nL Q (pc + 1) lv (st) σ2) : J K (wX g) nL Q (pc) lv (.int x :: .int i :: .ref (g.1 (37 + 5 * j + 4)) :: st) σ := by
  obtain ⟨p, l, e, R, s, m, args, below, meth, c, D, A⟩ := K
  obtain ⟨hx, hb, hml, hown, hts, hK, hA, hSF, hR, hr, hlk⟩ := hC
  obtain ⟨hin, h⟩ := ast_some h
  rcases (show j = 0 ∨ j = 1 ∨ j = 2 ∨ j = 3 ∨ j = 4 ∨ j = 5 ∨ j = 6 by omega) with rfl | rfl | rfl | rfl | rfl | rfl | rfl
  · exact fun H locs ls hl hP hD hS => va_zast hx hb hK hP hD hS 41 2 rfl rfl hin hd (fun H locs hP hD hS => k _ h H locs ls hl hP hD hS)
  · exact fun H locs ls hl hP hD hS => va_zast hx hb hK hP hD hS 46 2 rfl rfl hin hd (fun H locs hP hD hS => k _ h H locs ls hl hP hD hS)
  · exact fun H locs ls hl hP hD hS => va_zast hx hb hK hP hD hS 51 2 rfl rfl hin hd (fun H locs hP hD hS => k _ h H locs ls hl hP hD hS)
  · exact fun H locs ls hl hP hD hS => va_zast hx hb hK hP hD hS 56 2 rfl rfl hin hd (fun H locs hP hD hS => k _ h H locs ls hl hP hD hS)
  · exact fun H locs ls hl hP hD hS => va_zast hx hb hK hP hD hS 61 2 rfl rfl hin hd (fun H locs hP hD hS => k _ h H locs ls hl hP hD hS)
  · exact fun H locs ls hl hP hD hS => va_zast hx hb hK hP hD hS 66 2 rfl rfl hin hd (fun H locs hP hD hS => k _ h H locs ls hl hP hD hS)
  · exact fun H locs ls hl hP hD hS => va_zast hx hb hK hP hD hS 71 2 rfl rfl hin hd (fun H locs hP hD hS => k _ h H locs ls hl hP hD hS)
theorem ald_clocks {K : Kx} {cc : ByteArray} {own : String} {g : Gm} {nL d : Nat} {ret : Option FieldType} {Q : State → Prop} {pc : Nat} {lv : List (Nat × Value)} {st : List Value} {σ : St} (hC : Ok K cc own g nL d ret) {i : Int32} {ρ : Type} {o : ρ} {F : Option ρ} (hd : decode cc pc = .ok (.aaload, 1)) (h : chk (inB i 6) F = some o) (k : i.toNatClampNeg < 7 → F = some o → J K (wX g) nL Q (pc + 1) lv (.ref (g.1 (37 + 5 * i.toNatClampNeg)) :: st) σ) : J K (wX g) nL Q (pc) lv (.int i :: .ref (g.1 1) :: st) σ := by
  obtain ⟨p, l, e, R, s, m, args, below, meth, c, D, A⟩ := K
  obtain ⟨hx, hb, hml, hown, hts, hK, hA, hSF, hR, hr, hlk⟩ := hC
  obtain ⟨hin, h⟩ := chk_some h
  have hv := inB_in hin
  have h7 : i.toNatClampNeg < 7 := Nat.lt_of_lt_of_le (Nat.not_le.mp fun q => hv (Or.inr q)) (by decide)
  exact fun H locs ls hl hP hD hS => va_aldq hx hb hK hP 1 3 rfl rfl hv hd (k h7 h H locs ls hl hP hD hS)
end
section
theorem zz_ok : True := trivial
end
